theorem dX4_comeToNext_1 : decode cX4_comeToNext 1 = .ok (.getfield 27, 3) := by decide +kernel
theorem dX4_comeToNext_4 : decode cX4_comeToNext 4 = .ok (.iload_n 1, 1) := by decide +kernel
theorem dX4_comeToNext_5 : decode cX4_comeToNext 5 = .ok (.iaload, 1) := by decide +kernel
theorem dX4_comeToNext_6 : decode cX4_comeToNext 6 = .ok (.aload_n 0, 1) := by decide +kernel
theorem dX4_comeToNext_7 : decode cX4_comeToNext 7 = .ok (.getfield 21, 3) := by decide +kernel
theorem dX4_comeToNext_10 : decode cX4_comeToNext 10 = .ok (.iload_n 1, 1) := by decide +kernel
theorem dX4_comeToNext_11 : decode cX4_comeToNext 11 = .ok (.iaload, 1) := by decide +kernel
theorem dX4_comeToNext_12 : decode cX4_comeToNext 12 = .ok (.iadd, 1) := by decide +kernel
theorem dX4_comeToNext_13 : decode cX4_comeToNext 13 = .ok (.istore_n 3, 1) := by decide +kernel
theorem dX4_comeToNext_14 : decode cX4_comeToNext 14 = .ok (.iload_n 3, 1) := by decide +kernel
theorem dX4_comeToNext_15 : decode cX4_comeToNext 15 = .ok (.invokestatic 117, 3) := by decide +kernel
theorem dX4_comeToNext_18 : decode cX4_comeToNext 18 = .ok (.ifCond .ne 11, 3) := by decide +kernel
theorem dX4_comeToNext_21 : decode cX4_comeToNext 21 = .ok (.aload_n 0, 1) := by decide +kernel
theorem dX4_comeToNext_22 : decode cX4_comeToNext 22 = .ok (.getfield 30, 3) := by decide +kernel
theorem dX4_comeToNext_25 : decode cX4_comeToNext 25 = .ok (.iload_n 1, 1) := by decide +kernel
theorem dX4_comeToNext_26 : decode cX4_comeToNext 26 = .ok (.iconst 3, 1) := by decide +kernel
theorem dX4_comeToNext_27 : decode cX4_comeToNext 27 = .ok (.iastore, 1) := by decide +kernel
theorem dX4_comeToNext_28 : decode cX4_comeToNext 28 = .ok (.return_, 1) := by decide +kernel
theorem dX4_comeToNext_29 : decode cX4_comeToNext 29 = .ok (.aload_n 0, 1) := by decide +kernel
theorem dX4_comeToNext_30 : decode cX4_comeToNext 30 = .ok (.getfield 27, 3) := by decide +kernel
theorem dX4_comeToNext_33 : decode cX4_comeToNext 33 = .ok (.iload_n 1, 1) := by decide +kernel
theorem dX4_comeToNext_34 : decode cX4_comeToNext 34 = .ok (.iload_n 3, 1) := by decide +kernel
theorem dX4_comeToNext_35 : decode cX4_comeToNext 35 = .ok (.iastore, 1) := by decide +kernel
theorem dX4_comeToNext_36 : decode cX4_comeToNext 36 = .ok (.aload_n 0, 1) := by decide +kernel
theorem dX4_comeToNext_37 : decode cX4_comeToNext 37 = .ok (.getfield 9, 3) := by decide +kernel
theorem dX4_comeToNext_40 : decode cX4_comeToNext 40 = .ok (.iload_n 3, 1) := by decide +kernel
theorem dX4_comeToNext_41 : decode cX4_comeToNext 41 = .ok (.bipush 99, 2) := by decide +kernel
theorem dX4_comeToNext_43 : decode cX4_comeToNext 43 = .ok (.aload_n 0, 1) := by decide +kernel
theorem dX4_comeToNext_44 : decode cX4_comeToNext 44 = .ok (.getfield 9, 3) := by decide +kernel
theorem dX4_comeToNext_47 : decode cX4_comeToNext 47 = .ok (.iload_n 3, 1) := by decide +kernel
theorem dX4_comeToNext_48 : decode cX4_comeToNext 48 = .ok (.iaload, 1) := by decide +kernel
theorem dX4_comeToNext_49 : decode cX4_comeToNext 49 = .ok (.iload_n 2, 1) := by decide +kernel
theorem dX4_comeToNext_50 : decode cX4_comeToNext 50 = .ok (.iadd, 1) := by decide +kernel
theorem dX4_comeToNext_51 : decode cX4_comeToNext 51 = .ok (.invokestatic 120, 3) := by decide +kernel
theorem dX4_comeToNext_54 : decode cX4_comeToNext 54 = .ok (.iastore, 1) := by decide +kernel
theorem dX4_comeToNext_55 : decode cX4_comeToNext 55 = .ok (.iconst 0, 1) := by decide +kernel
theorem dX4_comeToNext_56 : decode cX4_comeToNext 56 = .ok (.istore 4, 2) := by decide +kernel
theorem dX4_comeToNext_58 : decode cX4_comeToNext 58 = .ok (.iload 4, 2) := by decide +kernel
theorem dX4_comeToNext_60 : decode cX4_comeToNext 60 = .ok (.aload_n 0, 1) := by decide +kernel
theorem dX4_comeToNext_61 : decode cX4_comeToNext 61 = .ok (.getfield 52, 3) := by decide +kernel
theorem dX4_comeToNext_64 : decode cX4_comeToNext 64 = .ok (.if_icmp .ge 39, 3) := by decide +kernel
theorem dX4_comeToNext_67 : decode cX4_comeToNext 67 = .ok (.aload_n 0, 1) := by decide +kernel
theorem dX4_comeToNext_68 : decode cX4_comeToNext 68 = .ok (.getfield 27, 3) := by decide +kernel
theorem dX4_comeToNext_71 : decode cX4_comeToNext 71 = .ok (.iload 4, 2) := by decide +kernel
theorem dX4_comeToNext_73 : decode cX4_comeToNext 73 = .ok (.iaload, 1) := by decide +kernel
theorem dX4_comeToNext_74 : decode cX4_comeToNext 74 = .ok (.iload_n 3, 1) := by decide +kernel
theorem dX4_comeToNext_75 : decode cX4_comeToNext 75 = .ok (.if_icmp .ne 22, 3) := by decide +kernel
theorem dX4_comeToNext_78 : decode cX4_comeToNext 78 = .ok (.aload_n 0, 1) := by decide +kernel
theorem dX4_comeToNext_79 : decode cX4_comeToNext 79 = .ok (.getfield 30, 3) := by decide +kernel
theorem dX4_comeToNext_82 : decode cX4_comeToNext 82 = .ok (.iload 4, 2) := by decide +kernel
theorem dX4_comeToNext_84 : decode cX4_comeToNext 84 = .ok (.iaload, 1) := by decide +kernel
theorem dX4_comeToNext_85 : decode cX4_comeToNext 85 = .ok (.iconst 2, 1) := by decide +kernel
theorem dX4_comeToNext_86 : decode cX4_comeToNext 86 = .ok (.if_icmp .ne 11, 3) := by decide +kernel
theorem dX4_comeToNext_89 : decode cX4_comeToNext 89 = .ok (.aload_n 0, 1) := by decide +kernel
theorem dX4_comeToNext_90 : decode cX4_comeToNext 90 = .ok (.getfield 30, 3) := by decide +kernel
theorem dX4_comeToNext_93 : decode cX4_comeToNext 93 = .ok (.iload 4, 2) := by decide +kernel
theorem dX4_comeToNext_95 : decode cX4_comeToNext 95 = .ok (.iconst 1, 1) := by decide +kernel
theorem dX4_comeToNext_96 : decode cX4_comeToNext 96 = .ok (.iastore, 1) := by decide +kernel
theorem dX4_comeToNext_97 : decode cX4_comeToNext 97 = .ok (.iinc 4 1, 3) := by decide +kernel
theorem dX4_comeToNext_100 : decode cX4_comeToNext 100 = .ok (.goto (-42), 3) := by decide +kernel
theorem dX4_comeToNext_103 : decode cX4_comeToNext 103 = .ok (.return_, 1) := by decide +kernel
theorem dX5_init_0 : decode cX5_init 0 = .ok (.aload_n 0, 1) := by decide +kernel
theorem dX5_init_1 : decode cX5_init 1 = .ok (.invokespecial 1, 3) := by decide +kernel
theorem dX5_init_4 : decode cX5_init 4 = .ok (.aload_n 0, 1) := by decide +kernel
theorem dX5_init_5 : decode cX5_init 5 = .ok (.new 7, 3) := by decide +kernel
theorem dX5_init_8 : decode cX5_init 8 = .ok (.dup, 1) := by decide +kernel
theorem dX5_init_9 : decode cX5_init 9 = .ok (.invokespecial 9, 3) := by decide +kernel
theorem dX5_init_12 : decode cX5_init 12 = .ok (.putfield 10, 3) := by decide +kernel
theorem dX5_init_15 : decode cX5_init 15 = .ok (.aload_n 0, 1) := by decide +kernel
theorem dX5_init_16 : decode cX5_init 16 = .ok (.new 7, 3) := by decide +kernel
theorem dX5_init_19 : decode cX5_init 19 = .ok (.dup, 1) := by decide +kernel
theorem dX5_init_20 : decode cX5_init 20 = .ok (.invokespecial 9, 3) := by decide +kernel
theorem dX5_init_23 : decode cX5_init 23 = .ok (.putfield 16, 3) := by decide +kernel
theorem dX5_init_26 : decode cX5_init 26 = .ok (.aload_n 0, 1) := by decide +kernel
theorem dX5_init_27 : decode cX5_init 27 = .ok (.new 7, 3) := by decide +kernel
theorem dX5_init_30 : decode cX5_init 30 = .ok (.dup, 1) := by decide +kernel
theorem dX5_init_31 : decode cX5_init 31 = .ok (.invokespecial 9, 3) := by decide +kernel
theorem dX5_init_34 : decode cX5_init 34 = .ok (.putfield 19, 3) := by decide +kernel
theorem dX5_init_37 : decode cX5_init 37 = .ok (.aload_n 0, 1) := by decide +kernel
theorem dX5_init_38 : decode cX5_init 38 = .ok (.new 22, 3) := by decide +kernel
theorem dX5_init_41 : decode cX5_init 41 = .ok (.dup, 1) := by decide +kernel
theorem dX5_init_42 : decode cX5_init 42 = .ok (.invokespecial 24, 3) := by decide +kernel
theorem dX5_init_45 : decode cX5_init 45 = .ok (.putfield 25, 3) := by decide +kernel
theorem dX5_init_48 : decode cX5_init 48 = .ok (.aload_n 0, 1) := by decide +kernel
theorem dX5_init_49 : decode cX5_init 49 = .ok (.new 29, 3) := by decide +kernel
theorem dX5_init_52 : decode cX5_init 52 = .ok (.dup, 1) := by decide +kernel
theorem dX5_init_53 : decode cX5_init 53 = .ok (.invokespecial 31, 3) := by decide +kernel
theorem dX5_init_56 : decode cX5_init 56 = .ok (.putfield 32, 3) := by decide +kernel
theorem dX5_init_59 : decode cX5_init 59 = .ok (.aload_n 0, 1) := by decide +kernel
theorem dX5_init_60 : decode cX5_init 60 = .ok (.iconst 4, 1) := by decide +kernel
theorem dX5_init_61 : decode cX5_init 61 = .ok (.anewarray 36, 3) := by decide +kernel
theorem dX5_init_64 : decode cX5_init 64 = .ok (.putfield 38, 3) := by decide +kernel
theorem dX5_init_67 : decode cX5_init 67 = .ok (.aload_n 0, 1) := by decide +kernel
theorem dX5_init_68 : decode cX5_init 68 = .ok (.iconst 5, 1) := by decide +kernel
theorem dX5_init_69 : decode cX5_init 69 = .ok (.newarray .int, 2) := by decide +kernel
theorem dX5_init_71 : decode cX5_init 71 = .ok (.putfield 42, 3) := by decide +kernel
theorem dX5_init_74 : decode cX5_init 74 = .ok (.iconst 0, 1) := by decide +kernel
theorem dX5_init_75 : decode cX5_init 75 = .ok (.istore_n 1, 1) := by decide +kernel
theorem dX5_init_76 : decode cX5_init 76 = .ok (.iload_n 1, 1) := by decide +kernel
theorem dX5_init_77 : decode cX5_init 77 = .ok (.iconst 4, 1) := by decide +kernel
theorem dX5_init_78 : decode cX5_init 78 = .ok (.if_icmp .ge 22, 3) := by decide +kernel
theorem dX5_init_81 : decode cX5_init 81 = .ok (.aload_n 0, 1) := by decide +kernel
theorem dX5_init_82 : decode cX5_init 82 = .ok (.getfield 38, 3) := by decide +kernel
theorem dX5_init_85 : decode cX5_init 85 = .ok (.iload_n 1, 1) := by decide +kernel
theorem dX5_init_86 : decode cX5_init 86 = .ok (.new 36, 3) := by decide +kernel
theorem dX5_init_89 : decode cX5_init 89 = .ok (.dup, 1) := by decide +kernel
theorem dX5_init_90 : decode cX5_init 90 = .ok (.invokespecial 46, 3) := by decide +kernel
theorem dX5_init_93 : decode cX5_init 93 = .ok (.aastore, 1) := by decide +kernel
theorem dX5_init_94 : decode cX5_init 94 = .ok (.iinc 1 1, 3) := by decide +kernel
theorem dX5_init_97 : decode cX5_init 97 = .ok (.goto (-21), 3) := by decide +kernel
theorem dX5_init_100 : decode cX5_init 100 = .ok (.return_, 1) := by decide +kernel
theorem dX5_set_0 : decode cX5_set 0 = .ok (.aload_n 0, 1) := by decide +kernel
theorem dX5_set_1 : decode cX5_set 1 = .ok (.iload_n 1, 1) := by decide +kernel
theorem dX5_set_2 : decode cX5_set 2 = .ok (.iload_n 2, 1) := by decide +kernel
theorem dX5_set_3 : decode cX5_set 3 = .ok (.invokevirtual 47, 3) := by decide +kernel
theorem dX5_set_6 : decode cX5_set 6 = .ok (.ifCond .eq 15, 3) := by decide +kernel
theorem dX5_set_9 : decode cX5_set 9 = .ok (.iload_n 3, 1) := by decide +kernel
theorem dX5_set_10 : decode cX5_set 10 = .ok (.ifCond .lt 11, 3) := by decide +kernel
theorem dX5_set_13 : decode cX5_set 13 = .ok (.iload_n 3, 1) := by decide +kernel
theorem dX5_set_14 : decode cX5_set 14 = .ok (.iload_n 1, 1) := by decide +kernel
theorem dX5_set_15 : decode cX5_set 15 = .ok (.invokestatic 51, 3) := by decide +kernel
theorem dX5_set_18 : decode cX5_set 18 = .ok (.if_icmp .le 6, 3) := by decide +kernel
theorem dX5_set_21 : decode cX5_set 21 = .ok (.bipush (-2), 2) := by decide +kernel
theorem dX5_set_23 : decode cX5_set 23 = .ok (.ireturn, 1) := by decide +kernel
theorem dX5_set_24 : decode cX5_set 24 = .ok (.aload_n 0, 1) := by decide +kernel
theorem dX5_set_25 : decode cX5_set 25 = .ok (.iload_n 1, 1) := by decide +kernel
theorem dX5_set_26 : decode cX5_set 26 = .ok (.iload_n 2, 1) := by decide +kernel
theorem dX5_set_27 : decode cX5_set 27 = .ok (.invokevirtual 55, 3) := by decide +kernel
theorem dX5_set_30 : decode cX5_set 30 = .ok (.istore 4, 2) := by decide +kernel
theorem dX5_set_32 : decode cX5_set 32 = .ok (.iload_n 1, 1) := by decide +kernel
theorem dX5_set_33 : decode cX5_set 33 = .ok (.tableswitch 113 0 5 #[39, 50, 61, 74, 87, 100], 39) := by decide +kernel
theorem dX5_set_72 : decode cX5_set 72 = .ok (.aload_n 0, 1) := by decide +kernel
theorem dX5_set_73 : decode cX5_set 73 = .ok (.getfield 10, 3) := by decide +kernel
theorem dX5_set_76 : decode cX5_set 76 = .ok (.iload_n 3, 1) := by decide +kernel
theorem dX5_set_77 : decode cX5_set 77 = .ok (.putfield 59, 3) := by decide +kernel
theorem dX5_set_80 : decode cX5_set 80 = .ok (.goto 76, 3) := by decide +kernel
theorem dX5_set_83 : decode cX5_set 83 = .ok (.aload_n 0, 1) := by decide +kernel
theorem dX5_set_84 : decode cX5_set 84 = .ok (.getfield 10, 3) := by decide +kernel
theorem dX5_set_87 : decode cX5_set 87 = .ok (.iload_n 3, 1) := by decide +kernel
theorem dX5_set_88 : decode cX5_set 88 = .ok (.putfield 63, 3) := by decide +kernel
theorem dX5_set_91 : decode cX5_set 91 = .ok (.goto 65, 3) := by decide +kernel
theorem dX5_set_94 : decode cX5_set 94 = .ok (.aload_n 0, 1) := by decide +kernel
theorem dX5_set_95 : decode cX5_set 95 = .ok (.getfield 10, 3) := by decide +kernel
theorem dX5_set_98 : decode cX5_set 98 = .ok (.getfield 66, 3) := by decide +kernel
theorem dX5_set_101 : decode cX5_set 101 = .ok (.iload_n 2, 1) := by decide +kernel
theorem dX5_set_102 : decode cX5_set 102 = .ok (.iload_n 3, 1) := by decide +kernel
theorem dX5_set_103 : decode cX5_set 103 = .ok (.iastore, 1) := by decide +kernel
theorem dX5_set_104 : decode cX5_set 104 = .ok (.goto 52, 3) := by decide +kernel
theorem dX5_set_107 : decode cX5_set 107 = .ok (.aload_n 0, 1) := by decide +kernel
theorem dX5_set_108 : decode cX5_set 108 = .ok (.getfield 10, 3) := by decide +kernel
theorem dX5_set_111 : decode cX5_set 111 = .ok (.getfield 69, 3) := by decide +kernel
theorem dX5_set_114 : decode cX5_set 114 = .ok (.iload_n 2, 1) := by decide +kernel
theorem dX5_set_115 : decode cX5_set 115 = .ok (.iload_n 3, 1) := by decide +kernel
theorem dX5_set_116 : decode cX5_set 116 = .ok (.iastore, 1) := by decide +kernel
theorem dX5_set_117 : decode cX5_set 117 = .ok (.goto 39, 3) := by decide +kernel
theorem dX5_set_120 : decode cX5_set 120 = .ok (.aload_n 0, 1) := by decide +kernel
theorem dX5_set_121 : decode cX5_set 121 = .ok (.getfield 10, 3) := by decide +kernel
theorem dX5_set_124 : decode cX5_set 124 = .ok (.getfield 72, 3) := by decide +kernel
theorem dX5_set_127 : decode cX5_set 127 = .ok (.iload_n 2, 1) := by decide +kernel
theorem dX5_set_128 : decode cX5_set 128 = .ok (.iload_n 3, 1) := by decide +kernel
theorem dX5_set_129 : decode cX5_set 129 = .ok (.iastore, 1) := by decide +kernel
theorem dX5_set_130 : decode cX5_set 130 = .ok (.goto 26, 3) := by decide +kernel
theorem dX5_set_133 : decode cX5_set 133 = .ok (.aload_n 0, 1) := by decide +kernel
theorem dX5_set_134 : decode cX5_set 134 = .ok (.getfield 10, 3) := by decide +kernel
theorem dX5_set_137 : decode cX5_set 137 = .ok (.getfield 75, 3) := by decide +kernel
theorem dX5_set_140 : decode cX5_set 140 = .ok (.iload_n 2, 1) := by decide +kernel
theorem dX5_set_141 : decode cX5_set 141 = .ok (.iload_n 3, 1) := by decide +kernel
theorem dX5_set_142 : decode cX5_set 142 = .ok (.iastore, 1) := by decide +kernel
theorem dX5_set_143 : decode cX5_set 143 = .ok (.goto 13, 3) := by decide +kernel
theorem dX5_set_146 : decode cX5_set 146 = .ok (.aload_n 0, 1) := by decide +kernel
theorem dX5_set_147 : decode cX5_set 147 = .ok (.getfield 10, 3) := by decide +kernel
theorem dX5_set_150 : decode cX5_set 150 = .ok (.getfield 78, 3) := by decide +kernel
theorem dX5_set_153 : decode cX5_set 153 = .ok (.iload_n 2, 1) := by decide +kernel
theorem dX5_set_154 : decode cX5_set 154 = .ok (.iload_n 3, 1) := by decide +kernel
theorem dX5_set_155 : decode cX5_set 155 = .ok (.iastore, 1) := by decide +kernel
theorem dX5_set_156 : decode cX5_set 156 = .ok (.iload 4, 2) := by decide +kernel
theorem dX5_set_158 : decode cX5_set 158 = .ok (.ireturn, 1) := by decide +kernel
theorem dX5_person_0 : decode cX5_person 0 = .ok (.iload_n 1, 1) := by decide +kernel
theorem dX5_person_1 : decode cX5_person 1 = .ok (.ifCond .lt 29, 3) := by decide +kernel
theorem dX5_person_4 : decode cX5_person 4 = .ok (.iload_n 1, 1) := by decide +kernel
theorem dX5_person_5 : decode cX5_person 5 = .ok (.bipush 6, 2) := by decide +kernel
theorem dX5_person_7 : decode cX5_person 7 = .ok (.if_icmp .ge 23, 3) := by decide +kernel
theorem dX5_person_10 : decode cX5_person 10 = .ok (.iload_n 2, 1) := by decide +kernel
theorem dX5_person_11 : decode cX5_person 11 = .ok (.ifCond .lt 19, 3) := by decide +kernel
theorem dX5_person_14 : decode cX5_person 14 = .ok (.iload_n 2, 1) := by decide +kernel
theorem dX5_person_15 : decode cX5_person 15 = .ok (.bipush 10, 2) := by decide +kernel
theorem dX5_person_17 : decode cX5_person 17 = .ok (.if_icmp .ge 13, 3) := by decide +kernel
theorem dX5_person_20 : decode cX5_person 20 = .ok (.iload_n 3, 1) := by decide +kernel
theorem dX5_person_21 : decode cX5_person 21 = .ok (.iconst 1, 1) := by decide +kernel
theorem dX5_person_22 : decode cX5_person 22 = .ok (.if_icmp .eq 11, 3) := by decide +kernel
theorem dX5_person_25 : decode cX5_person 25 = .ok (.iload_n 3, 1) := by decide +kernel
theorem dX5_person_26 : decode cX5_person 26 = .ok (.iconst (-1), 1) := by decide +kernel
theorem dX5_person_27 : decode cX5_person 27 = .ok (.if_icmp .eq 6, 3) := by decide +kernel
theorem dX5_person_30 : decode cX5_person 30 = .ok (.bipush (-2), 2) := by decide +kernel
theorem dX5_person_32 : decode cX5_person 32 = .ok (.ireturn, 1) := by decide +kernel
theorem dX5_person_33 : decode cX5_person 33 = .ok (.aload_n 0, 1) := by decide +kernel
theorem dX5_person_34 : decode cX5_person 34 = .ok (.getfield 10, 3) := by decide +kernel
theorem dX5_person_37 : decode cX5_person 37 = .ok (.iload_n 1, 1) := by decide +kernel
theorem dX5_person_38 : decode cX5_person 38 = .ok (.iload_n 2, 1) := by decide +kernel
theorem dX5_person_39 : decode cX5_person 39 = .ok (.iload_n 3, 1) := by decide +kernel
theorem dX5_person_40 : decode cX5_person 40 = .ok (.invokevirtual 81, 3) := by decide +kernel
theorem dX5_person_43 : decode cX5_person 43 = .ok (.ireturn, 1) := by decide +kernel
theorem dX5_told_0 : decode cX5_told 0 = .ok (.aload_n 0, 1) := by decide +kernel
theorem dX5_told_1 : decode cX5_told 1 = .ok (.iload_n 2, 1) := by decide +kernel
theorem dX5_told_2 : decode cX5_told 2 = .ok (.iload_n 1, 1) := by decide +kernel
theorem dX5_told_3 : decode cX5_told 3 = .ok (.invokevirtual 47, 3) := by decide +kernel
theorem dX5_told_6 : decode cX5_told 6 = .ok (.ifCond .eq 10, 3) := by decide +kernel
theorem dX5_told_9 : decode cX5_told 9 = .ok (.aload_n 0, 1) := by decide +kernel
theorem dX5_told_10 : decode cX5_told 10 = .ok (.iload_n 2, 1) := by decide +kernel
theorem dX5_told_11 : decode cX5_told 11 = .ok (.iload_n 1, 1) := by decide +kernel
theorem dX5_told_12 : decode cX5_told 12 = .ok (.invokevirtual 55, 3) := by decide +kernel
theorem dX5_told_15 : decode cX5_told 15 = .ok (.ireturn, 1) := by decide +kernel
theorem dX5_told_16 : decode cX5_told 16 = .ok (.iload_n 2, 1) := by decide +kernel
theorem dX5_told_17 : decode cX5_told 17 = .ok (.bipush 12, 2) := by decide +kernel
theorem dX5_told_19 : decode cX5_told 19 = .ok (.if_icmp .ne 25, 3) := by decide +kernel
theorem dX5_told_22 : decode cX5_told 22 = .ok (.iload_n 1, 1) := by decide +kernel
theorem dX5_told_23 : decode cX5_told 23 = .ok (.invokestatic 85, 3) := by decide +kernel
theorem dX5_told_26 : decode cX5_told 26 = .ok (.ifCond .eq 14, 3) := by decide +kernel
theorem dX5_told_29 : decode cX5_told 29 = .ok (.aload_n 0, 1) := by decide +kernel
theorem dX5_told_30 : decode cX5_told 30 = .ok (.getfield 10, 3) := by decide +kernel
theorem dX5_told_33 : decode cX5_told 33 = .ok (.iload_n 1, 1) := by decide +kernel
theorem dX5_told_34 : decode cX5_told 34 = .ok (.invokevirtual 89, 3) := by decide +kernel
theorem dX5_told_37 : decode cX5_told 37 = .ok (.goto 6, 3) := by decide +kernel
theorem dX5_told_40 : decode cX5_told 40 = .ok (.sipush (-1000), 3) := by decide +kernel
theorem dX5_told_43 : decode cX5_told 43 = .ok (.ireturn, 1) := by decide +kernel
theorem dX5_told_44 : decode cX5_told 44 = .ok (.aload_n 0, 1) := by decide +kernel
theorem dX5_told_45 : decode cX5_told 45 = .ok (.iload_n 1, 1) := by decide +kernel
theorem dX5_told_46 : decode cX5_told 46 = .ok (.invokevirtual 92, 3) := by decide +kernel
theorem dX5_told_49 : decode cX5_told 49 = .ok (.ifCond .ne 7, 3) := by decide +kernel
theorem dX5_told_52 : decode cX5_told 52 = .ok (.sipush (-1000), 3) := by decide +kernel
theorem dX5_told_55 : decode cX5_told 55 = .ok (.ireturn, 1) := by decide +kernel
theorem dX5_told_56 : decode cX5_told 56 = .ok (.iload_n 2, 1) := by decide +kernel
theorem dX5_told_57 : decode cX5_told 57 = .ok (.tableswitch 64 7 11 #[35, 45, 57, 57, 57], 35) := by decide +kernel
theorem dX5_told_92 : decode cX5_told 92 = .ok (.aload_n 0, 1) := by decide +kernel
theorem dX5_told_93 : decode cX5_told 93 = .ok (.getfield 10, 3) := by decide +kernel
theorem dX5_told_96 : decode cX5_told 96 = .ok (.getfield 95, 3) := by decide +kernel
theorem dX5_told_99 : decode cX5_told 99 = .ok (.iload_n 1, 1) := by decide +kernel
theorem dX5_told_100 : decode cX5_told 100 = .ok (.iaload, 1) := by decide +kernel
theorem dX5_told_101 : decode cX5_told 101 = .ok (.ireturn, 1) := by decide +kernel
theorem dX5_told_102 : decode cX5_told 102 = .ok (.aload_n 0, 1) := by decide +kernel
theorem dX5_told_103 : decode cX5_told 103 = .ok (.getfield 10, 3) := by decide +kernel
theorem dX5_told_106 : decode cX5_told 106 = .ok (.getfield 98, 3) := by decide +kernel
theorem dX5_told_109 : decode cX5_told 109 = .ok (.iload_n 1, 1) := by decide +kernel
theorem dX5_told_110 : decode cX5_told 110 = .ok (.iaload, 1) := by decide +kernel
theorem dX5_told_111 : decode cX5_told 111 = .ok (.iconst 1, 1) := by decide +kernel
theorem dX5_told_112 : decode cX5_told 112 = .ok (.iadd, 1) := by decide +kernel
theorem dX5_told_113 : decode cX5_told 113 = .ok (.ireturn, 1) := by decide +kernel
theorem dX5_told_114 : decode cX5_told 114 = .ok (.aload_n 0, 1) := by decide +kernel
theorem dX5_told_115 : decode cX5_told 115 = .ok (.iload_n 1, 1) := by decide +kernel
theorem dX5_told_116 : decode cX5_told 116 = .ok (.iload_n 2, 1) := by decide +kernel
theorem dX5_told_117 : decode cX5_told 117 = .ok (.invokevirtual 101, 3) := by decide +kernel
theorem dX5_told_120 : decode cX5_told 120 = .ok (.ireturn, 1) := by decide +kernel
theorem dX5_told_121 : decode cX5_told 121 = .ok (.sipush (-1000), 3) := by decide +kernel
theorem dX5_told_124 : decode cX5_told 124 = .ok (.ireturn, 1) := by decide +kernel
theorem dX5_feed_0 : decode cX5_feed 0 = .ok (.iload_n 1, 1) := by decide +kernel
theorem dX5_feed_1 : decode cX5_feed 1 = .ok (.ifCond .lt 10, 3) := by decide +kernel
theorem dX5_feed_4 : decode cX5_feed 4 = .ok (.iload_n 1, 1) := by decide +kernel
theorem dX5_feed_5 : decode cX5_feed 5 = .ok (.sipush 255, 3) := by decide +kernel
theorem dX5_feed_8 : decode cX5_feed 8 = .ok (.if_icmp .le 6, 3) := by decide +kernel
theorem dX5_feed_11 : decode cX5_feed 11 = .ok (.bipush (-2), 2) := by decide +kernel
theorem dX5_feed_13 : decode cX5_feed 13 = .ok (.ireturn, 1) := by decide +kernel
theorem dX5_feed_14 : decode cX5_feed 14 = .ok (.aload_n 0, 1) := by decide +kernel
theorem dX5_feed_15 : decode cX5_feed 15 = .ok (.getfield 32, 3) := by decide +kernel
theorem dX5_feed_18 : decode cX5_feed 18 = .ok (.iload_n 1, 1) := by decide +kernel
theorem dX5_feed_19 : decode cX5_feed 19 = .ok (.invokevirtual 104, 3) := by decide +kernel
theorem dX5_feed_22 : decode cX5_feed 22 = .ok (.ifCond .eq 13, 3) := by decide +kernel
theorem dX5_feed_25 : decode cX5_feed 25 = .ok (.aload_n 0, 1) := by decide +kernel
theorem dX5_feed_26 : decode cX5_feed 26 = .ok (.getfield 32, 3) := by decide +kernel
theorem dX5_feed_29 : decode cX5_feed 29 = .ok (.getfield 106, 3) := by decide +kernel
theorem dX5_feed_32 : decode cX5_feed 32 = .ok (.goto 5, 3) := by decide +kernel
theorem dX5_feed_35 : decode cX5_feed 35 = .ok (.bipush (-4), 2) := by decide +kernel
theorem dX5_feed_37 : decode cX5_feed 37 = .ok (.ireturn, 1) := by decide +kernel
theorem dX5_text_0 : decode cX5_text 0 = .ok (.aload_n 0, 1) := by decide +kernel
theorem dX5_text_1 : decode cX5_text 1 = .ok (.getfield 25, 3) := by decide +kernel
theorem dX5_text_4 : decode cX5_text 4 = .ok (.invokevirtual 109, 3) := by decide +kernel
theorem dX5_text_7 : decode cX5_text 7 = .ok (.ifCond .eq 6, 3) := by decide +kernel
theorem dX5_text_10 : decode cX5_text 10 = .ok (.bipush (-4), 2) := by decide +kernel
theorem dX5_text_12 : decode cX5_text 12 = .ok (.ireturn, 1) := by decide +kernel
theorem dX5_text_13 : decode cX5_text 13 = .ok (.aload_n 0, 1) := by decide +kernel
theorem dX5_text_14 : decode cX5_text 14 = .ok (.getfield 32, 3) := by decide +kernel
theorem dX5_text_17 : decode cX5_text 17 = .ok (.invokevirtual 113, 3) := by decide +kernel
theorem dX5_text_20 : decode cX5_text 20 = .ok (.istore_n 1, 1) := by decide +kernel
theorem dX5_text_21 : decode cX5_text 21 = .ok (.iload_n 1, 1) := by decide +kernel
theorem dX5_text_22 : decode cX5_text 22 = .ok (.ifCond .eq 27, 3) := by decide +kernel
theorem dX5_text_25 : decode cX5_text 25 = .ok (.aload_n 0, 1) := by decide +kernel
theorem dX5_text_26 : decode cX5_text 26 = .ok (.getfield 25, 3) := by decide +kernel
theorem dX5_text_29 : decode cX5_text 29 = .ok (.aload_n 0, 1) := by decide +kernel
theorem dX5_text_30 : decode cX5_text 30 = .ok (.getfield 32, 3) := by decide +kernel
theorem dX5_text_33 : decode cX5_text 33 = .ok (.invokevirtual 116, 3) := by decide +kernel
theorem dX5_text_36 : decode cX5_text 36 = .ok (.aload_n 0, 1) := by decide +kernel
theorem dX5_text_37 : decode cX5_text 37 = .ok (.getfield 32, 3) := by decide +kernel
theorem dX5_text_40 : decode cX5_text 40 = .ok (.getfield 120, 3) := by decide +kernel
theorem dX5_text_43 : decode cX5_text 43 = .ok (.invokevirtual 123, 3) := by decide +kernel
theorem dX5_text_46 : decode cX5_text 46 = .ok (.goto 13, 3) := by decide +kernel
theorem dX5_text_49 : decode cX5_text 49 = .ok (.bipush (-100), 2) := by decide +kernel
theorem dX5_text_51 : decode cX5_text 51 = .ok (.aload_n 0, 1) := by decide +kernel
theorem dX5_text_52 : decode cX5_text 52 = .ok (.getfield 32, 3) := by decide +kernel
theorem dX5_text_55 : decode cX5_text 55 = .ok (.getfield 126, 3) := by decide +kernel
theorem dX5_text_58 : decode cX5_text 58 = .ok (.isub, 1) := by decide +kernel
theorem dX5_text_59 : decode cX5_text 59 = .ok (.istore_n 2, 1) := by decide +kernel
theorem dX5_text_60 : decode cX5_text 60 = .ok (.aload_n 0, 1) := by decide +kernel
theorem dX5_text_61 : decode cX5_text 61 = .ok (.getfield 32, 3) := by decide +kernel
theorem dX5_text_64 : decode cX5_text 64 = .ok (.iconst 0, 1) := by decide +kernel
theorem dX5_text_65 : decode cX5_text 65 = .ok (.putfield 106, 3) := by decide +kernel
theorem dX5_text_68 : decode cX5_text 68 = .ok (.iload_n 2, 1) := by decide +kernel
theorem dX5_text_69 : decode cX5_text 69 = .ok (.ireturn, 1) := by decide +kernel
theorem dX5_force_0 : decode cX5_force 0 = .ok (.iload_n 1, 1) := by decide +kernel
theorem dX5_force_1 : decode cX5_force 1 = .ok (.ifCond .lt 14, 3) := by decide +kernel
theorem dX5_force_4 : decode cX5_force 4 = .ok (.iload_n 1, 1) := by decide +kernel
theorem dX5_force_5 : decode cX5_force 5 = .ok (.aload_n 0, 1) := by decide +kernel
theorem dX5_force_6 : decode cX5_force 6 = .ok (.getfield 25, 3) := by decide +kernel
theorem dX5_force_9 : decode cX5_force 9 = .ok (.getfield 129, 3) := by decide +kernel
theorem dX5_force_12 : decode cX5_force 12 = .ok (.if_icmp .lt 6, 3) := by decide +kernel
theorem dX5_force_15 : decode cX5_force 15 = .ok (.bipush (-2), 2) := by decide +kernel
theorem dX5_force_17 : decode cX5_force 17 = .ok (.ireturn, 1) := by decide +kernel
theorem dX5_force_18 : decode cX5_force 18 = .ok (.aload_n 0, 1) := by decide +kernel
theorem dX5_force_19 : decode cX5_force 19 = .ok (.getfield 10, 3) := by decide +kernel
theorem dX5_force_22 : decode cX5_force 22 = .ok (.getfield 130, 3) := by decide +kernel
theorem dX5_force_25 : decode cX5_force 25 = .ok (.istore_n 2, 1) := by decide +kernel
theorem dX5_force_26 : decode cX5_force 26 = .ok (.aload_n 0, 1) := by decide +kernel
theorem dX5_force_27 : decode cX5_force 27 = .ok (.getfield 10, 3) := by decide +kernel
theorem dX5_force_30 : decode cX5_force 30 = .ok (.iload_n 1, 1) := by decide +kernel
theorem dX5_force_31 : decode cX5_force 31 = .ok (.putfield 130, 3) := by decide +kernel
theorem dX5_force_34 : decode cX5_force 34 = .ok (.iload_n 2, 1) := by decide +kernel
theorem dX5_force_35 : decode cX5_force 35 = .ok (.ireturn, 1) := by decide +kernel
theorem dX5_starts_0 : decode cX5_starts 0 = .ok (.aload_n 0, 1) := by decide +kernel
theorem dX5_starts_1 : decode cX5_starts 1 = .ok (.iload_n 1, 1) := by decide +kernel
theorem dX5_starts_2 : decode cX5_starts 2 = .ok (.invokevirtual 92, 3) := by decide +kernel
theorem dX5_starts_5 : decode cX5_starts 5 = .ok (.ifCond .ne 6, 3) := by decide +kernel
theorem dX5_starts_8 : decode cX5_starts 8 = .ok (.bipush (-2), 2) := by decide +kernel
theorem dX5_starts_10 : decode cX5_starts 10 = .ok (.ireturn, 1) := by decide +kernel
theorem dX5_starts_11 : decode cX5_starts 11 = .ok (.aload_n 0, 1) := by decide +kernel
theorem dX5_starts_12 : decode cX5_starts 12 = .ok (.getfield 10, 3) := by decide +kernel
theorem dX5_starts_15 : decode cX5_starts 15 = .ok (.getfield 78, 3) := by decide +kernel
theorem dX5_starts_18 : decode cX5_starts 18 = .ok (.iload_n 1, 1) := by decide +kernel
theorem dX5_starts_19 : decode cX5_starts 19 = .ok (.iaload, 1) := by decide +kernel
theorem dX5_starts_20 : decode cX5_starts 20 = .ok (.ifCond .eq 6, 3) := by decide +kernel
theorem dX5_starts_23 : decode cX5_starts 23 = .ok (.bipush (-3), 2) := by decide +kernel
theorem dX5_starts_25 : decode cX5_starts 25 = .ok (.ireturn, 1) := by decide +kernel
theorem dX5_starts_26 : decode cX5_starts 26 = .ok (.aload_n 0, 1) := by decide +kernel
theorem dX5_starts_27 : decode cX5_starts 27 = .ok (.getfield 10, 3) := by decide +kernel
theorem dX5_starts_30 : decode cX5_starts 30 = .ok (.getfield 78, 3) := by decide +kernel
theorem dX5_starts_33 : decode cX5_starts 33 = .ok (.iload_n 1, 1) := by decide +kernel
theorem dX5_starts_34 : decode cX5_starts 34 = .ok (.iconst 1, 1) := by decide +kernel
theorem dX5_starts_35 : decode cX5_starts 35 = .ok (.iastore, 1) := by decide +kernel
theorem dX5_starts_36 : decode cX5_starts 36 = .ok (.aload_n 0, 1) := by decide +kernel
theorem dX5_starts_37 : decode cX5_starts 37 = .ok (.getfield 10, 3) := by decide +kernel
theorem dX5_starts_40 : decode cX5_starts 40 = .ok (.iconst 1, 1) := by decide +kernel
theorem dX5_starts_41 : decode cX5_starts 41 = .ok (.invokevirtual 133, 3) := by decide +kernel
theorem dX5_starts_44 : decode cX5_starts 44 = .ok (.ireturn, 1) := by decide +kernel
theorem dX5_hour_0 : decode cX5_hour 0 = .ok (.aload_n 0, 1) := by decide +kernel
theorem dX5_hour_1 : decode cX5_hour 1 = .ok (.getfield 10, 3) := by decide +kernel
theorem dX5_hour_4 : decode cX5_hour 4 = .ok (.getfield 59, 3) := by decide +kernel
theorem dX5_hour_7 : decode cX5_hour 7 = .ok (.sipush 999, 3) := by decide +kernel
theorem dX5_hour_10 : decode cX5_hour 10 = .ok (.if_icmp .lt 6, 3) := by decide +kernel
theorem dX5_hour_13 : decode cX5_hour 13 = .ok (.bipush (-3), 2) := by decide +kernel
theorem dX5_hour_15 : decode cX5_hour 15 = .ok (.ireturn, 1) := by decide +kernel
theorem dX5_hour_16 : decode cX5_hour 16 = .ok (.aload_n 0, 1) := by decide +kernel
theorem dX5_hour_17 : decode cX5_hour 17 = .ok (.getfield 10, 3) := by decide +kernel
theorem dX5_hour_20 : decode cX5_hour 20 = .ok (.aload_n 0, 1) := by decide +kernel
theorem dX5_hour_21 : decode cX5_hour 21 = .ok (.getfield 25, 3) := by decide +kernel
theorem dX5_hour_24 : decode cX5_hour 24 = .ok (.invokevirtual 136, 3) := by decide +kernel
theorem dX5_hour_27 : decode cX5_hour 27 = .ok (.aload_n 0, 1) := by decide +kernel
theorem dX5_hour_28 : decode cX5_hour 28 = .ok (.getfield 10, 3) := by decide +kernel
theorem dX5_hour_31 : decode cX5_hour 31 = .ok (.iconst 3, 1) := by decide +kernel
theorem dX5_hour_32 : decode cX5_hour 32 = .ok (.invokevirtual 133, 3) := by decide +kernel
theorem dX5_hour_35 : decode cX5_hour 35 = .ok (.ireturn, 1) := by decide +kernel
theorem dX5_run_0 : decode cX5_run 0 = .ok (.iload_n 3, 1) := by decide +kernel
theorem dX5_run_1 : decode cX5_run 1 = .ok (.bipush 10, 2) := by decide +kernel
theorem dX5_run_3 : decode cX5_run 3 = .ok (.if_icmp .lt 13, 3) := by decide +kernel
theorem dX5_run_6 : decode cX5_run 6 = .ok (.iload_n 3, 1) := by decide +kernel
theorem dX5_run_7 : decode cX5_run 7 = .ok (.bipush 42, 2) := by decide +kernel
theorem dX5_run_9 : decode cX5_run 9 = .ok (.if_icmp .ge 7, 3) := by decide +kernel
theorem dX5_run_12 : decode cX5_run 12 = .ok (.iconst 1, 1) := by decide +kernel
theorem dX5_run_13 : decode cX5_run 13 = .ok (.goto 4, 3) := by decide +kernel
theorem dX5_run_16 : decode cX5_run 16 = .ok (.iconst 0, 1) := by decide +kernel
theorem dX5_run_17 : decode cX5_run 17 = .ok (.istore 4, 2) := by decide +kernel
theorem dX5_run_19 : decode cX5_run 19 = .ok (.aload_n 0, 1) := by decide +kernel
theorem dX5_run_20 : decode cX5_run 20 = .ok (.iload_n 1, 1) := by decide +kernel
theorem dX5_run_21 : decode cX5_run 21 = .ok (.invokevirtual 92, 3) := by decide +kernel
theorem dX5_run_24 : decode cX5_run 24 = .ok (.ifCond .eq 27, 3) := by decide +kernel
theorem dX5_run_27 : decode cX5_run 27 = .ok (.iload_n 2, 1) := by decide +kernel
theorem dX5_run_28 : decode cX5_run 28 = .ok (.ifCond .lt 23, 3) := by decide +kernel
theorem dX5_run_31 : decode cX5_run 31 = .ok (.iload_n 2, 1) := by decide +kernel
theorem dX5_run_32 : decode cX5_run 32 = .ok (.bipush 60, 2) := by decide +kernel
theorem dX5_run_34 : decode cX5_run 34 = .ok (.if_icmp .gt 17, 3) := by decide +kernel
theorem dX5_run_37 : decode cX5_run 37 = .ok (.iload_n 3, 1) := by decide +kernel
theorem dX5_run_38 : decode cX5_run 38 = .ok (.ifCond .lt 13, 3) := by decide +kernel
theorem dX5_run_41 : decode cX5_run 41 = .ok (.iload_n 3, 1) := by decide +kernel
theorem dX5_run_42 : decode cX5_run 42 = .ok (.iconst 4, 1) := by decide +kernel
theorem dX5_run_43 : decode cX5_run 43 = .ok (.if_icmp .le 11, 3) := by decide +kernel
theorem dX5_run_46 : decode cX5_run 46 = .ok (.iload 4, 2) := by decide +kernel
theorem dX5_run_48 : decode cX5_run 48 = .ok (.ifCond .ne 6, 3) := by decide +kernel
theorem dX5_run_51 : decode cX5_run 51 = .ok (.bipush (-2), 2) := by decide +kernel
theorem dX5_run_53 : decode cX5_run 53 = .ok (.ireturn, 1) := by decide +kernel
theorem dX5_run_54 : decode cX5_run 54 = .ok (.aload_n 0, 1) := by decide +kernel
theorem dX5_run_55 : decode cX5_run 55 = .ok (.getfield 16, 3) := by decide +kernel
theorem dX5_run_58 : decode cX5_run 58 = .ok (.aload_n 0, 1) := by decide +kernel
theorem dX5_run_59 : decode cX5_run 59 = .ok (.getfield 10, 3) := by decide +kernel
theorem dX5_run_62 : decode cX5_run 62 = .ok (.invokevirtual 140, 3) := by decide +kernel
theorem dX5_run_65 : decode cX5_run 65 = .ok (.aload_n 0, 1) := by decide +kernel
theorem dX5_run_66 : decode cX5_run 66 = .ok (.getfield 16, 3) := by decide +kernel
theorem dX5_run_69 : decode cX5_run 69 = .ok (.iload_n 2, 1) := by decide +kernel
theorem dX5_run_70 : decode cX5_run 70 = .ok (.aload_n 0, 1) := by decide +kernel
theorem dX5_run_71 : decode cX5_run 71 = .ok (.getfield 25, 3) := by decide +kernel
theorem dX5_run_74 : decode cX5_run 74 = .ok (.invokevirtual 144, 3) := by decide +kernel
theorem dX5_run_77 : decode cX5_run 77 = .ok (.iload_n 3, 1) := by decide +kernel
theorem dX5_run_78 : decode cX5_run 78 = .ok (.tableswitch 82 0 4 #[34, 44, 54, 64, 73], 34) := by decide +kernel
theorem dX5_run_112 : decode cX5_run 112 = .ok (.aload_n 0, 1) := by decide +kernel
theorem dX5_run_113 : decode cX5_run 113 = .ok (.getfield 16, 3) := by decide +kernel
theorem dX5_run_116 : decode cX5_run 116 = .ok (.getfield 75, 3) := by decide +kernel
theorem dX5_run_119 : decode cX5_run 119 = .ok (.iload_n 1, 1) := by decide +kernel
theorem dX5_run_120 : decode cX5_run 120 = .ok (.iaload, 1) := by decide +kernel
theorem dX5_run_121 : decode cX5_run 121 = .ok (.ireturn, 1) := by decide +kernel
theorem dX5_run_122 : decode cX5_run 122 = .ok (.aload_n 0, 1) := by decide +kernel
theorem dX5_run_123 : decode cX5_run 123 = .ok (.getfield 16, 3) := by decide +kernel
theorem dX5_run_126 : decode cX5_run 126 = .ok (.getfield 78, 3) := by decide +kernel
theorem dX5_run_129 : decode cX5_run 129 = .ok (.iload_n 1, 1) := by decide +kernel
theorem dX5_run_130 : decode cX5_run 130 = .ok (.iaload, 1) := by decide +kernel
theorem dX5_run_131 : decode cX5_run 131 = .ok (.ireturn, 1) := by decide +kernel
theorem dX5_run_132 : decode cX5_run 132 = .ok (.aload_n 0, 1) := by decide +kernel
theorem dX5_run_133 : decode cX5_run 133 = .ok (.getfield 16, 3) := by decide +kernel
theorem dX5_run_136 : decode cX5_run 136 = .ok (.getfield 72, 3) := by decide +kernel
theorem dX5_run_139 : decode cX5_run 139 = .ok (.iload_n 1, 1) := by decide +kernel
theorem dX5_run_140 : decode cX5_run 140 = .ok (.iaload, 1) := by decide +kernel
theorem dX5_run_141 : decode cX5_run 141 = .ok (.ireturn, 1) := by decide +kernel
theorem dX5_run_142 : decode cX5_run 142 = .ok (.aload_n 0, 1) := by decide +kernel
theorem dX5_run_143 : decode cX5_run 143 = .ok (.getfield 16, 3) := by decide +kernel
theorem dX5_run_146 : decode cX5_run 146 = .ok (.iconst 3, 1) := by decide +kernel
theorem dX5_run_147 : decode cX5_run 147 = .ok (.invokevirtual 133, 3) := by decide +kernel
theorem dX5_run_150 : decode cX5_run 150 = .ok (.ireturn, 1) := by decide +kernel
theorem dX5_run_151 : decode cX5_run 151 = .ok (.aload_n 0, 1) := by decide +kernel
theorem dX5_run_152 : decode cX5_run 152 = .ok (.getfield 16, 3) := by decide +kernel
theorem dX5_run_155 : decode cX5_run 155 = .ok (.iconst 2, 1) := by decide +kernel
theorem dX5_run_156 : decode cX5_run 156 = .ok (.invokevirtual 133, 3) := by decide +kernel
theorem dX5_run_159 : decode cX5_run 159 = .ok (.ireturn, 1) := by decide +kernel
theorem dX5_run_160 : decode cX5_run 160 = .ok (.aload_n 0, 1) := by decide +kernel
theorem dX5_run_161 : decode cX5_run 161 = .ok (.getfield 16, 3) := by decide +kernel
theorem dX5_run_164 : decode cX5_run 164 = .ok (.getfield 66, 3) := by decide +kernel
theorem dX5_run_167 : decode cX5_run 167 = .ok (.iload_n 3, 1) := by decide +kernel
theorem dX5_run_168 : decode cX5_run 168 = .ok (.bipush 10, 2) := by decide +kernel
theorem dX5_run_170 : decode cX5_run 170 = .ok (.isub, 1) := by decide +kernel
theorem dX5_run_171 : decode cX5_run 171 = .ok (.iaload, 1) := by decide +kernel
theorem dX5_run_172 : decode cX5_run 172 = .ok (.ireturn, 1) := by decide +kernel
theorem dX5_arrives_0 : decode cX5_arrives 0 = .ok (.aload_n 0, 1) := by decide +kernel
theorem dX5_arrives_1 : decode cX5_arrives 1 = .ok (.iload_n 1, 1) := by decide +kernel
theorem dX5_arrives_2 : decode cX5_arrives 2 = .ok (.invokevirtual 92, 3) := by decide +kernel
theorem dX5_arrives_5 : decode cX5_arrives 5 = .ok (.ifCond .ne 6, 3) := by decide +kernel
theorem dX5_arrives_8 : decode cX5_arrives 8 = .ok (.bipush (-2), 2) := by decide +kernel
theorem dX5_arrives_10 : decode cX5_arrives 10 = .ok (.ireturn, 1) := by decide +kernel
theorem dX5_arrives_11 : decode cX5_arrives 11 = .ok (.aload_n 0, 1) := by decide +kernel
theorem dX5_arrives_12 : decode cX5_arrives 12 = .ok (.getfield 16, 3) := by decide +kernel
theorem dX5_arrives_15 : decode cX5_arrives 15 = .ok (.aload_n 0, 1) := by decide +kernel
theorem dX5_arrives_16 : decode cX5_arrives 16 = .ok (.getfield 10, 3) := by decide +kernel
theorem dX5_arrives_19 : decode cX5_arrives 19 = .ok (.invokevirtual 140, 3) := by decide +kernel
theorem dX5_arrives_22 : decode cX5_arrives 22 = .ok (.iconst 0, 1) := by decide +kernel
theorem dX5_arrives_23 : decode cX5_arrives 23 = .ok (.istore_n 2, 1) := by decide +kernel
theorem dX5_arrives_24 : decode cX5_arrives 24 = .ok (.iload_n 2, 1) := by decide +kernel
theorem dX5_arrives_25 : decode cX5_arrives 25 = .ok (.bipush 60, 2) := by decide +kernel
theorem dX5_arrives_27 : decode cX5_arrives 27 = .ok (.if_icmp .gt 35, 3) := by decide +kernel
theorem dX5_arrives_30 : decode cX5_arrives 30 = .ok (.aload_n 0, 1) := by decide +kernel
theorem dX5_arrives_31 : decode cX5_arrives 31 = .ok (.getfield 16, 3) := by decide +kernel
theorem dX5_arrives_34 : decode cX5_arrives 34 = .ok (.getfield 78, 3) := by decide +kernel
theorem dX5_arrives_37 : decode cX5_arrives 37 = .ok (.iload_n 1, 1) := by decide +kernel
theorem dX5_arrives_38 : decode cX5_arrives 38 = .ok (.iaload, 1) := by decide +kernel
theorem dX5_arrives_39 : decode cX5_arrives 39 = .ok (.iconst 3, 1) := by decide +kernel
theorem dX5_arrives_40 : decode cX5_arrives 40 = .ok (.if_icmp .ne 5, 3) := by decide +kernel
theorem dX5_arrives_43 : decode cX5_arrives 43 = .ok (.iload_n 2, 1) := by decide +kernel
theorem dX5_arrives_44 : decode cX5_arrives 44 = .ok (.ireturn, 1) := by decide +kernel
theorem dX5_arrives_45 : decode cX5_arrives 45 = .ok (.aload_n 0, 1) := by decide +kernel
theorem dX5_arrives_46 : decode cX5_arrives 46 = .ok (.getfield 16, 3) := by decide +kernel
theorem dX5_arrives_49 : decode cX5_arrives 49 = .ok (.aload_n 0, 1) := by decide +kernel
theorem dX5_arrives_50 : decode cX5_arrives 50 = .ok (.getfield 25, 3) := by decide +kernel
theorem dX5_arrives_53 : decode cX5_arrives 53 = .ok (.invokevirtual 136, 3) := by decide +kernel
theorem dX5_arrives_56 : decode cX5_arrives 56 = .ok (.iinc 2 1, 3) := by decide +kernel
theorem dX5_arrives_59 : decode cX5_arrives 59 = .ok (.goto (-35), 3) := by decide +kernel
theorem dX5_arrives_62 : decode cX5_arrives 62 = .ok (.iconst (-1), 1) := by decide +kernel
theorem dX5_arrives_63 : decode cX5_arrives 63 = .ok (.ireturn, 1) := by decide +kernel
theorem dX5_way_0 : decode cX5_way 0 = .ok (.iload_n 1, 1) := by decide +kernel
theorem dX5_way_1 : decode cX5_way 1 = .ok (.tableswitch 86 0 4 #[35, 43, 59, 68, 77], 35) := by decide +kernel
theorem dX5_way_36 : decode cX5_way 36 = .ok (.aload_n 0, 1) := by decide +kernel
theorem dX5_way_37 : decode cX5_way 37 = .ok (.getfield 10, 3) := by decide +kernel
theorem dX5_way_40 : decode cX5_way 40 = .ok (.invokevirtual 148, 3) := by decide +kernel
theorem dX5_way_43 : decode cX5_way 43 = .ok (.ireturn, 1) := by decide +kernel
theorem dX5_way_44 : decode cX5_way 44 = .ok (.aload_n 0, 1) := by decide +kernel
theorem dX5_way_45 : decode cX5_way 45 = .ok (.getfield 10, 3) := by decide +kernel
theorem dX5_way_48 : decode cX5_way 48 = .ok (.getfield 66, 3) := by decide +kernel
theorem dX5_way_51 : decode cX5_way 51 = .ok (.aload_n 0, 1) := by decide +kernel
theorem dX5_way_52 : decode cX5_way 52 = .ok (.getfield 10, 3) := by decide +kernel
theorem dX5_way_55 : decode cX5_way 55 = .ok (.invokevirtual 148, 3) := by decide +kernel
theorem dX5_way_58 : decode cX5_way 58 = .ok (.iaload, 1) := by decide +kernel
theorem dX5_way_59 : decode cX5_way 59 = .ok (.ireturn, 1) := by decide +kernel
theorem dX5_way_60 : decode cX5_way 60 = .ok (.aload_n 0, 1) := by decide +kernel
theorem dX5_way_61 : decode cX5_way 61 = .ok (.getfield 10, 3) := by decide +kernel
theorem dX5_way_64 : decode cX5_way 64 = .ok (.iconst 1, 1) := by decide +kernel
theorem dX5_way_65 : decode cX5_way 65 = .ok (.invokevirtual 133, 3) := by decide +kernel
theorem dX5_way_68 : decode cX5_way 68 = .ok (.ireturn, 1) := by decide +kernel
theorem dX5_way_69 : decode cX5_way 69 = .ok (.aload_n 0, 1) := by decide +kernel
theorem dX5_way_70 : decode cX5_way 70 = .ok (.getfield 10, 3) := by decide +kernel
theorem dX5_way_73 : decode cX5_way 73 = .ok (.iconst 2, 1) := by decide +kernel
theorem dX5_way_74 : decode cX5_way 74 = .ok (.invokevirtual 133, 3) := by decide +kernel
theorem dX5_way_77 : decode cX5_way 77 = .ok (.ireturn, 1) := by decide +kernel
theorem dX5_way_78 : decode cX5_way 78 = .ok (.aload_n 0, 1) := by decide +kernel
theorem dX5_way_79 : decode cX5_way 79 = .ok (.getfield 10, 3) := by decide +kernel
theorem dX5_way_82 : decode cX5_way 82 = .ok (.iconst 3, 1) := by decide +kernel
theorem dX5_way_83 : decode cX5_way 83 = .ok (.invokevirtual 133, 3) := by decide +kernel
theorem dX5_way_86 : decode cX5_way 86 = .ok (.ireturn, 1) := by decide +kernel
theorem dX5_way_87 : decode cX5_way 87 = .ok (.bipush (-2), 2) := by decide +kernel
theorem dX5_way_89 : decode cX5_way 89 = .ok (.ireturn, 1) := by decide +kernel
theorem dX5_shifts_0 : decode cX5_shifts 0 = .ok (.iload_n 1, 1) := by decide +kernel
theorem dX5_shifts_1 : decode cX5_shifts 1 = .ok (.ifCond .lt 18, 3) := by decide +kernel
theorem dX5_shifts_4 : decode cX5_shifts 4 = .ok (.iload_n 1, 1) := by decide +kernel
theorem dX5_shifts_5 : decode cX5_shifts 5 = .ok (.bipush 12, 2) := by decide +kernel
theorem dX5_shifts_7 : decode cX5_shifts 7 = .ok (.if_icmp .gt 12, 3) := by decide +kernel
theorem dX5_shifts_10 : decode cX5_shifts 10 = .ok (.iload_n 2, 1) := by decide +kernel
theorem dX5_shifts_11 : decode cX5_shifts 11 = .ok (.ifCond .lt 8, 3) := by decide +kernel
theorem dX5_shifts_14 : decode cX5_shifts 14 = .ok (.iload_n 2, 1) := by decide +kernel
theorem dX5_shifts_15 : decode cX5_shifts 15 = .ok (.iconst 2, 1) := by decide +kernel
theorem dX5_shifts_16 : decode cX5_shifts 16 = .ok (.if_icmp .le 6, 3) := by decide +kernel
theorem dX5_shifts_19 : decode cX5_shifts 19 = .ok (.bipush (-2), 2) := by decide +kernel
theorem dX5_shifts_21 : decode cX5_shifts 21 = .ok (.ireturn, 1) := by decide +kernel
theorem dX5_shifts_22 : decode cX5_shifts 22 = .ok (.aload_n 0, 1) := by decide +kernel
theorem dX5_shifts_23 : decode cX5_shifts 23 = .ok (.iload_n 1, 1) := by decide +kernel
theorem dX5_shifts_24 : decode cX5_shifts 24 = .ok (.invokevirtual 152, 3) := by decide +kernel
theorem dX5_shifts_27 : decode cX5_shifts 27 = .ok (.iload_n 2, 1) := by decide +kernel
theorem dX5_shifts_28 : decode cX5_shifts 28 = .ok (.ifCond .ne 10, 3) := by decide +kernel
theorem dX5_shifts_31 : decode cX5_shifts 31 = .ok (.aload_n 0, 1) := by decide +kernel
theorem dX5_shifts_32 : decode cX5_shifts 32 = .ok (.getfield 156, 3) := by decide +kernel
theorem dX5_shifts_35 : decode cX5_shifts 35 = .ok (.goto 19, 3) := by decide +kernel
theorem dX5_shifts_38 : decode cX5_shifts 38 = .ok (.iload_n 2, 1) := by decide +kernel
theorem dX5_shifts_39 : decode cX5_shifts 39 = .ok (.iconst 1, 1) := by decide +kernel
theorem dX5_shifts_40 : decode cX5_shifts 40 = .ok (.if_icmp .ne 10, 3) := by decide +kernel
theorem dX5_shifts_43 : decode cX5_shifts 43 = .ok (.aload_n 0, 1) := by decide +kernel
theorem dX5_shifts_44 : decode cX5_shifts 44 = .ok (.getfield 159, 3) := by decide +kernel
theorem dX5_shifts_47 : decode cX5_shifts 47 = .ok (.goto 7, 3) := by decide +kernel
theorem dX5_shifts_50 : decode cX5_shifts 50 = .ok (.aload_n 0, 1) := by decide +kernel
theorem dX5_shifts_51 : decode cX5_shifts 51 = .ok (.getfield 162, 3) := by decide +kernel
theorem dX5_shifts_54 : decode cX5_shifts 54 = .ok (.ireturn, 1) := by decide +kernel
theorem dX5_stands_0 : decode cX5_stands 0 = .ok (.iload_n 1, 1) := by decide +kernel
theorem dX5_stands_1 : decode cX5_stands 1 = .ok (.iconst 1, 1) := by decide +kernel
theorem dX5_stands_2 : decode cX5_stands 2 = .ok (.if_icmp .lt 9, 3) := by decide +kernel
theorem dX5_stands_5 : decode cX5_stands 5 = .ok (.iload_n 1, 1) := by decide +kernel
theorem dX5_stands_6 : decode cX5_stands 6 = .ok (.bipush 40, 2) := by decide +kernel
theorem dX5_stands_8 : decode cX5_stands 8 = .ok (.if_icmp .le 6, 3) := by decide +kernel
theorem dX5_stands_11 : decode cX5_stands 11 = .ok (.bipush (-2), 2) := by decide +kernel
theorem dX5_stands_13 : decode cX5_stands 13 = .ok (.ireturn, 1) := by decide +kernel
theorem dX5_stands_14 : decode cX5_stands 14 = .ok (.aload_n 0, 1) := by decide +kernel
theorem dX5_stands_15 : decode cX5_stands 15 = .ok (.getfield 10, 3) := by decide +kernel
theorem dX5_stands_18 : decode cX5_stands 18 = .ok (.iconst 2, 1) := by decide +kernel
theorem dX5_stands_19 : decode cX5_stands 19 = .ok (.invokevirtual 133, 3) := by decide +kernel
theorem dX5_stands_22 : decode cX5_stands 22 = .ok (.istore_n 2, 1) := by decide +kernel
theorem dX5_stands_23 : decode cX5_stands 23 = .ok (.bipush 99, 2) := by decide +kernel
theorem dX5_stands_25 : decode cX5_stands 25 = .ok (.istore_n 3, 1) := by decide +kernel
theorem dX5_stands_26 : decode cX5_stands 26 = .ok (.iload_n 3, 1) := by decide +kernel
theorem dX5_stands_27 : decode cX5_stands 27 = .ok (.ifCond .lt 54, 3) := by decide +kernel
theorem dX5_stands_30 : decode cX5_stands 30 = .ok (.aload_n 0, 1) := by decide +kernel
theorem dX5_stands_31 : decode cX5_stands 31 = .ok (.getfield 16, 3) := by decide +kernel
theorem dX5_stands_34 : decode cX5_stands 34 = .ok (.aload_n 0, 1) := by decide +kernel
theorem dX5_stands_35 : decode cX5_stands 35 = .ok (.getfield 10, 3) := by decide +kernel
theorem dX5_stands_38 : decode cX5_stands 38 = .ok (.invokevirtual 140, 3) := by decide +kernel
theorem dX5_stands_41 : decode cX5_stands 41 = .ok (.aload_n 0, 1) := by decide +kernel
theorem dX5_stands_42 : decode cX5_stands 42 = .ok (.getfield 16, 3) := by decide +kernel
theorem dX5_stands_45 : decode cX5_stands 45 = .ok (.iload_n 3, 1) := by decide +kernel
theorem dX5_stands_46 : decode cX5_stands 46 = .ok (.putfield 63, 3) := by decide +kernel
theorem dX5_stands_49 : decode cX5_stands 49 = .ok (.aload_n 0, 1) := by decide +kernel
theorem dX5_stands_50 : decode cX5_stands 50 = .ok (.getfield 16, 3) := by decide +kernel
theorem dX5_stands_53 : decode cX5_stands 53 = .ok (.iload_n 1, 1) := by decide +kernel
theorem dX5_stands_54 : decode cX5_stands 54 = .ok (.aload_n 0, 1) := by decide +kernel
theorem dX5_stands_55 : decode cX5_stands 55 = .ok (.getfield 25, 3) := by decide +kernel
theorem dX5_stands_58 : decode cX5_stands 58 = .ok (.invokevirtual 144, 3) := by decide +kernel
theorem dX5_stands_61 : decode cX5_stands 61 = .ok (.aload_n 0, 1) := by decide +kernel
theorem dX5_stands_62 : decode cX5_stands 62 = .ok (.getfield 16, 3) := by decide +kernel
theorem dX5_stands_65 : decode cX5_stands 65 = .ok (.iconst 2, 1) := by decide +kernel
theorem dX5_stands_66 : decode cX5_stands 66 = .ok (.invokevirtual 133, 3) := by decide +kernel
theorem dX5_stands_69 : decode cX5_stands 69 = .ok (.iload_n 2, 1) := by decide +kernel
theorem dX5_stands_70 : decode cX5_stands 70 = .ok (.if_icmp .gt 5, 3) := by decide +kernel
theorem dX5_stands_73 : decode cX5_stands 73 = .ok (.iload_n 3, 1) := by decide +kernel
theorem dX5_stands_74 : decode cX5_stands 74 = .ok (.ireturn, 1) := by decide +kernel
theorem dX5_stands_75 : decode cX5_stands 75 = .ok (.iinc 3 (-1), 3) := by decide +kernel
theorem dX5_stands_78 : decode cX5_stands 78 = .ok (.goto (-52), 3) := by decide +kernel
theorem dX5_stands_81 : decode cX5_stands 81 = .ok (.iconst (-1), 1) := by decide +kernel
theorem dX5_stands_82 : decode cX5_stands 82 = .ok (.ireturn, 1) := by decide +kernel
theorem dX5_leave_0 : decode cX5_leave 0 = .ok (.iload_n 1, 1) := by decide +kernel
theorem dX5_leave_1 : decode cX5_leave 1 = .ok (.iconst 1, 1) := by decide +kernel
theorem dX5_leave_2 : decode cX5_leave 2 = .ok (.if_icmp .lt 18, 3) := by decide +kernel
theorem dX5_leave_5 : decode cX5_leave 5 = .ok (.iload_n 1, 1) := by decide +kernel
theorem dX5_leave_6 : decode cX5_leave 6 = .ok (.bipush 40, 2) := by decide +kernel
theorem dX5_leave_8 : decode cX5_leave 8 = .ok (.if_icmp .gt 12, 3) := by decide +kernel
theorem dX5_leave_11 : decode cX5_leave 11 = .ok (.iload_n 2, 1) := by decide +kernel
theorem dX5_leave_12 : decode cX5_leave 12 = .ok (.ifCond .lt 8, 3) := by decide +kernel
theorem dX5_leave_15 : decode cX5_leave 15 = .ok (.iload_n 2, 1) := by decide +kernel
theorem dX5_leave_16 : decode cX5_leave 16 = .ok (.iconst 1, 1) := by decide +kernel
theorem dX5_leave_17 : decode cX5_leave 17 = .ok (.if_icmp .le 6, 3) := by decide +kernel
theorem dX5_leave_20 : decode cX5_leave 20 = .ok (.bipush (-2), 2) := by decide +kernel
theorem dX5_leave_22 : decode cX5_leave 22 = .ok (.ireturn, 1) := by decide +kernel
theorem dX5_leave_23 : decode cX5_leave 23 = .ok (.aload_n 0, 1) := by decide +kernel
theorem dX5_leave_24 : decode cX5_leave 24 = .ok (.iload_n 1, 1) := by decide +kernel
theorem dX5_leave_25 : decode cX5_leave 25 = .ok (.invokevirtual 165, 3) := by decide +kernel
theorem dX5_leave_28 : decode cX5_leave 28 = .ok (.iload_n 2, 1) := by decide +kernel
theorem dX5_leave_29 : decode cX5_leave 29 = .ok (.ifCond .ne 10, 3) := by decide +kernel
theorem dX5_leave_32 : decode cX5_leave 32 = .ok (.aload_n 0, 1) := by decide +kernel
theorem dX5_leave_33 : decode cX5_leave 33 = .ok (.getfield 156, 3) := by decide +kernel
theorem dX5_leave_36 : decode cX5_leave 36 = .ok (.goto 7, 3) := by decide +kernel
theorem dX5_leave_39 : decode cX5_leave 39 = .ok (.aload_n 0, 1) := by decide +kernel
theorem dX5_leave_40 : decode cX5_leave 40 = .ok (.getfield 162, 3) := by decide +kernel
theorem dX5_leave_43 : decode cX5_leave 43 = .ok (.ireturn, 1) := by decide +kernel
theorem dX5_mean_0 : decode cX5_mean 0 = .ok (.aload_n 0, 1) := by decide +kernel
theorem dX5_mean_1 : decode cX5_mean 1 = .ok (.getfield 10, 3) := by decide +kernel
theorem dX5_mean_4 : decode cX5_mean 4 = .ok (.invokevirtual 168, 3) := by decide +kernel
theorem dX5_mean_7 : decode cX5_mean 7 = .ok (.bipush 32, 2) := by decide +kernel
theorem dX5_mean_9 : decode cX5_mean 9 = .ok (.iload_n 1, 1) := by decide +kernel
theorem dX5_mean_10 : decode cX5_mean 10 = .ok (.invokestatic 171, 3) := by decide +kernel
theorem dX5_mean_13 : decode cX5_mean 13 = .ok (.lreturn, 1) := by decide +kernel
theorem dX5_tells_0 : decode cX5_tells 0 = .ok (.iload_n 3, 1) := by decide +kernel
theorem dX5_tells_1 : decode cX5_tells 1 = .ok (.ifCond .lt 9, 3) := by decide +kernel
theorem dX5_tells_4 : decode cX5_tells 4 = .ok (.iload_n 3, 1) := by decide +kernel
theorem dX5_tells_5 : decode cX5_tells 5 = .ok (.bipush 7, 2) := by decide +kernel
theorem dX5_tells_7 : decode cX5_tells 7 = .ok (.if_icmp .le 6, 3) := by decide +kernel
theorem dX5_tells_10 : decode cX5_tells 10 = .ok (.bipush (-2), 2) := by decide +kernel
theorem dX5_tells_12 : decode cX5_tells 12 = .ok (.ireturn, 1) := by decide +kernel
theorem dX5_tells_13 : decode cX5_tells 13 = .ok (.aload_n 0, 1) := by decide +kernel
theorem dX5_tells_14 : decode cX5_tells 14 = .ok (.iload_n 1, 1) := by decide +kernel
theorem dX5_tells_15 : decode cX5_tells 15 = .ok (.iload_n 2, 1) := by decide +kernel
theorem dX5_tells_16 : decode cX5_tells 16 = .ok (.invokevirtual 175, 3) := by decide +kernel
theorem dX5_tells_19 : decode cX5_tells 19 = .ok (.istore 4, 2) := by decide +kernel
theorem dX5_tells_21 : decode cX5_tells 21 = .ok (.iload 4, 2) := by decide +kernel
theorem dX5_tells_23 : decode cX5_tells 23 = .ok (.ifCond .eq 6, 3) := by decide +kernel
theorem dX5_tells_26 : decode cX5_tells 26 = .ok (.iload 4, 2) := by decide +kernel
theorem dX5_tells_28 : decode cX5_tells 28 = .ok (.ireturn, 1) := by decide +kernel
theorem dX5_tells_29 : decode cX5_tells 29 = .ok (.aload_n 0, 1) := by decide +kernel
theorem dX5_tells_30 : decode cX5_tells 30 = .ok (.getfield 38, 3) := by decide +kernel
theorem dX5_tells_33 : decode cX5_tells 33 = .ok (.iload_n 1, 1) := by decide +kernel
theorem dX5_tells_34 : decode cX5_tells 34 = .ok (.aaload, 1) := by decide +kernel
theorem dX5_tells_35 : decode cX5_tells 35 = .ok (.astore 5, 2) := by decide +kernel
theorem dX5_tells_37 : decode cX5_tells 37 = .ok (.iload_n 3, 1) := by decide +kernel
theorem dX5_tells_38 : decode cX5_tells 38 = .ok (.tableswitch 120 0 6 #[42, 52, 64, 76, 87, 98, 109], 42) := by decide +kernel
theorem dX5_tells_80 : decode cX5_tells 80 = .ok (.aload_n 0, 1) := by decide +kernel
theorem dX5_tells_81 : decode cX5_tells 81 = .ok (.aload 5, 2) := by decide +kernel
theorem dX5_tells_83 : decode cX5_tells 83 = .ok (.iload_n 2, 1) := by decide +kernel
theorem dX5_tells_84 : decode cX5_tells 84 = .ok (.iconst 0, 1) := by decide +kernel
theorem dX5_tells_85 : decode cX5_tells 85 = .ok (.iconst 0, 1) := by decide +kernel
theorem dX5_tells_86 : decode cX5_tells 86 = .ok (.invokevirtual 178, 3) := by decide +kernel
theorem dX5_tells_89 : decode cX5_tells 89 = .ok (.ireturn, 1) := by decide +kernel
theorem dX5_tells_90 : decode cX5_tells 90 = .ok (.aload_n 0, 1) := by decide +kernel
theorem dX5_tells_91 : decode cX5_tells 91 = .ok (.aload 5, 2) := by decide +kernel
theorem dX5_tells_93 : decode cX5_tells 93 = .ok (.iload_n 2, 1) := by decide +kernel
theorem dX5_tells_94 : decode cX5_tells 94 = .ok (.iconst 1, 1) := by decide +kernel
theorem dX5_tells_95 : decode cX5_tells 95 = .ok (.bipush 6, 2) := by decide +kernel
theorem dX5_tells_97 : decode cX5_tells 97 = .ok (.invokevirtual 182, 3) := by decide +kernel
theorem dX5_tells_100 : decode cX5_tells 100 = .ok (.l2i, 1) := by decide +kernel
theorem dX5_tells_101 : decode cX5_tells 101 = .ok (.ireturn, 1) := by decide +kernel
theorem dX5_tells_102 : decode cX5_tells 102 = .ok (.aload_n 0, 1) := by decide +kernel
theorem dX5_tells_103 : decode cX5_tells 103 = .ok (.aload 5, 2) := by decide +kernel
theorem dX5_tells_105 : decode cX5_tells 105 = .ok (.iload_n 2, 1) := by decide +kernel
theorem dX5_tells_106 : decode cX5_tells 106 = .ok (.iconst 2, 1) := by decide +kernel
theorem dX5_tells_107 : decode cX5_tells 107 = .ok (.bipush 10, 2) := by decide +kernel
theorem dX5_tells_109 : decode cX5_tells 109 = .ok (.invokevirtual 182, 3) := by decide +kernel
theorem dX5_tells_112 : decode cX5_tells 112 = .ok (.l2i, 1) := by decide +kernel
theorem dX5_tells_113 : decode cX5_tells 113 = .ok (.ireturn, 1) := by decide +kernel
theorem dX5_tells_114 : decode cX5_tells 114 = .ok (.aload_n 0, 1) := by decide +kernel
theorem dX5_tells_115 : decode cX5_tells 115 = .ok (.aload 5, 2) := by decide +kernel
theorem dX5_tells_117 : decode cX5_tells 117 = .ok (.iload_n 2, 1) := by decide +kernel
theorem dX5_tells_118 : decode cX5_tells 118 = .ok (.iconst 3, 1) := by decide +kernel
theorem dX5_tells_119 : decode cX5_tells 119 = .ok (.bipush 100, 2) := by decide +kernel
theorem dX5_tells_121 : decode cX5_tells 121 = .ok (.invokevirtual 186, 3) := by decide +kernel
theorem dX5_tells_124 : decode cX5_tells 124 = .ok (.ireturn, 1) := by decide +kernel
theorem dX5_tells_125 : decode cX5_tells 125 = .ok (.aload_n 0, 1) := by decide +kernel
theorem dX5_tells_126 : decode cX5_tells 126 = .ok (.aload 5, 2) := by decide +kernel
theorem dX5_tells_128 : decode cX5_tells 128 = .ok (.iload_n 2, 1) := by decide +kernel
theorem dX5_tells_129 : decode cX5_tells 129 = .ok (.iconst 3, 1) := by decide +kernel
theorem dX5_tells_130 : decode cX5_tells 130 = .ok (.bipush 100, 2) := by decide +kernel
theorem dX5_tells_132 : decode cX5_tells 132 = .ok (.invokevirtual 189, 3) := by decide +kernel
theorem dX5_tells_135 : decode cX5_tells 135 = .ok (.ireturn, 1) := by decide +kernel
theorem dX5_tells_136 : decode cX5_tells 136 = .ok (.aload_n 0, 1) := by decide +kernel
theorem dX5_tells_137 : decode cX5_tells 137 = .ok (.aload 5, 2) := by decide +kernel
theorem dX5_tells_139 : decode cX5_tells 139 = .ok (.iload_n 2, 1) := by decide +kernel
theorem dX5_tells_140 : decode cX5_tells 140 = .ok (.iconst 5, 1) := by decide +kernel
theorem dX5_tells_141 : decode cX5_tells 141 = .ok (.bipush 100, 2) := by decide +kernel
theorem dX5_tells_143 : decode cX5_tells 143 = .ok (.invokevirtual 186, 3) := by decide +kernel
theorem dX5_tells_146 : decode cX5_tells 146 = .ok (.ireturn, 1) := by decide +kernel
theorem dX5_tells_147 : decode cX5_tells 147 = .ok (.aload_n 0, 1) := by decide +kernel
theorem dX5_tells_148 : decode cX5_tells 148 = .ok (.aload 5, 2) := by decide +kernel
theorem dX5_tells_150 : decode cX5_tells 150 = .ok (.iload_n 2, 1) := by decide +kernel
theorem dX5_tells_151 : decode cX5_tells 151 = .ok (.iconst 5, 1) := by decide +kernel
theorem dX5_tells_152 : decode cX5_tells 152 = .ok (.bipush 100, 2) := by decide +kernel
theorem dX5_tells_154 : decode cX5_tells 154 = .ok (.invokevirtual 189, 3) := by decide +kernel
theorem dX5_tells_157 : decode cX5_tells 157 = .ok (.ireturn, 1) := by decide +kernel
theorem dX5_tells_158 : decode cX5_tells 158 = .ok (.aload_n 0, 1) := by decide +kernel
theorem dX5_tells_159 : decode cX5_tells 159 = .ok (.aload 5, 2) := by decide +kernel
theorem dX5_tells_161 : decode cX5_tells 161 = .ok (.iload_n 2, 1) := by decide +kernel
theorem dX5_tells_162 : decode cX5_tells 162 = .ok (.bipush 6, 2) := by decide +kernel
theorem dX5_tells_164 : decode cX5_tells 164 = .ok (.aload_n 0, 1) := by decide +kernel
theorem dX5_tells_165 : decode cX5_tells 165 = .ok (.getfield 25, 3) := by decide +kernel
theorem dX5_tells_168 : decode cX5_tells 168 = .ok (.getfield 129, 3) := by decide +kernel
theorem dX5_tells_171 : decode cX5_tells 171 = .ok (.invokevirtual 182, 3) := by decide +kernel
theorem dX5_tells_174 : decode cX5_tells 174 = .ok (.l2i, 1) := by decide +kernel
theorem dX5_tells_175 : decode cX5_tells 175 = .ok (.ireturn, 1) := by decide +kernel
theorem dX5_places_0 : decode cX5_places 0 = .ok (.aload_n 0, 1) := by decide +kernel
theorem dX5_places_1 : decode cX5_places 1 = .ok (.iload_n 1, 1) := by decide +kernel
theorem dX5_places_2 : decode cX5_places 2 = .ok (.iload_n 2, 1) := by decide +kernel
theorem dX5_places_3 : decode cX5_places 3 = .ok (.invokevirtual 175, 3) := by decide +kernel
theorem dX5_places_6 : decode cX5_places 6 = .ok (.ifCond .eq 7, 3) := by decide +kernel
theorem dX5_places_9 : decode cX5_places 9 = .ok (.ldc2_w 192, 3) := by decide +kernel
theorem dX5_places_12 : decode cX5_places 12 = .ok (.lreturn, 1) := by decide +kernel
theorem dX5_places_13 : decode cX5_places 13 = .ok (.aload_n 0, 1) := by decide +kernel
theorem dX5_places_14 : decode cX5_places 14 = .ok (.aload_n 0, 1) := by decide +kernel
theorem dX5_places_15 : decode cX5_places 15 = .ok (.getfield 38, 3) := by decide +kernel
theorem dX5_places_18 : decode cX5_places 18 = .ok (.iload_n 1, 1) := by decide +kernel
theorem dX5_places_19 : decode cX5_places 19 = .ok (.aaload, 1) := by decide +kernel
theorem dX5_places_20 : decode cX5_places 20 = .ok (.iload_n 2, 1) := by decide +kernel
theorem dX5_places_21 : decode cX5_places 21 = .ok (.iconst 4, 1) := by decide +kernel
theorem dX5_places_22 : decode cX5_places 22 = .ok (.bipush 32, 2) := by decide +kernel
theorem dX5_places_24 : decode cX5_places 24 = .ok (.invokevirtual 182, 3) := by decide +kernel
theorem dX5_places_27 : decode cX5_places 27 = .ok (.lreturn, 1) := by decide +kernel
theorem dX5_film_0 : decode cX5_film 0 = .ok (.iload_n 1, 1) := by decide +kernel
theorem dX5_film_1 : decode cX5_film 1 = .ok (.invokestatic 194, 3) := by decide +kernel
theorem dX5_film_4 : decode cX5_film 4 = .ok (.ifCond .eq 21, 3) := by decide +kernel
theorem dX5_film_7 : decode cX5_film 7 = .ok (.aload_n 0, 1) := by decide +kernel
theorem dX5_film_8 : decode cX5_film 8 = .ok (.iload_n 2, 1) := by decide +kernel
theorem dX5_film_9 : decode cX5_film 9 = .ok (.invokevirtual 92, 3) := by decide +kernel
theorem dX5_film_12 : decode cX5_film 12 = .ok (.ifCond .eq 13, 3) := by decide +kernel
theorem dX5_film_15 : decode cX5_film 15 = .ok (.iload_n 3, 1) := by decide +kernel
theorem dX5_film_16 : decode cX5_film 16 = .ok (.ifCond .lt 9, 3) := by decide +kernel
theorem dX5_film_19 : decode cX5_film 19 = .ok (.iload_n 3, 1) := by decide +kernel
theorem dX5_film_20 : decode cX5_film 20 = .ok (.bipush 20, 2) := by decide +kernel
theorem dX5_film_22 : decode cX5_film 22 = .ok (.if_icmp .le 6, 3) := by decide +kernel
theorem dX5_film_25 : decode cX5_film 25 = .ok (.bipush (-2), 2) := by decide +kernel
theorem dX5_film_27 : decode cX5_film 27 = .ok (.ireturn, 1) := by decide +kernel
theorem dX5_film_28 : decode cX5_film 28 = .ok (.aload_n 0, 1) := by decide +kernel
theorem dX5_film_29 : decode cX5_film 29 = .ok (.getfield 38, 3) := by decide +kernel
theorem dX5_film_32 : decode cX5_film 32 = .ok (.iload_n 1, 1) := by decide +kernel
theorem dX5_film_33 : decode cX5_film 33 = .ok (.aaload, 1) := by decide +kernel
theorem dX5_film_34 : decode cX5_film 34 = .ok (.astore 4, 2) := by decide +kernel
theorem dX5_film_36 : decode cX5_film 36 = .ok (.aload 4, 2) := by decide +kernel
theorem dX5_film_38 : decode cX5_film 38 = .ok (.iconst 0, 1) := by decide +kernel
theorem dX5_film_39 : decode cX5_film 39 = .ok (.iload_n 3, 1) := by decide +kernel
theorem dX5_film_40 : decode cX5_film 40 = .ok (.invokevirtual 197, 3) := by decide +kernel
theorem dX5_film_43 : decode cX5_film 43 = .ok (.aload_n 0, 1) := by decide +kernel
theorem dX5_film_44 : decode cX5_film 44 = .ok (.getfield 16, 3) := by decide +kernel
theorem dX5_film_47 : decode cX5_film 47 = .ok (.aload_n 0, 1) := by decide +kernel
theorem dX5_film_48 : decode cX5_film 48 = .ok (.getfield 10, 3) := by decide +kernel
theorem dX5_film_51 : decode cX5_film 51 = .ok (.invokevirtual 140, 3) := by decide +kernel
theorem dX5_film_54 : decode cX5_film 54 = .ok (.iconst 0, 1) := by decide +kernel
theorem dX5_film_55 : decode cX5_film 55 = .ok (.istore 5, 2) := by decide +kernel
theorem dX5_film_57 : decode cX5_film 57 = .ok (.iload 5, 2) := by decide +kernel
theorem dX5_film_59 : decode cX5_film 59 = .ok (.iload_n 3, 1) := by decide +kernel
theorem dX5_film_60 : decode cX5_film 60 = .ok (.if_icmp .ge 36, 3) := by decide +kernel
theorem dX5_film_63 : decode cX5_film 63 = .ok (.aload_n 0, 1) := by decide +kernel
theorem dX5_film_64 : decode cX5_film 64 = .ok (.getfield 16, 3) := by decide +kernel
theorem dX5_film_67 : decode cX5_film 67 = .ok (.aload_n 0, 1) := by decide +kernel
theorem dX5_film_68 : decode cX5_film 68 = .ok (.getfield 25, 3) := by decide +kernel
theorem dX5_film_71 : decode cX5_film 71 = .ok (.invokevirtual 136, 3) := by decide +kernel
theorem dX5_film_74 : decode cX5_film 74 = .ok (.aload 4, 2) := by decide +kernel
theorem dX5_film_76 : decode cX5_film 76 = .ok (.iload 5, 2) := by decide +kernel
theorem dX5_film_78 : decode cX5_film 78 = .ok (.aload_n 0, 1) := by decide +kernel
theorem dX5_film_79 : decode cX5_film 79 = .ok (.getfield 16, 3) := by decide +kernel
theorem dX5_film_82 : decode cX5_film 82 = .ok (.getfield 75, 3) := by decide +kernel
theorem dX5_film_85 : decode cX5_film 85 = .ok (.iload_n 2, 1) := by decide +kernel
theorem dX5_film_86 : decode cX5_film 86 = .ok (.iaload, 1) := by decide +kernel
theorem dX5_film_87 : decode cX5_film 87 = .ok (.invokevirtual 200, 3) := by decide +kernel
theorem dX5_film_90 : decode cX5_film 90 = .ok (.iinc 5 1, 3) := by decide +kernel
theorem dX5_film_93 : decode cX5_film 93 = .ok (.goto (-36), 3) := by decide +kernel
theorem dX5_film_96 : decode cX5_film 96 = .ok (.iload_n 3, 1) := by decide +kernel
theorem dX5_film_97 : decode cX5_film 97 = .ok (.ireturn, 1) := by decide +kernel
theorem dX5_drawn_0 : decode cX5_drawn 0 = .ok (.iload_n 2, 1) := by decide +kernel
theorem dX5_drawn_1 : decode cX5_drawn 1 = .ok (.ifCond .lt 9, 3) := by decide +kernel
theorem dX5_drawn_4 : decode cX5_drawn 4 = .ok (.iload_n 2, 1) := by decide +kernel
theorem dX5_drawn_5 : decode cX5_drawn 5 = .ok (.bipush 40, 2) := by decide +kernel
theorem dX5_drawn_7 : decode cX5_drawn 7 = .ok (.if_icmp .le 6, 3) := by decide +kernel
theorem dX5_drawn_10 : decode cX5_drawn 10 = .ok (.bipush (-2), 2) := by decide +kernel
theorem dX5_drawn_12 : decode cX5_drawn 12 = .ok (.ireturn, 1) := by decide +kernel
theorem dX5_drawn_13 : decode cX5_drawn 13 = .ok (.aload_n 0, 1) := by decide +kernel
theorem dX5_drawn_14 : decode cX5_drawn 14 = .ok (.iload_n 1, 1) := by decide +kernel
theorem dX5_drawn_15 : decode cX5_drawn 15 = .ok (.iload_n 2, 1) := by decide +kernel
theorem dX5_drawn_16 : decode cX5_drawn 16 = .ok (.invokevirtual 203, 3) := by decide +kernel
theorem dX5_drawn_19 : decode cX5_drawn 19 = .ok (.ireturn, 1) := by decide +kernel
theorem dX5_chance_0 : decode cX5_chance 0 = .ok (.iload_n 2, 1) := by decide +kernel
theorem dX5_chance_1 : decode cX5_chance 1 = .ok (.iconst 1, 1) := by decide +kernel
theorem dX5_chance_2 : decode cX5_chance 2 = .ok (.if_icmp .lt 29, 3) := by decide +kernel
theorem dX5_chance_5 : decode cX5_chance 5 = .ok (.iload_n 2, 1) := by decide +kernel
theorem dX5_chance_6 : decode cX5_chance 6 = .ok (.bipush 20, 2) := by decide +kernel
theorem dX5_chance_8 : decode cX5_chance 8 = .ok (.if_icmp .gt 23, 3) := by decide +kernel
theorem dX5_chance_11 : decode cX5_chance 11 = .ok (.iload_n 3, 1) := by decide +kernel
theorem dX5_chance_12 : decode cX5_chance 12 = .ok (.ifCond .lt 19, 3) := by decide +kernel
theorem dX5_chance_15 : decode cX5_chance 15 = .ok (.iload_n 3, 1) := by decide +kernel
theorem dX5_chance_16 : decode cX5_chance 16 = .ok (.iconst 5, 1) := by decide +kernel
theorem dX5_chance_17 : decode cX5_chance 17 = .ok (.if_icmp .gt 14, 3) := by decide +kernel
theorem dX5_chance_20 : decode cX5_chance 20 = .ok (.iload 4, 2) := by decide +kernel
theorem dX5_chance_22 : decode cX5_chance 22 = .ok (.ifCond .lt 9, 3) := by decide +kernel
theorem dX5_chance_25 : decode cX5_chance 25 = .ok (.iload 4, 2) := by decide +kernel
theorem dX5_chance_27 : decode cX5_chance 27 = .ok (.iconst 1, 1) := by decide +kernel
theorem dX5_chance_28 : decode cX5_chance 28 = .ok (.if_icmp .le 7, 3) := by decide +kernel
theorem dX5_chance_31 : decode cX5_chance 31 = .ok (.ldc2_w 192, 3) := by decide +kernel
theorem dX5_chance_34 : decode cX5_chance 34 = .ok (.lreturn, 1) := by decide +kernel
theorem dX5_chance_35 : decode cX5_chance 35 = .ok (.iconst 0, 1) := by decide +kernel
theorem dX5_chance_36 : decode cX5_chance 36 = .ok (.istore 5, 2) := by decide +kernel
theorem dX5_chance_38 : decode cX5_chance 38 = .ok (.iconst 0, 1) := by decide +kernel
theorem dX5_chance_39 : decode cX5_chance 39 = .ok (.istore 6, 2) := by decide +kernel
theorem dX5_chance_41 : decode cX5_chance 41 = .ok (.iload 6, 2) := by decide +kernel
theorem dX5_chance_43 : decode cX5_chance 43 = .ok (.iload_n 2, 1) := by decide +kernel
theorem dX5_chance_44 : decode cX5_chance 44 = .ok (.if_icmp .ge 26, 3) := by decide +kernel
theorem dX5_chance_47 : decode cX5_chance 47 = .ok (.aload_n 0, 1) := by decide +kernel
theorem dX5_chance_48 : decode cX5_chance 48 = .ok (.iload_n 1, 1) := by decide +kernel
theorem dX5_chance_49 : decode cX5_chance 49 = .ok (.iload 6, 2) := by decide +kernel
theorem dX5_chance_51 : decode cX5_chance 51 = .ok (.iadd, 1) := by decide +kernel
theorem dX5_chance_52 : decode cX5_chance 52 = .ok (.bipush 12, 2) := by decide +kernel
theorem dX5_chance_54 : decode cX5_chance 54 = .ok (.invokevirtual 203, 3) := by decide +kernel
theorem dX5_chance_57 : decode cX5_chance 57 = .ok (.iload_n 3, 1) := by decide +kernel
theorem dX5_chance_58 : decode cX5_chance 58 = .ok (.if_icmp .lt 6, 3) := by decide +kernel
theorem dX5_chance_61 : decode cX5_chance 61 = .ok (.iinc 5 1, 3) := by decide +kernel
theorem dX5_chance_64 : decode cX5_chance 64 = .ok (.iinc 6 1, 3) := by decide +kernel
theorem dX5_chance_67 : decode cX5_chance 67 = .ok (.goto (-26), 3) := by decide +kernel
theorem dX5_chance_70 : decode cX5_chance 70 = .ok (.iload 5, 2) := by decide +kernel
theorem dX5_chance_72 : decode cX5_chance 72 = .ok (.iload_n 2, 1) := by decide +kernel
theorem dX5_chance_73 : decode cX5_chance 73 = .ok (.iload 4, 2) := by decide +kernel
theorem dX5_chance_75 : decode cX5_chance 75 = .ok (.invokestatic 171, 3) := by decide +kernel
theorem dX5_chance_78 : decode cX5_chance 78 = .ok (.lreturn, 1) := by decide +kernel
theorem dX5_image_0 : decode cX5_image 0 = .ok (.aload_n 0, 1) := by decide +kernel
theorem dX5_image_1 : decode cX5_image 1 = .ok (.getfield 19, 3) := by decide +kernel
theorem dX5_image_4 : decode cX5_image 4 = .ok (.aload_n 0, 1) := by decide +kernel
theorem dX5_image_5 : decode cX5_image 5 = .ok (.getfield 10, 3) := by decide +kernel
theorem dX5_image_8 : decode cX5_image 8 = .ok (.invokevirtual 140, 3) := by decide +kernel
theorem dX5_image_11 : decode cX5_image 11 = .ok (.aload_n 0, 1) := by decide +kernel
theorem dX5_image_12 : decode cX5_image 12 = .ok (.iconst 1, 1) := by decide +kernel
theorem dX5_image_13 : decode cX5_image 13 = .ok (.putfield 206, 3) := by decide +kernel
theorem dX5_image_16 : decode cX5_image 16 = .ok (.aload_n 0, 1) := by decide +kernel
theorem dX5_image_17 : decode cX5_image 17 = .ok (.getfield 19, 3) := by decide +kernel
theorem dX5_image_20 : decode cX5_image 20 = .ok (.getfield 210, 3) := by decide +kernel
theorem dX5_image_23 : decode cX5_image 23 = .ok (.ireturn, 1) := by decide +kernel
theorem dX5_back_0 : decode cX5_back 0 = .ok (.aload_n 0, 1) := by decide +kernel
theorem dX5_back_1 : decode cX5_back 1 = .ok (.getfield 206, 3) := by decide +kernel
theorem dX5_back_4 : decode cX5_back 4 = .ok (.ifCond .ne 6, 3) := by decide +kernel
theorem dX5_back_7 : decode cX5_back 7 = .ok (.bipush (-3), 2) := by decide +kernel
theorem dX5_back_9 : decode cX5_back 9 = .ok (.ireturn, 1) := by decide +kernel
theorem dX5_back_10 : decode cX5_back 10 = .ok (.aload_n 0, 1) := by decide +kernel
theorem dX5_back_11 : decode cX5_back 11 = .ok (.getfield 10, 3) := by decide +kernel
theorem dX5_back_14 : decode cX5_back 14 = .ok (.aload_n 0, 1) := by decide +kernel
theorem dX5_back_15 : decode cX5_back 15 = .ok (.getfield 19, 3) := by decide +kernel
theorem dX5_back_18 : decode cX5_back 18 = .ok (.invokevirtual 140, 3) := by decide +kernel
theorem dX5_back_21 : decode cX5_back 21 = .ok (.aload_n 0, 1) := by decide +kernel
theorem dX5_back_22 : decode cX5_back 22 = .ok (.getfield 10, 3) := by decide +kernel
theorem dX5_back_25 : decode cX5_back 25 = .ok (.getfield 210, 3) := by decide +kernel
theorem dX5_back_28 : decode cX5_back 28 = .ok (.ireturn, 1) := by decide +kernel
theorem dX5_count_0 : decode cX5_count 0 = .ok (.iload_n 1, 1) := by decide +kernel
theorem dX5_count_1 : decode cX5_count 1 = .ok (.tableswitch 87 0 5 #[39, 47, 55, 63, 71, 79], 39) := by decide +kernel
theorem dX5_count_40 : decode cX5_count 40 = .ok (.aload_n 0, 1) := by decide +kernel
theorem dX5_count_41 : decode cX5_count 41 = .ok (.getfield 10, 3) := by decide +kernel
theorem dX5_count_44 : decode cX5_count 44 = .ok (.getfield 210, 3) := by decide +kernel
theorem dX5_count_47 : decode cX5_count 47 = .ok (.ireturn, 1) := by decide +kernel
theorem dX5_count_48 : decode cX5_count 48 = .ok (.aload_n 0, 1) := by decide +kernel
theorem dX5_count_49 : decode cX5_count 49 = .ok (.getfield 10, 3) := by decide +kernel
theorem dX5_count_52 : decode cX5_count 52 = .ok (.invokevirtual 213, 3) := by decide +kernel
theorem dX5_count_55 : decode cX5_count 55 = .ok (.ireturn, 1) := by decide +kernel
theorem dX5_count_56 : decode cX5_count 56 = .ok (.aload_n 0, 1) := by decide +kernel
theorem dX5_count_57 : decode cX5_count 57 = .ok (.getfield 10, 3) := by decide +kernel
theorem dX5_count_60 : decode cX5_count 60 = .ok (.getfield 59, 3) := by decide +kernel
theorem dX5_count_63 : decode cX5_count 63 = .ok (.ireturn, 1) := by decide +kernel
theorem dX5_count_64 : decode cX5_count 64 = .ok (.aload_n 0, 1) := by decide +kernel
theorem dX5_count_65 : decode cX5_count 65 = .ok (.getfield 25, 3) := by decide +kernel
theorem dX5_count_68 : decode cX5_count 68 = .ok (.getfield 129, 3) := by decide +kernel
theorem dX5_count_71 : decode cX5_count 71 = .ok (.ireturn, 1) := by decide +kernel
theorem dX5_count_72 : decode cX5_count 72 = .ok (.aload_n 0, 1) := by decide +kernel
theorem dX5_count_73 : decode cX5_count 73 = .ok (.getfield 32, 3) := by decide +kernel
theorem dX5_count_76 : decode cX5_count 76 = .ok (.getfield 106, 3) := by decide +kernel
theorem dX5_count_79 : decode cX5_count 79 = .ok (.ireturn, 1) := by decide +kernel
theorem dX5_count_80 : decode cX5_count 80 = .ok (.aload_n 0, 1) := by decide +kernel
theorem dX5_count_81 : decode cX5_count 81 = .ok (.getfield 10, 3) := by decide +kernel
theorem dX5_count_84 : decode cX5_count 84 = .ok (.getfield 130, 3) := by decide +kernel
theorem dX5_count_87 : decode cX5_count 87 = .ok (.ireturn, 1) := by decide +kernel
theorem dX5_count_88 : decode cX5_count 88 = .ok (.bipush (-2), 2) := by decide +kernel
theorem dX5_count_90 : decode cX5_count 90 = .ok (.ireturn, 1) := by decide +kernel
theorem dX5_sheet_0 : decode cX5_sheet 0 = .ok (.iload_n 1, 1) := by decide +kernel
theorem dX5_sheet_1 : decode cX5_sheet 1 = .ok (.invokestatic 194, 3) := by decide +kernel
theorem dX5_sheet_4 : decode cX5_sheet 4 = .ok (.ifCond .eq 13, 3) := by decide +kernel
theorem dX5_sheet_7 : decode cX5_sheet 7 = .ok (.iload_n 2, 1) := by decide +kernel
theorem dX5_sheet_8 : decode cX5_sheet 8 = .ok (.iconst (-1), 1) := by decide +kernel
theorem dX5_sheet_9 : decode cX5_sheet 9 = .ok (.if_icmp .lt 8, 3) := by decide +kernel
theorem dX5_sheet_12 : decode cX5_sheet 12 = .ok (.iload_n 2, 1) := by decide +kernel
theorem dX5_sheet_13 : decode cX5_sheet 13 = .ok (.iconst 2, 1) := by decide +kernel
theorem dX5_sheet_14 : decode cX5_sheet 14 = .ok (.if_icmp .le 6, 3) := by decide +kernel
theorem dX5_sheet_17 : decode cX5_sheet 17 = .ok (.bipush (-2), 2) := by decide +kernel
theorem dX5_sheet_19 : decode cX5_sheet 19 = .ok (.ireturn, 1) := by decide +kernel
theorem dX5_sheet_20 : decode cX5_sheet 20 = .ok (.iload_n 2, 1) := by decide +kernel
theorem dX5_sheet_21 : decode cX5_sheet 21 = .ok (.iconst (-1), 1) := by decide +kernel
theorem dX5_sheet_22 : decode cX5_sheet 22 = .ok (.if_icmp .eq 12, 3) := by decide +kernel
theorem dX5_sheet_25 : decode cX5_sheet 25 = .ok (.iload_n 3, 1) := by decide +kernel
theorem dX5_sheet_26 : decode cX5_sheet 26 = .ok (.bipush 40, 2) := by decide +kernel
theorem dX5_sheet_28 : decode cX5_sheet 28 = .ok (.if_icmp .le 6, 3) := by decide +kernel
theorem dX5_sheet_31 : decode cX5_sheet 31 = .ok (.bipush (-2), 2) := by decide +kernel
theorem dX5_sheet_33 : decode cX5_sheet 33 = .ok (.ireturn, 1) := by decide +kernel
theorem dX5_sheet_34 : decode cX5_sheet 34 = .ok (.iload_n 2, 1) := by decide +kernel
theorem dX5_sheet_35 : decode cX5_sheet 35 = .ok (.iconst (-1), 1) := by decide +kernel
theorem dX5_sheet_36 : decode cX5_sheet 36 = .ok (.if_icmp .eq 10, 3) := by decide +kernel
theorem dX5_sheet_39 : decode cX5_sheet 39 = .ok (.iload_n 3, 1) := by decide +kernel
theorem dX5_sheet_40 : decode cX5_sheet 40 = .ok (.ifCond .ge 6, 3) := by decide +kernel
theorem dX5_sheet_43 : decode cX5_sheet 43 = .ok (.bipush (-14), 2) := by decide +kernel
theorem dX5_sheet_45 : decode cX5_sheet 45 = .ok (.ireturn, 1) := by decide +kernel
theorem dX5_sheet_46 : decode cX5_sheet 46 = .ok (.aload_n 0, 1) := by decide +kernel
theorem dX5_sheet_47 : decode cX5_sheet 47 = .ok (.getfield 38, 3) := by decide +kernel
theorem dX5_sheet_50 : decode cX5_sheet 50 = .ok (.iload_n 1, 1) := by decide +kernel
theorem dX5_sheet_51 : decode cX5_sheet 51 = .ok (.aaload, 1) := by decide +kernel
theorem dX5_sheet_52 : decode cX5_sheet 52 = .ok (.iload_n 2, 1) := by decide +kernel
theorem dX5_sheet_53 : decode cX5_sheet 53 = .ok (.iload_n 3, 1) := by decide +kernel
theorem dX5_sheet_54 : decode cX5_sheet 54 = .ok (.invokevirtual 197, 3) := by decide +kernel
theorem dX5_sheet_57 : decode cX5_sheet 57 = .ok (.iconst 1, 1) := by decide +kernel
theorem dX5_sheet_58 : decode cX5_sheet 58 = .ok (.ireturn, 1) := by decide +kernel
theorem dX5_cell_0 : decode cX5_cell 0 = .ok (.iload_n 1, 1) := by decide +kernel
theorem dX5_cell_1 : decode cX5_cell 1 = .ok (.invokestatic 194, 3) := by decide +kernel
theorem dX5_cell_4 : decode cX5_cell 4 = .ok (.ifCond .ne 6, 3) := by decide +kernel
theorem dX5_cell_7 : decode cX5_cell 7 = .ok (.bipush (-2), 2) := by decide +kernel
theorem dX5_cell_9 : decode cX5_cell 9 = .ok (.ireturn, 1) := by decide +kernel
theorem dX5_cell_10 : decode cX5_cell 10 = .ok (.aload_n 0, 1) := by decide +kernel
theorem dX5_cell_11 : decode cX5_cell 11 = .ok (.getfield 38, 3) := by decide +kernel
theorem dX5_cell_14 : decode cX5_cell 14 = .ok (.iload_n 1, 1) := by decide +kernel
theorem dX5_cell_15 : decode cX5_cell 15 = .ok (.aaload, 1) := by decide +kernel
theorem dX5_cell_16 : decode cX5_cell 16 = .ok (.astore 4, 2) := by decide +kernel
theorem dX5_cell_18 : decode cX5_cell 18 = .ok (.aload 4, 2) := by decide +kernel
theorem dX5_cell_20 : decode cX5_cell 20 = .ok (.getfield 216, 3) := by decide +kernel
theorem dX5_cell_23 : decode cX5_cell 23 = .ok (.iconst (-1), 1) := by decide +kernel
theorem dX5_cell_24 : decode cX5_cell 24 = .ok (.if_icmp .ne 6, 3) := by decide +kernel
theorem dX5_cell_27 : decode cX5_cell 27 = .ok (.bipush (-11), 2) := by decide +kernel
theorem dX5_cell_29 : decode cX5_cell 29 = .ok (.ireturn, 1) := by decide +kernel
theorem dX5_cell_30 : decode cX5_cell 30 = .ok (.aload 4, 2) := by decide +kernel
theorem dX5_cell_32 : decode cX5_cell 32 = .ok (.iload_n 2, 1) := by decide +kernel
theorem dX5_cell_33 : decode cX5_cell 33 = .ok (.invokevirtual 219, 3) := by decide +kernel
theorem dX5_cell_36 : decode cX5_cell 36 = .ok (.ifCond .ne 6, 3) := by decide +kernel
theorem dX5_cell_39 : decode cX5_cell 39 = .ok (.bipush (-12), 2) := by decide +kernel
theorem dX5_cell_41 : decode cX5_cell 41 = .ok (.ireturn, 1) := by decide +kernel
theorem dX5_cell_42 : decode cX5_cell 42 = .ok (.aload 4, 2) := by decide +kernel
theorem dX5_cell_44 : decode cX5_cell 44 = .ok (.iload_n 2, 1) := by decide +kernel
theorem dX5_cell_45 : decode cX5_cell 45 = .ok (.iload_n 3, 1) := by decide +kernel
theorem dX5_cell_46 : decode cX5_cell 46 = .ok (.invokevirtual 200, 3) := by decide +kernel
theorem dX5_cell_49 : decode cX5_cell 49 = .ok (.iconst 1, 1) := by decide +kernel
theorem dX5_cell_50 : decode cX5_cell 50 = .ok (.ireturn, 1) := by decide +kernel
theorem dX5_copy_0 : decode cX5_copy 0 = .ok (.iload_n 1, 1) := by decide +kernel
theorem dX5_copy_1 : decode cX5_copy 1 = .ok (.invokestatic 194, 3) := by decide +kernel
theorem dX5_copy_4 : decode cX5_copy 4 = .ok (.ifCond .eq 10, 3) := by decide +kernel
theorem dX5_copy_7 : decode cX5_copy 7 = .ok (.iload_n 3, 1) := by decide +kernel
theorem dX5_copy_8 : decode cX5_copy 8 = .ok (.invokestatic 194, 3) := by decide +kernel
theorem dX5_copy_11 : decode cX5_copy 11 = .ok (.ifCond .ne 6, 3) := by decide +kernel
theorem dX5_copy_14 : decode cX5_copy 14 = .ok (.bipush (-2), 2) := by decide +kernel
theorem dX5_copy_16 : decode cX5_copy 16 = .ok (.ireturn, 1) := by decide +kernel
theorem dX5_copy_17 : decode cX5_copy 17 = .ok (.aload_n 0, 1) := by decide +kernel
theorem dX5_copy_18 : decode cX5_copy 18 = .ok (.getfield 38, 3) := by decide +kernel
theorem dX5_copy_21 : decode cX5_copy 21 = .ok (.iload_n 1, 1) := by decide +kernel
theorem dX5_copy_22 : decode cX5_copy 22 = .ok (.aaload, 1) := by decide +kernel
theorem dX5_copy_23 : decode cX5_copy 23 = .ok (.astore 6, 2) := by decide +kernel
theorem dX5_copy_25 : decode cX5_copy 25 = .ok (.aload_n 0, 1) := by decide +kernel
theorem dX5_copy_26 : decode cX5_copy 26 = .ok (.getfield 38, 3) := by decide +kernel
theorem dX5_copy_29 : decode cX5_copy 29 = .ok (.iload_n 3, 1) := by decide +kernel
theorem dX5_copy_30 : decode cX5_copy 30 = .ok (.aaload, 1) := by decide +kernel
theorem dX5_copy_31 : decode cX5_copy 31 = .ok (.astore 7, 2) := by decide +kernel
theorem dX5_copy_33 : decode cX5_copy 33 = .ok (.aload 6, 2) := by decide +kernel
theorem dX5_copy_35 : decode cX5_copy 35 = .ok (.getfield 216, 3) := by decide +kernel
theorem dX5_copy_38 : decode cX5_copy 38 = .ok (.iconst (-1), 1) := by decide +kernel
theorem dX5_copy_39 : decode cX5_copy 39 = .ok (.if_icmp .eq 12, 3) := by decide +kernel
theorem dX5_copy_42 : decode cX5_copy 42 = .ok (.aload 7, 2) := by decide +kernel
theorem dX5_copy_44 : decode cX5_copy 44 = .ok (.getfield 216, 3) := by decide +kernel
theorem dX5_copy_47 : decode cX5_copy 47 = .ok (.iconst (-1), 1) := by decide +kernel
theorem dX5_copy_48 : decode cX5_copy 48 = .ok (.if_icmp .ne 6, 3) := by decide +kernel
theorem dX5_copy_51 : decode cX5_copy 51 = .ok (.bipush (-11), 2) := by decide +kernel
theorem dX5_copy_53 : decode cX5_copy 53 = .ok (.ireturn, 1) := by decide +kernel
theorem dX5_copy_54 : decode cX5_copy 54 = .ok (.aload 6, 2) := by decide +kernel
theorem dX5_copy_56 : decode cX5_copy 56 = .ok (.getfield 216, 3) := by decide +kernel
theorem dX5_copy_59 : decode cX5_copy 59 = .ok (.aload 7, 2) := by decide +kernel
theorem dX5_copy_61 : decode cX5_copy 61 = .ok (.getfield 216, 3) := by decide +kernel
theorem dX5_copy_64 : decode cX5_copy 64 = .ok (.if_icmp .eq 6, 3) := by decide +kernel
theorem dX5_copy_67 : decode cX5_copy 67 = .ok (.bipush (-13), 2) := by decide +kernel
theorem dX5_copy_69 : decode cX5_copy 69 = .ok (.ireturn, 1) := by decide +kernel
theorem dX5_copy_70 : decode cX5_copy 70 = .ok (.aload 6, 2) := by decide +kernel
theorem dX5_copy_72 : decode cX5_copy 72 = .ok (.iload_n 2, 1) := by decide +kernel
theorem dX5_copy_73 : decode cX5_copy 73 = .ok (.iload 5, 2) := by decide +kernel
theorem dX5_copy_75 : decode cX5_copy 75 = .ok (.invokevirtual 222, 3) := by decide +kernel
theorem dX5_copy_78 : decode cX5_copy 78 = .ok (.ifCond .eq 15, 3) := by decide +kernel
theorem dX5_copy_81 : decode cX5_copy 81 = .ok (.aload 7, 2) := by decide +kernel
theorem dX5_copy_83 : decode cX5_copy 83 = .ok (.iload 4, 2) := by decide +kernel
theorem dX5_copy_85 : decode cX5_copy 85 = .ok (.iload 5, 2) := by decide +kernel
theorem dX5_copy_87 : decode cX5_copy 87 = .ok (.invokevirtual 222, 3) := by decide +kernel
theorem dX5_copy_90 : decode cX5_copy 90 = .ok (.ifCond .ne 6, 3) := by decide +kernel
theorem dX5_copy_93 : decode cX5_copy 93 = .ok (.bipush (-12), 2) := by decide +kernel
theorem dX5_copy_95 : decode cX5_copy 95 = .ok (.ireturn, 1) := by decide +kernel
theorem dX5_copy_96 : decode cX5_copy 96 = .ok (.aload 6, 2) := by decide +kernel
theorem dX5_copy_98 : decode cX5_copy 98 = .ok (.getfield 225, 3) := by decide +kernel
theorem dX5_copy_101 : decode cX5_copy 101 = .ok (.iload_n 2, 1) := by decide +kernel
theorem dX5_copy_102 : decode cX5_copy 102 = .ok (.aload 7, 2) := by decide +kernel
theorem dX5_copy_104 : decode cX5_copy 104 = .ok (.getfield 225, 3) := by decide +kernel
theorem dX5_copy_107 : decode cX5_copy 107 = .ok (.iload 4, 2) := by decide +kernel
theorem dX5_copy_109 : decode cX5_copy 109 = .ok (.iload 5, 2) := by decide +kernel
theorem dX5_copy_111 : decode cX5_copy 111 = .ok (.invokestatic 228, 3) := by decide +kernel
theorem dX5_copy_114 : decode cX5_copy 114 = .ok (.iload 5, 2) := by decide +kernel
theorem dX5_copy_116 : decode cX5_copy 116 = .ok (.ireturn, 1) := by decide +kernel
theorem dX5_family_0 : decode cX5_family 0 = .ok (.iload_n 1, 1) := by decide +kernel
theorem dX5_family_1 : decode cX5_family 1 = .ok (.invokestatic 194, 3) := by decide +kernel
theorem dX5_family_4 : decode cX5_family 4 = .ok (.ifCond .eq 23, 3) := by decide +kernel
theorem dX5_family_7 : decode cX5_family 7 = .ok (.iload_n 2, 1) := by decide +kernel
theorem dX5_family_8 : decode cX5_family 8 = .ok (.ifCond .lt 19, 3) := by decide +kernel
theorem dX5_family_11 : decode cX5_family 11 = .ok (.iload_n 2, 1) := by decide +kernel
theorem dX5_family_12 : decode cX5_family 12 = .ok (.iconst 2, 1) := by decide +kernel
theorem dX5_family_13 : decode cX5_family 13 = .ok (.if_icmp .gt 14, 3) := by decide +kernel
theorem dX5_family_16 : decode cX5_family 16 = .ok (.iload 4, 2) := by decide +kernel
theorem dX5_family_18 : decode cX5_family 18 = .ok (.ifCond .lt 9, 3) := by decide +kernel
theorem dX5_family_21 : decode cX5_family 21 = .ok (.iload 4, 2) := by decide +kernel
theorem dX5_family_23 : decode cX5_family 23 = .ok (.iconst 5, 1) := by decide +kernel
theorem dX5_family_24 : decode cX5_family 24 = .ok (.if_icmp .le 6, 3) := by decide +kernel
theorem dX5_family_27 : decode cX5_family 27 = .ok (.bipush (-2), 2) := by decide +kernel
theorem dX5_family_29 : decode cX5_family 29 = .ok (.ireturn, 1) := by decide +kernel
theorem dX5_family_30 : decode cX5_family 30 = .ok (.aload_n 0, 1) := by decide +kernel
theorem dX5_family_31 : decode cX5_family 31 = .ok (.getfield 38, 3) := by decide +kernel
theorem dX5_family_34 : decode cX5_family 34 = .ok (.iload_n 1, 1) := by decide +kernel
theorem dX5_family_35 : decode cX5_family 35 = .ok (.aaload, 1) := by decide +kernel
theorem dX5_family_36 : decode cX5_family 36 = .ok (.astore 5, 2) := by decide +kernel
theorem dX5_family_38 : decode cX5_family 38 = .ok (.aload 5, 2) := by decide +kernel
theorem dX5_family_40 : decode cX5_family 40 = .ok (.getfield 216, 3) := by decide +kernel
theorem dX5_family_43 : decode cX5_family 43 = .ok (.iconst (-1), 1) := by decide +kernel
theorem dX5_family_44 : decode cX5_family 44 = .ok (.if_icmp .eq 15, 3) := by decide +kernel
theorem dX5_family_47 : decode cX5_family 47 = .ok (.aload 5, 2) := by decide +kernel
theorem dX5_family_49 : decode cX5_family 49 = .ok (.getfield 216, 3) := by decide +kernel
theorem dX5_family_52 : decode cX5_family 52 = .ok (.iload_n 2, 1) := by decide +kernel
theorem dX5_family_53 : decode cX5_family 53 = .ok (.if_icmp .eq 6, 3) := by decide +kernel
theorem dX5_family_56 : decode cX5_family 56 = .ok (.bipush (-13), 2) := by decide +kernel
theorem dX5_family_58 : decode cX5_family 58 = .ok (.ireturn, 1) := by decide +kernel
theorem dX5_family_59 : decode cX5_family 59 = .ok (.aload 5, 2) := by decide +kernel
theorem dX5_family_61 : decode cX5_family 61 = .ok (.getfield 216, 3) := by decide +kernel
theorem dX5_family_64 : decode cX5_family 64 = .ok (.iconst (-1), 1) := by decide +kernel
theorem dX5_family_65 : decode cX5_family 65 = .ok (.if_icmp .ne 6, 3) := by decide +kernel
theorem dX5_family_68 : decode cX5_family 68 = .ok (.bipush (-11), 2) := by decide +kernel
theorem dX5_family_70 : decode cX5_family 70 = .ok (.ireturn, 1) := by decide +kernel
theorem dX5_family_71 : decode cX5_family 71 = .ok (.iconst 0, 1) := by decide +kernel
theorem dX5_family_72 : decode cX5_family 72 = .ok (.istore 6, 2) := by decide +kernel
theorem dX5_family_74 : decode cX5_family 74 = .ok (.iconst 0, 1) := by decide +kernel
theorem dX5_family_75 : decode cX5_family 75 = .ok (.istore 7, 2) := by decide +kernel
theorem dX5_family_77 : decode cX5_family 77 = .ok (.iload 7, 2) := by decide +kernel
theorem dX5_family_79 : decode cX5_family 79 = .ok (.iload 4, 2) := by decide +kernel
theorem dX5_family_81 : decode cX5_family 81 = .ok (.if_icmp .ge 79, 3) := by decide +kernel
theorem dX5_family_84 : decode cX5_family 84 = .ok (.iload_n 3, 1) := by decide +kernel
theorem dX5_family_85 : decode cX5_family 85 = .ok (.bipush 40, 2) := by decide +kernel
theorem dX5_family_87 : decode cX5_family 87 = .ok (.if_icmp .gt 18, 3) := by decide +kernel
theorem dX5_family_90 : decode cX5_family 90 = .ok (.aload 5, 2) := by decide +kernel
theorem dX5_family_92 : decode cX5_family 92 = .ok (.iload_n 3, 1) := by decide +kernel
theorem dX5_family_93 : decode cX5_family 93 = .ok (.iconst 3, 1) := by decide +kernel
theorem dX5_family_94 : decode cX5_family 94 = .ok (.iload 7, 2) := by decide +kernel
theorem dX5_family_96 : decode cX5_family 96 = .ok (.imul, 1) := by decide +kernel
theorem dX5_family_97 : decode cX5_family 97 = .ok (.iadd, 1) := by decide +kernel
theorem dX5_family_98 : decode cX5_family 98 = .ok (.iconst 3, 1) := by decide +kernel
theorem dX5_family_99 : decode cX5_family 99 = .ok (.invokevirtual 222, 3) := by decide +kernel
theorem dX5_family_102 : decode cX5_family 102 = .ok (.ifCond .ne 6, 3) := by decide +kernel
theorem dX5_family_105 : decode cX5_family 105 = .ok (.bipush (-12), 2) := by decide +kernel
theorem dX5_family_107 : decode cX5_family 107 = .ok (.ireturn, 1) := by decide +kernel
theorem dX5_family_108 : decode cX5_family 108 = .ok (.iload_n 3, 1) := by decide +kernel
theorem dX5_family_109 : decode cX5_family 109 = .ok (.iconst 3, 1) := by decide +kernel
theorem dX5_family_110 : decode cX5_family 110 = .ok (.iload 7, 2) := by decide +kernel
theorem dX5_family_112 : decode cX5_family 112 = .ok (.imul, 1) := by decide +kernel
theorem dX5_family_113 : decode cX5_family 113 = .ok (.iadd, 1) := by decide +kernel
theorem dX5_family_114 : decode cX5_family 114 = .ok (.istore 8, 2) := by decide +kernel
theorem dX5_family_116 : decode cX5_family 116 = .ok (.aload_n 0, 1) := by decide +kernel
theorem dX5_family_117 : decode cX5_family 117 = .ok (.aload 5, 2) := by decide +kernel
theorem dX5_family_119 : decode cX5_family 119 = .ok (.getfield 225, 3) := by decide +kernel
theorem dX5_family_122 : decode cX5_family 122 = .ok (.iload 8, 2) := by decide +kernel
theorem dX5_family_124 : decode cX5_family 124 = .ok (.iaload, 1) := by decide +kernel
theorem dX5_family_125 : decode cX5_family 125 = .ok (.aload 5, 2) := by decide +kernel
theorem dX5_family_127 : decode cX5_family 127 = .ok (.getfield 225, 3) := by decide +kernel
theorem dX5_family_130 : decode cX5_family 130 = .ok (.iload 8, 2) := by decide +kernel
theorem dX5_family_132 : decode cX5_family 132 = .ok (.iconst 1, 1) := by decide +kernel
theorem dX5_family_133 : decode cX5_family 133 = .ok (.iadd, 1) := by decide +kernel
theorem dX5_family_134 : decode cX5_family 134 = .ok (.iaload, 1) := by decide +kernel
theorem dX5_family_135 : decode cX5_family 135 = .ok (.aload 5, 2) := by decide +kernel
theorem dX5_family_137 : decode cX5_family 137 = .ok (.getfield 225, 3) := by decide +kernel
theorem dX5_family_140 : decode cX5_family 140 = .ok (.iload 8, 2) := by decide +kernel
theorem dX5_family_142 : decode cX5_family 142 = .ok (.iconst 2, 1) := by decide +kernel
theorem dX5_family_143 : decode cX5_family 143 = .ok (.iadd, 1) := by decide +kernel
theorem dX5_family_144 : decode cX5_family 144 = .ok (.iaload, 1) := by decide +kernel
theorem dX5_family_145 : decode cX5_family 145 = .ok (.invokevirtual 234, 3) := by decide +kernel
theorem dX5_family_148 : decode cX5_family 148 = .ok (.ifCond .lt 6, 3) := by decide +kernel
theorem dX5_family_151 : decode cX5_family 151 = .ok (.iinc 6 1, 3) := by decide +kernel
theorem dX5_family_154 : decode cX5_family 154 = .ok (.iinc 7 1, 3) := by decide +kernel
theorem dX5_family_157 : decode cX5_family 157 = .ok (.goto (-80), 3) := by decide +kernel
theorem dX5_family_160 : decode cX5_family 160 = .ok (.iload 6, 2) := by decide +kernel
theorem dX5_family_162 : decode cX5_family 162 = .ok (.ireturn, 1) := by decide +kernel
theorem dX5_taken_0 : decode cX5_taken 0 = .ok (.iload_n 2, 1) := by decide +kernel
theorem dX5_taken_1 : decode cX5_taken 1 = .ok (.ifCond .lt 9, 3) := by decide +kernel
theorem dX5_taken_4 : decode cX5_taken 4 = .ok (.iload_n 2, 1) := by decide +kernel
theorem dX5_taken_5 : decode cX5_taken 5 = .ok (.bipush 6, 2) := by decide +kernel
theorem dX5_taken_7 : decode cX5_taken 7 = .ok (.if_icmp .lt 6, 3) := by decide +kernel
theorem dX5_taken_10 : decode cX5_taken 10 = .ok (.bipush (-2), 2) := by decide +kernel
theorem dX5_taken_12 : decode cX5_taken 12 = .ok (.ireturn, 1) := by decide +kernel
theorem dX5_taken_13 : decode cX5_taken 13 = .ok (.aload_n 0, 1) := by decide +kernel
theorem dX5_taken_14 : decode cX5_taken 14 = .ok (.iload_n 1, 1) := by decide +kernel
theorem dX5_taken_15 : decode cX5_taken 15 = .ok (.invokevirtual 92, 3) := by decide +kernel
theorem dX5_taken_18 : decode cX5_taken 18 = .ok (.ifCond .ne 6, 3) := by decide +kernel
theorem dX5_taken_21 : decode cX5_taken 21 = .ok (.bipush (-11), 2) := by decide +kernel
theorem dX5_taken_23 : decode cX5_taken 23 = .ok (.ireturn, 1) := by decide +kernel
theorem dX5_taken_24 : decode cX5_taken 24 = .ok (.aload_n 0, 1) := by decide +kernel
theorem dX5_taken_25 : decode cX5_taken 25 = .ok (.getfield 10, 3) := by decide +kernel
theorem dX5_taken_28 : decode cX5_taken 28 = .ok (.getfield 95, 3) := by decide +kernel
theorem dX5_taken_31 : decode cX5_taken 31 = .ok (.iload_n 1, 1) := by decide +kernel
theorem dX5_taken_32 : decode cX5_taken 32 = .ok (.iaload, 1) := by decide +kernel
theorem dX5_taken_33 : decode cX5_taken 33 = .ok (.iload_n 2, 1) := by decide +kernel
theorem dX5_taken_34 : decode cX5_taken 34 = .ok (.invokestatic 237, 3) := by decide +kernel
theorem dX5_taken_37 : decode cX5_taken 37 = .ok (.ifCond .eq 15, 3) := by decide +kernel
theorem dX5_taken_40 : decode cX5_taken 40 = .ok (.aload_n 0, 1) := by decide +kernel
theorem dX5_taken_41 : decode cX5_taken 41 = .ok (.getfield 10, 3) := by decide +kernel
theorem dX5_taken_44 : decode cX5_taken 44 = .ok (.getfield 69, 3) := by decide +kernel
theorem dX5_taken_47 : decode cX5_taken 47 = .ok (.iload_n 1, 1) := by decide +kernel
theorem dX5_taken_48 : decode cX5_taken 48 = .ok (.iaload, 1) := by decide +kernel
theorem dX5_taken_49 : decode cX5_taken 49 = .ok (.goto 5, 3) := by decide +kernel
theorem dX5_taken_52 : decode cX5_taken 52 = .ok (.bipush (-13), 2) := by decide +kernel
theorem dX5_taken_54 : decode cX5_taken 54 = .ok (.ireturn, 1) := by decide +kernel
theorem dX5_isOne_0 : decode cX5_isOne 0 = .ok (.iload_n 1, 1) := by decide +kernel
theorem dX5_isOne_1 : decode cX5_isOne 1 = .ok (.ifCond .lt 18, 3) := by decide +kernel
theorem dX5_isOne_4 : decode cX5_isOne 4 = .ok (.iload_n 1, 1) := by decide +kernel
theorem dX5_isOne_5 : decode cX5_isOne 5 = .ok (.aload_n 0, 1) := by decide +kernel
theorem dX5_isOne_6 : decode cX5_isOne 6 = .ok (.getfield 10, 3) := by decide +kernel
theorem dX5_isOne_9 : decode cX5_isOne 9 = .ok (.getfield 210, 3) := by decide +kernel
theorem dX5_isOne_12 : decode cX5_isOne 12 = .ok (.if_icmp .ge 7, 3) := by decide +kernel
theorem dX5_isOne_15 : decode cX5_isOne 15 = .ok (.iconst 1, 1) := by decide +kernel
theorem dX5_isOne_16 : decode cX5_isOne 16 = .ok (.goto 4, 3) := by decide +kernel
theorem dX5_isOne_19 : decode cX5_isOne 19 = .ok (.iconst 0, 1) := by decide +kernel
theorem dX5_isOne_20 : decode cX5_isOne 20 = .ok (.ireturn, 1) := by decide +kernel
theorem dX5_isPlace_0 : decode cX5_isPlace 0 = .ok (.iload_n 0, 1) := by decide +kernel
theorem dX5_isPlace_1 : decode cX5_isPlace 1 = .ok (.ifCond .lt 13, 3) := by decide +kernel
theorem dX5_isPlace_4 : decode cX5_isPlace 4 = .ok (.iload_n 0, 1) := by decide +kernel
theorem dX5_isPlace_5 : decode cX5_isPlace 5 = .ok (.bipush 32, 2) := by decide +kernel
theorem dX5_isPlace_7 : decode cX5_isPlace 7 = .ok (.if_icmp .ge 7, 3) := by decide +kernel
theorem dX5_isPlace_10 : decode cX5_isPlace 10 = .ok (.iconst 1, 1) := by decide +kernel
theorem dX5_isPlace_11 : decode cX5_isPlace 11 = .ok (.goto 4, 3) := by decide +kernel
theorem dX5_isPlace_14 : decode cX5_isPlace 14 = .ok (.iconst 0, 1) := by decide +kernel
theorem dX5_isPlace_15 : decode cX5_isPlace 15 = .ok (.ireturn, 1) := by decide +kernel
theorem dX5_isSheet_0 : decode cX5_isSheet 0 = .ok (.iload_n 0, 1) := by decide +kernel
theorem dX5_isSheet_1 : decode cX5_isSheet 1 = .ok (.ifCond .lt 12, 3) := by decide +kernel
theorem dX5_isSheet_4 : decode cX5_isSheet 4 = .ok (.iload_n 0, 1) := by decide +kernel
theorem dX5_isSheet_5 : decode cX5_isSheet 5 = .ok (.iconst 4, 1) := by decide +kernel
theorem dX5_isSheet_6 : decode cX5_isSheet 6 = .ok (.if_icmp .ge 7, 3) := by decide +kernel
theorem dX5_isSheet_9 : decode cX5_isSheet 9 = .ok (.iconst 1, 1) := by decide +kernel
theorem dX5_isSheet_10 : decode cX5_isSheet 10 = .ok (.goto 4, 3) := by decide +kernel
theorem dX5_isSheet_13 : decode cX5_isSheet 13 = .ok (.iconst 0, 1) := by decide +kernel
theorem dX5_isSheet_14 : decode cX5_isSheet 14 = .ok (.ireturn, 1) := by decide +kernel
theorem dX5_isSettable_0 : decode cX5_isSettable 0 = .ok (.iload_n 1, 1) := by decide +kernel
theorem dX5_isSettable_1 : decode cX5_isSettable 1 = .ok (.ifCond .eq 8, 3) := by decide +kernel
theorem dX5_isSettable_4 : decode cX5_isSettable 4 = .ok (.iload_n 1, 1) := by decide +kernel
theorem dX5_isSettable_5 : decode cX5_isSettable 5 = .ok (.iconst 1, 1) := by decide +kernel
theorem dX5_isSettable_6 : decode cX5_isSettable 6 = .ok (.if_icmp .ne 5, 3) := by decide +kernel
theorem dX5_isSettable_9 : decode cX5_isSettable 9 = .ok (.iconst 1, 1) := by decide +kernel
theorem dX5_isSettable_10 : decode cX5_isSettable 10 = .ok (.ireturn, 1) := by decide +kernel
theorem dX5_isSettable_11 : decode cX5_isSettable 11 = .ok (.iload_n 1, 1) := by decide +kernel
theorem dX5_isSettable_12 : decode cX5_isSettable 12 = .ok (.iconst 2, 1) := by decide +kernel
theorem dX5_isSettable_13 : decode cX5_isSettable 13 = .ok (.if_icmp .ne 8, 3) := by decide +kernel
theorem dX5_isSettable_16 : decode cX5_isSettable 16 = .ok (.iload_n 2, 1) := by decide +kernel
theorem dX5_isSettable_17 : decode cX5_isSettable 17 = .ok (.invokestatic 85, 3) := by decide +kernel
theorem dX5_isSettable_20 : decode cX5_isSettable 20 = .ok (.ireturn, 1) := by decide +kernel
theorem dX5_isSettable_21 : decode cX5_isSettable 21 = .ok (.iload_n 1, 1) := by decide +kernel
theorem dX5_isSettable_22 : decode cX5_isSettable 22 = .ok (.iconst 3, 1) := by decide +kernel
theorem dX5_isSettable_23 : decode cX5_isSettable 23 = .ok (.if_icmp .lt 21, 3) := by decide +kernel
theorem dX5_isSettable_26 : decode cX5_isSettable 26 = .ok (.iload_n 1, 1) := by decide +kernel
theorem dX5_isSettable_27 : decode cX5_isSettable 27 = .ok (.bipush 6, 2) := by decide +kernel
theorem dX5_isSettable_29 : decode cX5_isSettable 29 = .ok (.if_icmp .gt 15, 3) := by decide +kernel
theorem dX5_isSettable_32 : decode cX5_isSettable 32 = .ok (.aload_n 0, 1) := by decide +kernel
theorem dX5_isSettable_33 : decode cX5_isSettable 33 = .ok (.iload_n 2, 1) := by decide +kernel
theorem dX5_isSettable_34 : decode cX5_isSettable 34 = .ok (.invokevirtual 92, 3) := by decide +kernel
theorem dX5_isSettable_37 : decode cX5_isSettable 37 = .ok (.ifCond .eq 7, 3) := by decide +kernel
theorem dX5_isSettable_40 : decode cX5_isSettable 40 = .ok (.iconst 1, 1) := by decide +kernel
theorem dX5_isSettable_41 : decode cX5_isSettable 41 = .ok (.goto 4, 3) := by decide +kernel
theorem dX5_isSettable_44 : decode cX5_isSettable 44 = .ok (.iconst 0, 1) := by decide +kernel
theorem dX5_isSettable_45 : decode cX5_isSettable 45 = .ok (.ireturn, 1) := by decide +kernel
theorem dX5_mostOf_0 : decode cX5_mostOf 0 = .ok (.iload_n 0, 1) := by decide +kernel
theorem dX5_mostOf_1 : decode cX5_mostOf 1 = .ok (.tableswitch 58 0 5 #[39, 43, 46, 49, 52, 55], 39) := by decide +kernel
theorem dX5_mostOf_40 : decode cX5_mostOf 40 = .ok (.sipush 999, 3) := by decide +kernel
theorem dX5_mostOf_43 : decode cX5_mostOf 43 = .ok (.ireturn, 1) := by decide +kernel
theorem dX5_mostOf_44 : decode cX5_mostOf 44 = .ok (.bipush 99, 2) := by decide +kernel
theorem dX5_mostOf_46 : decode cX5_mostOf 46 = .ok (.ireturn, 1) := by decide +kernel
theorem dX5_mostOf_47 : decode cX5_mostOf 47 = .ok (.bipush 99, 2) := by decide +kernel
theorem dX5_mostOf_49 : decode cX5_mostOf 49 = .ok (.ireturn, 1) := by decide +kernel
theorem dX5_mostOf_50 : decode cX5_mostOf 50 = .ok (.bipush 9, 2) := by decide +kernel
theorem dX5_mostOf_52 : decode cX5_mostOf 52 = .ok (.ireturn, 1) := by decide +kernel
theorem dX5_mostOf_53 : decode cX5_mostOf 53 = .ok (.bipush 99, 2) := by decide +kernel
theorem dX5_mostOf_55 : decode cX5_mostOf 55 = .ok (.ireturn, 1) := by decide +kernel
theorem dX5_mostOf_56 : decode cX5_mostOf 56 = .ok (.bipush 31, 2) := by decide +kernel
theorem dX5_mostOf_58 : decode cX5_mostOf 58 = .ok (.ireturn, 1) := by decide +kernel
theorem dX5_mostOf_59 : decode cX5_mostOf 59 = .ok (.iconst 3, 1) := by decide +kernel
theorem dX5_mostOf_60 : decode cX5_mostOf 60 = .ok (.ireturn, 1) := by decide +kernel
theorem dX5_stateOf_0 : decode cX5_stateOf 0 = .ok (.iload_n 1, 1) := by decide +kernel
theorem dX5_stateOf_1 : decode cX5_stateOf 1 = .ok (.tableswitch 95 0 5 #[39, 47, 55, 65, 75, 85], 39) := by decide +kernel
theorem dX5_stateOf_40 : decode cX5_stateOf 40 = .ok (.aload_n 0, 1) := by decide +kernel
theorem dX5_stateOf_41 : decode cX5_stateOf 41 = .ok (.getfield 10, 3) := by decide +kernel
theorem dX5_stateOf_44 : decode cX5_stateOf 44 = .ok (.getfield 59, 3) := by decide +kernel
theorem dX5_stateOf_47 : decode cX5_stateOf 47 = .ok (.ireturn, 1) := by decide +kernel
theorem dX5_stateOf_48 : decode cX5_stateOf 48 = .ok (.aload_n 0, 1) := by decide +kernel
theorem dX5_stateOf_49 : decode cX5_stateOf 49 = .ok (.getfield 10, 3) := by decide +kernel
theorem dX5_stateOf_52 : decode cX5_stateOf 52 = .ok (.getfield 63, 3) := by decide +kernel
theorem dX5_stateOf_55 : decode cX5_stateOf 55 = .ok (.ireturn, 1) := by decide +kernel
theorem dX5_stateOf_56 : decode cX5_stateOf 56 = .ok (.aload_n 0, 1) := by decide +kernel
theorem dX5_stateOf_57 : decode cX5_stateOf 57 = .ok (.getfield 10, 3) := by decide +kernel
theorem dX5_stateOf_60 : decode cX5_stateOf 60 = .ok (.getfield 66, 3) := by decide +kernel
theorem dX5_stateOf_63 : decode cX5_stateOf 63 = .ok (.iload_n 2, 1) := by decide +kernel
theorem dX5_stateOf_64 : decode cX5_stateOf 64 = .ok (.iaload, 1) := by decide +kernel
theorem dX5_stateOf_65 : decode cX5_stateOf 65 = .ok (.ireturn, 1) := by decide +kernel
theorem dX5_stateOf_66 : decode cX5_stateOf 66 = .ok (.aload_n 0, 1) := by decide +kernel
theorem dX5_stateOf_67 : decode cX5_stateOf 67 = .ok (.getfield 10, 3) := by decide +kernel
theorem dX5_stateOf_70 : decode cX5_stateOf 70 = .ok (.getfield 69, 3) := by decide +kernel
theorem dX5_stateOf_73 : decode cX5_stateOf 73 = .ok (.iload_n 2, 1) := by decide +kernel
theorem dX5_stateOf_74 : decode cX5_stateOf 74 = .ok (.iaload, 1) := by decide +kernel
theorem dX5_stateOf_75 : decode cX5_stateOf 75 = .ok (.ireturn, 1) := by decide +kernel
theorem dX5_stateOf_76 : decode cX5_stateOf 76 = .ok (.aload_n 0, 1) := by decide +kernel
theorem dX5_stateOf_77 : decode cX5_stateOf 77 = .ok (.getfield 10, 3) := by decide +kernel
theorem dX5_stateOf_80 : decode cX5_stateOf 80 = .ok (.getfield 72, 3) := by decide +kernel
theorem dX5_stateOf_83 : decode cX5_stateOf 83 = .ok (.iload_n 2, 1) := by decide +kernel
theorem dX5_stateOf_84 : decode cX5_stateOf 84 = .ok (.iaload, 1) := by decide +kernel
theorem dX5_stateOf_85 : decode cX5_stateOf 85 = .ok (.ireturn, 1) := by decide +kernel
theorem dX5_stateOf_86 : decode cX5_stateOf 86 = .ok (.aload_n 0, 1) := by decide +kernel
theorem dX5_stateOf_87 : decode cX5_stateOf 87 = .ok (.getfield 10, 3) := by decide +kernel
theorem dX5_stateOf_90 : decode cX5_stateOf 90 = .ok (.getfield 75, 3) := by decide +kernel
theorem dX5_stateOf_93 : decode cX5_stateOf 93 = .ok (.iload_n 2, 1) := by decide +kernel
theorem dX5_stateOf_94 : decode cX5_stateOf 94 = .ok (.iaload, 1) := by decide +kernel
theorem dX5_stateOf_95 : decode cX5_stateOf 95 = .ok (.ireturn, 1) := by decide +kernel
theorem dX5_stateOf_96 : decode cX5_stateOf 96 = .ok (.aload_n 0, 1) := by decide +kernel
theorem dX5_stateOf_97 : decode cX5_stateOf 97 = .ok (.getfield 10, 3) := by decide +kernel
theorem dX5_stateOf_100 : decode cX5_stateOf 100 = .ok (.getfield 78, 3) := by decide +kernel
theorem dX5_stateOf_103 : decode cX5_stateOf 103 = .ok (.iload_n 2, 1) := by decide +kernel
theorem dX5_stateOf_104 : decode cX5_stateOf 104 = .ok (.iaload, 1) := by decide +kernel
theorem dX5_stateOf_105 : decode cX5_stateOf 105 = .ok (.ireturn, 1) := by decide +kernel
theorem dX5_ruledOf_0 : decode cX5_ruledOf 0 = .ok (.aload_n 0, 1) := by decide +kernel
theorem dX5_ruledOf_1 : decode cX5_ruledOf 1 = .ok (.getfield 25, 3) := by decide +kernel
theorem dX5_ruledOf_4 : decode cX5_ruledOf 4 = .ok (.aload_n 0, 1) := by decide +kernel
theorem dX5_ruledOf_5 : decode cX5_ruledOf 5 = .ok (.getfield 10, 3) := by decide +kernel
theorem dX5_ruledOf_8 : decode cX5_ruledOf 8 = .ok (.getfield 130, 3) := by decide +kernel
theorem dX5_ruledOf_11 : decode cX5_ruledOf 11 = .ok (.invokevirtual 240, 3) := by decide +kernel
theorem dX5_ruledOf_14 : decode cX5_ruledOf 14 = .ok (.astore_n 3, 1) := by decide +kernel
theorem dX5_ruledOf_15 : decode cX5_ruledOf 15 = .ok (.aload_n 0, 1) := by decide +kernel
theorem dX5_ruledOf_16 : decode cX5_ruledOf 16 = .ok (.getfield 10, 3) := by decide +kernel
theorem dX5_ruledOf_19 : decode cX5_ruledOf 19 = .ok (.iload_n 1, 1) := by decide +kernel
theorem dX5_ruledOf_20 : decode cX5_ruledOf 20 = .ok (.invokevirtual 244, 3) := by decide +kernel
theorem dX5_ruledOf_23 : decode cX5_ruledOf 23 = .ok (.iload_n 2, 1) := by decide +kernel
theorem dX5_ruledOf_24 : decode cX5_ruledOf 24 = .ok (.bipush 9, 2) := by decide +kernel
theorem dX5_ruledOf_26 : decode cX5_ruledOf 26 = .ok (.if_icmp .ne 15, 3) := by decide +kernel
theorem dX5_ruledOf_29 : decode cX5_ruledOf 29 = .ok (.aload_n 0, 1) := by decide +kernel
theorem dX5_ruledOf_30 : decode cX5_ruledOf 30 = .ok (.getfield 10, 3) := by decide +kernel
theorem dX5_ruledOf_33 : decode cX5_ruledOf 33 = .ok (.iload_n 1, 1) := by decide +kernel
theorem dX5_ruledOf_34 : decode cX5_ruledOf 34 = .ok (.aload_n 3, 1) := by decide +kernel
theorem dX5_ruledOf_35 : decode cX5_ruledOf 35 = .ok (.invokevirtual 247, 3) := by decide +kernel
theorem dX5_ruledOf_38 : decode cX5_ruledOf 38 = .ok (.goto 34, 3) := by decide +kernel
theorem dX5_ruledOf_41 : decode cX5_ruledOf 41 = .ok (.iload_n 2, 1) := by decide +kernel
theorem dX5_ruledOf_42 : decode cX5_ruledOf 42 = .ok (.bipush 10, 2) := by decide +kernel
theorem dX5_ruledOf_44 : decode cX5_ruledOf 44 = .ok (.if_icmp .ne 15, 3) := by decide +kernel
theorem dX5_ruledOf_47 : decode cX5_ruledOf 47 = .ok (.aload_n 0, 1) := by decide +kernel
theorem dX5_ruledOf_48 : decode cX5_ruledOf 48 = .ok (.getfield 10, 3) := by decide +kernel
theorem dX5_ruledOf_51 : decode cX5_ruledOf 51 = .ok (.iload_n 1, 1) := by decide +kernel
theorem dX5_ruledOf_52 : decode cX5_ruledOf 52 = .ok (.aload_n 3, 1) := by decide +kernel
theorem dX5_ruledOf_53 : decode cX5_ruledOf 53 = .ok (.invokevirtual 251, 3) := by decide +kernel
theorem dX5_ruledOf_56 : decode cX5_ruledOf 56 = .ok (.goto 16, 3) := by decide +kernel
theorem dX5_ruledOf_59 : decode cX5_ruledOf 59 = .ok (.aload_n 0, 1) := by decide +kernel
theorem dX5_ruledOf_60 : decode cX5_ruledOf 60 = .ok (.getfield 10, 3) := by decide +kernel
theorem dX5_ruledOf_63 : decode cX5_ruledOf 63 = .ok (.iload_n 1, 1) := by decide +kernel
theorem dX5_ruledOf_64 : decode cX5_ruledOf 64 = .ok (.aload_n 3, 1) := by decide +kernel
theorem dX5_ruledOf_65 : decode cX5_ruledOf 65 = .ok (.invokevirtual 254, 3) := by decide +kernel
theorem dX5_ruledOf_68 : decode cX5_ruledOf 68 = .ok (.sipush 1000, 3) := by decide +kernel
theorem dX5_ruledOf_71 : decode cX5_ruledOf 71 = .ok (.iadd, 1) := by decide +kernel
theorem dX5_ruledOf_72 : decode cX5_ruledOf 72 = .ok (.ireturn, 1) := by decide +kernel
theorem dX5_isUnder_0 : decode cX5_isUnder 0 = .ok (.iload_n 0, 1) := by decide +kernel
theorem dX5_isUnder_1 : decode cX5_isUnder 1 = .ok (.istore_n 2, 1) := by decide +kernel
theorem dX5_isUnder_2 : decode cX5_isUnder 2 = .ok (.iconst 0, 1) := by decide +kernel
theorem dX5_isUnder_3 : decode cX5_isUnder 3 = .ok (.istore_n 3, 1) := by decide +kernel
theorem dX5_isUnder_4 : decode cX5_isUnder 4 = .ok (.iload_n 3, 1) := by decide +kernel
theorem dX5_isUnder_5 : decode cX5_isUnder 5 = .ok (.bipush 6, 2) := by decide +kernel
theorem dX5_isUnder_7 : decode cX5_isUnder 7 = .ok (.if_icmp .ge 19, 3) := by decide +kernel
theorem dX5_isUnder_10 : decode cX5_isUnder 10 = .ok (.iload_n 2, 1) := by decide +kernel
theorem dX5_isUnder_11 : decode cX5_isUnder 11 = .ok (.iload_n 1, 1) := by decide +kernel
theorem dX5_isUnder_12 : decode cX5_isUnder 12 = .ok (.if_icmp .eq 14, 3) := by decide +kernel
theorem dX5_isUnder_15 : decode cX5_isUnder 15 = .ok (.iload_n 2, 1) := by decide +kernel
theorem dX5_isUnder_16 : decode cX5_isUnder 16 = .ok (.invokestatic 257, 3) := by decide +kernel
theorem dX5_isUnder_19 : decode cX5_isUnder 19 = .ok (.istore_n 2, 1) := by decide +kernel
theorem dX5_isUnder_20 : decode cX5_isUnder 20 = .ok (.iinc 3 1, 3) := by decide +kernel
theorem dX5_isUnder_23 : decode cX5_isUnder 23 = .ok (.goto (-19), 3) := by decide +kernel
theorem dX5_isUnder_26 : decode cX5_isUnder 26 = .ok (.iload_n 2, 1) := by decide +kernel
theorem dX5_isUnder_27 : decode cX5_isUnder 27 = .ok (.iload_n 1, 1) := by decide +kernel
theorem dX5_isUnder_28 : decode cX5_isUnder 28 = .ok (.if_icmp .ne 7, 3) := by decide +kernel
theorem dX5_isUnder_31 : decode cX5_isUnder 31 = .ok (.iconst 1, 1) := by decide +kernel
theorem dX5_isUnder_32 : decode cX5_isUnder 32 = .ok (.goto 4, 3) := by decide +kernel
theorem dX5_isUnder_35 : decode cX5_isUnder 35 = .ok (.iconst 0, 1) := by decide +kernel
theorem dX5_isUnder_36 : decode cX5_isUnder 36 = .ok (.ireturn, 1) := by decide +kernel
theorem dX5_kindAbove_0 : decode cX5_kindAbove 0 = .ok (.iload_n 0, 1) := by decide +kernel
theorem dX5_kindAbove_1 : decode cX5_kindAbove 1 = .ok (.tableswitch 41 1 5 #[35, 35, 37, 39, 35], 35) := by decide +kernel
theorem dX5_kindAbove_36 : decode cX5_kindAbove 36 = .ok (.iconst 0, 1) := by decide +kernel
theorem dX5_kindAbove_37 : decode cX5_kindAbove 37 = .ok (.ireturn, 1) := by decide +kernel
theorem dX5_kindAbove_38 : decode cX5_kindAbove 38 = .ok (.iconst 1, 1) := by decide +kernel
theorem dX5_kindAbove_39 : decode cX5_kindAbove 39 = .ok (.ireturn, 1) := by decide +kernel
theorem dX5_kindAbove_40 : decode cX5_kindAbove 40 = .ok (.iconst 2, 1) := by decide +kernel
theorem dX5_kindAbove_41 : decode cX5_kindAbove 41 = .ok (.ireturn, 1) := by decide +kernel
theorem dX5_kindAbove_42 : decode cX5_kindAbove 42 = .ok (.iconst (-1), 1) := by decide +kernel
theorem dX5_kindAbove_43 : decode cX5_kindAbove 43 = .ok (.ireturn, 1) := by decide +kernel
theorem dX5_bounded_0 : decode cX5_bounded 0 = .ok (.iload_n 1, 1) := by decide +kernel
theorem dX5_bounded_1 : decode cX5_bounded 1 = .ok (.iload_n 2, 1) := by decide +kernel
theorem dX5_bounded_2 : decode cX5_bounded 2 = .ok (.iload_n 0, 1) := by decide +kernel
theorem dX5_bounded_3 : decode cX5_bounded 3 = .ok (.invokestatic 260, 3) := by decide +kernel
theorem dX5_bounded_6 : decode cX5_bounded 6 = .ok (.invokestatic 265, 3) := by decide +kernel
theorem dX5_bounded_9 : decode cX5_bounded 9 = .ok (.ireturn, 1) := by decide +kernel
theorem dX5_lowestTerms_0 : decode cX5_lowestTerms 0 = .ok (.iload_n 0, 1) := by decide +kernel
theorem dX5_lowestTerms_1 : decode cX5_lowestTerms 1 = .ok (.iload_n 1, 1) := by decide +kernel
theorem dX5_lowestTerms_2 : decode cX5_lowestTerms 2 = .ok (.invokestatic 268, 3) := by decide +kernel
theorem dX5_lowestTerms_5 : decode cX5_lowestTerms 5 = .ok (.istore_n 3, 1) := by decide +kernel
theorem dX5_lowestTerms_6 : decode cX5_lowestTerms 6 = .ok (.iload_n 2, 1) := by decide +kernel
theorem dX5_lowestTerms_7 : decode cX5_lowestTerms 7 = .ok (.ifCond .lt 12, 3) := by decide +kernel
theorem dX5_lowestTerms_10 : decode cX5_lowestTerms 10 = .ok (.iload_n 2, 1) := by decide +kernel
theorem dX5_lowestTerms_11 : decode cX5_lowestTerms 11 = .ok (.iconst 1, 1) := by decide +kernel
theorem dX5_lowestTerms_12 : decode cX5_lowestTerms 12 = .ok (.if_icmp .gt 7, 3) := by decide +kernel
theorem dX5_lowestTerms_15 : decode cX5_lowestTerms 15 = .ok (.iload_n 3, 1) := by decide +kernel
theorem dX5_lowestTerms_16 : decode cX5_lowestTerms 16 = .ok (.ifCond .ne 7, 3) := by decide +kernel
theorem dX5_lowestTerms_19 : decode cX5_lowestTerms 19 = .ok (.ldc2_w 192, 3) := by decide +kernel
theorem dX5_lowestTerms_22 : decode cX5_lowestTerms 22 = .ok (.lreturn, 1) := by decide +kernel
theorem dX5_lowestTerms_23 : decode cX5_lowestTerms 23 = .ok (.iload_n 2, 1) := by decide +kernel
theorem dX5_lowestTerms_24 : decode cX5_lowestTerms 24 = .ok (.ifCond .ne 10, 3) := by decide +kernel
theorem dX5_lowestTerms_27 : decode cX5_lowestTerms 27 = .ok (.iload_n 0, 1) := by decide +kernel
theorem dX5_lowestTerms_28 : decode cX5_lowestTerms 28 = .ok (.iload_n 3, 1) := by decide +kernel
theorem dX5_lowestTerms_29 : decode cX5_lowestTerms 29 = .ok (.idiv, 1) := by decide +kernel
theorem dX5_lowestTerms_30 : decode cX5_lowestTerms 30 = .ok (.i2l, 1) := by decide +kernel
theorem dX5_lowestTerms_31 : decode cX5_lowestTerms 31 = .ok (.goto 7, 3) := by decide +kernel
theorem dX5_lowestTerms_34 : decode cX5_lowestTerms 34 = .ok (.iload_n 1, 1) := by decide +kernel
theorem dX5_lowestTerms_35 : decode cX5_lowestTerms 35 = .ok (.iload_n 3, 1) := by decide +kernel
theorem dX5_lowestTerms_36 : decode cX5_lowestTerms 36 = .ok (.idiv, 1) := by decide +kernel
theorem dX5_lowestTerms_37 : decode cX5_lowestTerms 37 = .ok (.i2l, 1) := by decide +kernel
theorem dX5_lowestTerms_38 : decode cX5_lowestTerms 38 = .ok (.lreturn, 1) := by decide +kernel
theorem dX5_commonDivisor_0 : decode cX5_commonDivisor 0 = .ok (.iload_n 0, 1) := by decide +kernel
theorem dX5_commonDivisor_1 : decode cX5_commonDivisor 1 = .ok (.istore_n 2, 1) := by decide +kernel
theorem dX5_commonDivisor_2 : decode cX5_commonDivisor 2 = .ok (.iload_n 1, 1) := by decide +kernel
theorem dX5_commonDivisor_3 : decode cX5_commonDivisor 3 = .ok (.istore_n 3, 1) := by decide +kernel
theorem dX5_commonDivisor_4 : decode cX5_commonDivisor 4 = .ok (.iconst 0, 1) := by decide +kernel
theorem dX5_commonDivisor_5 : decode cX5_commonDivisor 5 = .ok (.istore 4, 2) := by decide +kernel
theorem dX5_commonDivisor_7 : decode cX5_commonDivisor 7 = .ok (.iload 4, 2) := by decide +kernel
theorem dX5_commonDivisor_9 : decode cX5_commonDivisor 9 = .ok (.bipush 100, 2) := by decide +kernel
theorem dX5_commonDivisor_11 : decode cX5_commonDivisor 11 = .ok (.if_icmp .ge 23, 3) := by decide +kernel
theorem dX5_commonDivisor_14 : decode cX5_commonDivisor 14 = .ok (.iload_n 3, 1) := by decide +kernel
theorem dX5_commonDivisor_15 : decode cX5_commonDivisor 15 = .ok (.ifCond .eq 19, 3) := by decide +kernel
theorem dX5_commonDivisor_18 : decode cX5_commonDivisor 18 = .ok (.iload_n 2, 1) := by decide +kernel
theorem dX5_commonDivisor_19 : decode cX5_commonDivisor 19 = .ok (.iload_n 3, 1) := by decide +kernel
theorem dX5_commonDivisor_20 : decode cX5_commonDivisor 20 = .ok (.irem, 1) := by decide +kernel
theorem dX5_commonDivisor_21 : decode cX5_commonDivisor 21 = .ok (.istore 5, 2) := by decide +kernel
theorem dX5_commonDivisor_23 : decode cX5_commonDivisor 23 = .ok (.iload_n 3, 1) := by decide +kernel
theorem dX5_commonDivisor_24 : decode cX5_commonDivisor 24 = .ok (.istore_n 2, 1) := by decide +kernel
theorem dX5_commonDivisor_25 : decode cX5_commonDivisor 25 = .ok (.iload 5, 2) := by decide +kernel
theorem dX5_commonDivisor_27 : decode cX5_commonDivisor 27 = .ok (.istore_n 3, 1) := by decide +kernel
theorem dX5_commonDivisor_28 : decode cX5_commonDivisor 28 = .ok (.iinc 4 1, 3) := by decide +kernel
theorem dX5_commonDivisor_31 : decode cX5_commonDivisor 31 = .ok (.goto (-24), 3) := by decide +kernel
theorem dX5_commonDivisor_34 : decode cX5_commonDivisor 34 = .ok (.iload_n 2, 1) := by decide +kernel
theorem dX5_commonDivisor_35 : decode cX5_commonDivisor 35 = .ok (.ireturn, 1) := by decide +kernel
theorem dX5_searchShifts_0 : decode cX5_searchShifts 0 = .ok (.iconst 1, 1) := by decide +kernel
theorem dX5_searchShifts_1 : decode cX5_searchShifts 1 = .ok (.istore_n 2, 1) := by decide +kernel
theorem dX5_searchShifts_2 : decode cX5_searchShifts 2 = .ok (.iconst 0, 1) := by decide +kernel
theorem dX5_searchShifts_3 : decode cX5_searchShifts 3 = .ok (.istore_n 3, 1) := by decide +kernel
theorem dX5_searchShifts_4 : decode cX5_searchShifts 4 = .ok (.iload_n 3, 1) := by decide +kernel
theorem dX5_searchShifts_5 : decode cX5_searchShifts 5 = .ok (.aload_n 0, 1) := by decide +kernel
theorem dX5_searchShifts_6 : decode cX5_searchShifts 6 = .ok (.getfield 10, 3) := by decide +kernel
theorem dX5_searchShifts_9 : decode cX5_searchShifts 9 = .ok (.getfield 210, 3) := by decide +kernel
theorem dX5_searchShifts_12 : decode cX5_searchShifts 12 = .ok (.if_icmp .ge 25, 3) := by decide +kernel
theorem dX5_searchShifts_15 : decode cX5_searchShifts 15 = .ok (.aload_n 0, 1) := by decide +kernel
theorem dX5_searchShifts_16 : decode cX5_searchShifts 16 = .ok (.getfield 10, 3) := by decide +kernel
theorem dX5_searchShifts_19 : decode cX5_searchShifts 19 = .ok (.getfield 78, 3) := by decide +kernel
theorem dX5_searchShifts_22 : decode cX5_searchShifts 22 = .ok (.iload_n 3, 1) := by decide +kernel
theorem dX5_searchShifts_23 : decode cX5_searchShifts 23 = .ok (.iaload, 1) := by decide +kernel
theorem dX5_searchShifts_24 : decode cX5_searchShifts 24 = .ok (.ifCond .ne 7, 3) := by decide +kernel
theorem dX5_searchShifts_27 : decode cX5_searchShifts 27 = .ok (.iload_n 2, 1) := by decide +kernel
theorem dX5_searchShifts_28 : decode cX5_searchShifts 28 = .ok (.iconst 4, 1) := by decide +kernel
theorem dX5_searchShifts_29 : decode cX5_searchShifts 29 = .ok (.imul, 1) := by decide +kernel
theorem dX5_searchShifts_30 : decode cX5_searchShifts 30 = .ok (.istore_n 2, 1) := by decide +kernel
theorem dX5_searchShifts_31 : decode cX5_searchShifts 31 = .ok (.iinc 3 1, 3) := by decide +kernel
theorem dX5_searchShifts_34 : decode cX5_searchShifts 34 = .ok (.goto (-30), 3) := by decide +kernel
theorem dX5_searchShifts_37 : decode cX5_searchShifts 37 = .ok (.aload_n 0, 1) := by decide +kernel
theorem dX5_searchShifts_38 : decode cX5_searchShifts 38 = .ok (.iconst (-1), 1) := by decide +kernel
theorem dX5_searchShifts_39 : decode cX5_searchShifts 39 = .ok (.putfield 159, 3) := by decide +kernel
theorem dX5_searchShifts_42 : decode cX5_searchShifts 42 = .ok (.iconst 0, 1) := by decide +kernel
theorem dX5_searchShifts_43 : decode cX5_searchShifts 43 = .ok (.istore_n 3, 1) := by decide +kernel
theorem dX5_searchShifts_44 : decode cX5_searchShifts 44 = .ok (.iload_n 3, 1) := by decide +kernel
theorem dX5_searchShifts_45 : decode cX5_searchShifts 45 = .ok (.iload_n 2, 1) := by decide +kernel
theorem dX5_searchShifts_46 : decode cX5_searchShifts 46 = .ok (.if_icmp .ge 86, 3) := by decide +kernel
theorem dX5_searchShifts_49 : decode cX5_searchShifts 49 = .ok (.aload_n 0, 1) := by decide +kernel
theorem dX5_searchShifts_50 : decode cX5_searchShifts 50 = .ok (.iload_n 3, 1) := by decide +kernel
theorem dX5_searchShifts_51 : decode cX5_searchShifts 51 = .ok (.invokevirtual 271, 3) := by decide +kernel
theorem dX5_searchShifts_54 : decode cX5_searchShifts 54 = .ok (.aload_n 0, 1) := by decide +kernel
theorem dX5_searchShifts_55 : decode cX5_searchShifts 55 = .ok (.iload_n 1, 1) := by decide +kernel
theorem dX5_searchShifts_56 : decode cX5_searchShifts 56 = .ok (.invokevirtual 274, 3) := by decide +kernel
theorem dX5_searchShifts_59 : decode cX5_searchShifts 59 = .ok (.aload_n 0, 1) := by decide +kernel
theorem dX5_searchShifts_60 : decode cX5_searchShifts 60 = .ok (.getfield 16, 3) := by decide +kernel
theorem dX5_searchShifts_63 : decode cX5_searchShifts 63 = .ok (.iconst 3, 1) := by decide +kernel
theorem dX5_searchShifts_64 : decode cX5_searchShifts 64 = .ok (.invokevirtual 133, 3) := by decide +kernel
theorem dX5_searchShifts_67 : decode cX5_searchShifts 67 = .ok (.istore 4, 2) := by decide +kernel
theorem dX5_searchShifts_69 : decode cX5_searchShifts 69 = .ok (.aload_n 0, 1) := by decide +kernel
theorem dX5_searchShifts_70 : decode cX5_searchShifts 70 = .ok (.getfield 16, 3) := by decide +kernel
theorem dX5_searchShifts_73 : decode cX5_searchShifts 73 = .ok (.iconst 2, 1) := by decide +kernel
theorem dX5_searchShifts_74 : decode cX5_searchShifts 74 = .ok (.invokevirtual 133, 3) := by decide +kernel
theorem dX5_searchShifts_77 : decode cX5_searchShifts 77 = .ok (.istore 5, 2) := by decide +kernel
theorem dX5_searchShifts_79 : decode cX5_searchShifts 79 = .ok (.iload 4, 2) := by decide +kernel
theorem dX5_searchShifts_81 : decode cX5_searchShifts 81 = .ok (.aload_n 0, 1) := by decide +kernel
theorem dX5_searchShifts_82 : decode cX5_searchShifts 82 = .ok (.getfield 159, 3) := by decide +kernel
theorem dX5_searchShifts_85 : decode cX5_searchShifts 85 = .ok (.if_icmp .gt 21, 3) := by decide +kernel
theorem dX5_searchShifts_88 : decode cX5_searchShifts 88 = .ok (.iload 4, 2) := by decide +kernel
theorem dX5_searchShifts_90 : decode cX5_searchShifts 90 = .ok (.aload_n 0, 1) := by decide +kernel
theorem dX5_searchShifts_91 : decode cX5_searchShifts 91 = .ok (.getfield 159, 3) := by decide +kernel
theorem dX5_searchShifts_94 : decode cX5_searchShifts 94 = .ok (.if_icmp .ne 32, 3) := by decide +kernel
theorem dX5_searchShifts_97 : decode cX5_searchShifts 97 = .ok (.iload 5, 2) := by decide +kernel
theorem dX5_searchShifts_99 : decode cX5_searchShifts 99 = .ok (.aload_n 0, 1) := by decide +kernel
theorem dX5_searchShifts_100 : decode cX5_searchShifts 100 = .ok (.getfield 162, 3) := by decide +kernel
theorem dX5_searchShifts_103 : decode cX5_searchShifts 103 = .ok (.if_icmp .ge 23, 3) := by decide +kernel
theorem dX5_searchShifts_106 : decode cX5_searchShifts 106 = .ok (.aload_n 0, 1) := by decide +kernel
theorem dX5_searchShifts_107 : decode cX5_searchShifts 107 = .ok (.iload 4, 2) := by decide +kernel
theorem dX5_searchShifts_109 : decode cX5_searchShifts 109 = .ok (.putfield 159, 3) := by decide +kernel
theorem dX5_searchShifts_112 : decode cX5_searchShifts 112 = .ok (.aload_n 0, 1) := by decide +kernel
theorem dX5_searchShifts_113 : decode cX5_searchShifts 113 = .ok (.iload 5, 2) := by decide +kernel
theorem dX5_searchShifts_115 : decode cX5_searchShifts 115 = .ok (.putfield 162, 3) := by decide +kernel
theorem dX5_searchShifts_118 : decode cX5_searchShifts 118 = .ok (.aload_n 0, 1) := by decide +kernel
theorem dX5_searchShifts_119 : decode cX5_searchShifts 119 = .ok (.aload_n 0, 1) := by decide +kernel
theorem dX5_searchShifts_120 : decode cX5_searchShifts 120 = .ok (.invokevirtual 277, 3) := by decide +kernel
theorem dX5_searchShifts_123 : decode cX5_searchShifts 123 = .ok (.putfield 156, 3) := by decide +kernel
theorem dX5_searchShifts_126 : decode cX5_searchShifts 126 = .ok (.iinc 3 1, 3) := by decide +kernel
theorem dX5_searchShifts_129 : decode cX5_searchShifts 129 = .ok (.goto (-85), 3) := by decide +kernel
theorem dX5_searchShifts_132 : decode cX5_searchShifts 132 = .ok (.return_, 1) := by decide +kernel
theorem dX5_layPlan_0 : decode cX5_layPlan 0 = .ok (.iload_n 1, 1) := by decide +kernel
theorem dX5_layPlan_1 : decode cX5_layPlan 1 = .ok (.istore_n 2, 1) := by decide +kernel
theorem dX5_layPlan_2 : decode cX5_layPlan 2 = .ok (.aload_n 0, 1) := by decide +kernel
theorem dX5_layPlan_3 : decode cX5_layPlan 3 = .ok (.getfield 10, 3) := by decide +kernel
theorem dX5_layPlan_6 : decode cX5_layPlan 6 = .ok (.getfield 210, 3) := by decide +kernel
theorem dX5_layPlan_9 : decode cX5_layPlan 9 = .ok (.iconst 1, 1) := by decide +kernel
theorem dX5_layPlan_10 : decode cX5_layPlan 10 = .ok (.isub, 1) := by decide +kernel
theorem dX5_layPlan_11 : decode cX5_layPlan 11 = .ok (.istore_n 3, 1) := by decide +kernel
theorem dX5_layPlan_12 : decode cX5_layPlan 12 = .ok (.iload_n 3, 1) := by decide +kernel
theorem dX5_layPlan_13 : decode cX5_layPlan 13 = .ok (.ifCond .lt 46, 3) := by decide +kernel
theorem dX5_layPlan_16 : decode cX5_layPlan 16 = .ok (.aload_n 0, 1) := by decide +kernel
theorem dX5_layPlan_17 : decode cX5_layPlan 17 = .ok (.getfield 10, 3) := by decide +kernel
theorem dX5_layPlan_20 : decode cX5_layPlan 20 = .ok (.getfield 78, 3) := by decide +kernel
theorem dX5_layPlan_23 : decode cX5_layPlan 23 = .ok (.iload_n 3, 1) := by decide +kernel
theorem dX5_layPlan_24 : decode cX5_layPlan 24 = .ok (.iaload, 1) := by decide +kernel
theorem dX5_layPlan_25 : decode cX5_layPlan 25 = .ok (.ifCond .ne 21, 3) := by decide +kernel
theorem dX5_layPlan_28 : decode cX5_layPlan 28 = .ok (.aload_n 0, 1) := by decide +kernel
theorem dX5_layPlan_29 : decode cX5_layPlan 29 = .ok (.getfield 42, 3) := by decide +kernel
theorem dX5_layPlan_32 : decode cX5_layPlan 32 = .ok (.iload_n 3, 1) := by decide +kernel
theorem dX5_layPlan_33 : decode cX5_layPlan 33 = .ok (.iconst 1, 1) := by decide +kernel
theorem dX5_layPlan_34 : decode cX5_layPlan 34 = .ok (.iload_n 2, 1) := by decide +kernel
theorem dX5_layPlan_35 : decode cX5_layPlan 35 = .ok (.iconst 4, 1) := by decide +kernel
theorem dX5_layPlan_36 : decode cX5_layPlan 36 = .ok (.irem, 1) := by decide +kernel
theorem dX5_layPlan_37 : decode cX5_layPlan 37 = .ok (.iadd, 1) := by decide +kernel
theorem dX5_layPlan_38 : decode cX5_layPlan 38 = .ok (.iastore, 1) := by decide +kernel
theorem dX5_layPlan_39 : decode cX5_layPlan 39 = .ok (.iload_n 2, 1) := by decide +kernel
theorem dX5_layPlan_40 : decode cX5_layPlan 40 = .ok (.iconst 4, 1) := by decide +kernel
theorem dX5_layPlan_41 : decode cX5_layPlan 41 = .ok (.idiv, 1) := by decide +kernel
theorem dX5_layPlan_42 : decode cX5_layPlan 42 = .ok (.istore_n 2, 1) := by decide +kernel
theorem dX5_layPlan_43 : decode cX5_layPlan 43 = .ok (.goto 10, 3) := by decide +kernel
theorem dX5_layPlan_46 : decode cX5_layPlan 46 = .ok (.aload_n 0, 1) := by decide +kernel
theorem dX5_layPlan_47 : decode cX5_layPlan 47 = .ok (.getfield 42, 3) := by decide +kernel
theorem dX5_layPlan_50 : decode cX5_layPlan 50 = .ok (.iload_n 3, 1) := by decide +kernel
theorem dX5_layPlan_51 : decode cX5_layPlan 51 = .ok (.iconst 0, 1) := by decide +kernel
theorem dX5_layPlan_52 : decode cX5_layPlan 52 = .ok (.iastore, 1) := by decide +kernel
theorem dX5_layPlan_53 : decode cX5_layPlan 53 = .ok (.iinc 3 (-1), 3) := by decide +kernel
theorem dX5_layPlan_56 : decode cX5_layPlan 56 = .ok (.goto (-44), 3) := by decide +kernel
theorem dX5_layPlan_59 : decode cX5_layPlan 59 = .ok (.return_, 1) := by decide +kernel
theorem dX5_walkPlan_0 : decode cX5_walkPlan 0 = .ok (.aload_n 0, 1) := by decide +kernel
theorem dX5_walkPlan_1 : decode cX5_walkPlan 1 = .ok (.getfield 16, 3) := by decide +kernel
theorem dX5_walkPlan_4 : decode cX5_walkPlan 4 = .ok (.aload_n 0, 1) := by decide +kernel
theorem dX5_walkPlan_5 : decode cX5_walkPlan 5 = .ok (.getfield 10, 3) := by decide +kernel
theorem dX5_walkPlan_8 : decode cX5_walkPlan 8 = .ok (.invokevirtual 140, 3) := by decide +kernel
theorem dX5_walkPlan_11 : decode cX5_walkPlan 11 = .ok (.iconst 0, 1) := by decide +kernel
theorem dX5_walkPlan_12 : decode cX5_walkPlan 12 = .ok (.istore_n 2, 1) := by decide +kernel
theorem dX5_walkPlan_13 : decode cX5_walkPlan 13 = .ok (.iload_n 2, 1) := by decide +kernel
theorem dX5_walkPlan_14 : decode cX5_walkPlan 14 = .ok (.iload_n 1, 1) := by decide +kernel
theorem dX5_walkPlan_15 : decode cX5_walkPlan 15 = .ok (.if_icmp .gt 29, 3) := by decide +kernel
theorem dX5_walkPlan_18 : decode cX5_walkPlan 18 = .ok (.iload_n 2, 1) := by decide +kernel
theorem dX5_walkPlan_19 : decode cX5_walkPlan 19 = .ok (.ifCond .le 14, 3) := by decide +kernel
theorem dX5_walkPlan_22 : decode cX5_walkPlan 22 = .ok (.aload_n 0, 1) := by decide +kernel
theorem dX5_walkPlan_23 : decode cX5_walkPlan 23 = .ok (.getfield 16, 3) := by decide +kernel
theorem dX5_walkPlan_26 : decode cX5_walkPlan 26 = .ok (.aload_n 0, 1) := by decide +kernel
theorem dX5_walkPlan_27 : decode cX5_walkPlan 27 = .ok (.getfield 25, 3) := by decide +kernel
theorem dX5_walkPlan_30 : decode cX5_walkPlan 30 = .ok (.invokevirtual 136, 3) := by decide +kernel
theorem dX5_walkPlan_33 : decode cX5_walkPlan 33 = .ok (.aload_n 0, 1) := by decide +kernel
theorem dX5_walkPlan_34 : decode cX5_walkPlan 34 = .ok (.iload_n 2, 1) := by decide +kernel
theorem dX5_walkPlan_35 : decode cX5_walkPlan 35 = .ok (.invokevirtual 280, 3) := by decide +kernel
theorem dX5_walkPlan_38 : decode cX5_walkPlan 38 = .ok (.iinc 2 1, 3) := by decide +kernel
theorem dX5_walkPlan_41 : decode cX5_walkPlan 41 = .ok (.goto (-28), 3) := by decide +kernel
theorem dX5_walkPlan_44 : decode cX5_walkPlan 44 = .ok (.return_, 1) := by decide +kernel
theorem dX5_startPlanned_0 : decode cX5_startPlanned 0 = .ok (.iconst 0, 1) := by decide +kernel
theorem dX5_startPlanned_1 : decode cX5_startPlanned 1 = .ok (.istore_n 2, 1) := by decide +kernel
theorem dX5_startPlanned_2 : decode cX5_startPlanned 2 = .ok (.iload_n 2, 1) := by decide +kernel
theorem dX5_startPlanned_3 : decode cX5_startPlanned 3 = .ok (.aload_n 0, 1) := by decide +kernel
theorem dX5_startPlanned_4 : decode cX5_startPlanned 4 = .ok (.getfield 16, 3) := by decide +kernel
theorem dX5_startPlanned_7 : decode cX5_startPlanned 7 = .ok (.getfield 210, 3) := by decide +kernel
theorem dX5_startPlanned_10 : decode cX5_startPlanned 10 = .ok (.if_icmp .ge 36, 3) := by decide +kernel
theorem dX5_startPlanned_13 : decode cX5_startPlanned 13 = .ok (.iload_n 1, 1) := by decide +kernel
theorem dX5_startPlanned_14 : decode cX5_startPlanned 14 = .ok (.iconst 3, 1) := by decide +kernel
theorem dX5_startPlanned_15 : decode cX5_startPlanned 15 = .ok (.if_icmp .ge 31, 3) := by decide +kernel
theorem dX5_startPlanned_18 : decode cX5_startPlanned 18 = .ok (.aload_n 0, 1) := by decide +kernel
theorem dX5_startPlanned_19 : decode cX5_startPlanned 19 = .ok (.getfield 42, 3) := by decide +kernel
theorem dX5_startPlanned_22 : decode cX5_startPlanned 22 = .ok (.iload_n 2, 1) := by decide +kernel
theorem dX5_startPlanned_23 : decode cX5_startPlanned 23 = .ok (.iaload, 1) := by decide +kernel
theorem dX5_startPlanned_24 : decode cX5_startPlanned 24 = .ok (.iload_n 1, 1) := by decide +kernel
theorem dX5_startPlanned_25 : decode cX5_startPlanned 25 = .ok (.iconst 1, 1) := by decide +kernel
theorem dX5_startPlanned_26 : decode cX5_startPlanned 26 = .ok (.iadd, 1) := by decide +kernel
theorem dX5_startPlanned_27 : decode cX5_startPlanned 27 = .ok (.if_icmp .ne 13, 3) := by decide +kernel
theorem dX5_startPlanned_30 : decode cX5_startPlanned 30 = .ok (.aload_n 0, 1) := by decide +kernel
theorem dX5_startPlanned_31 : decode cX5_startPlanned 31 = .ok (.getfield 16, 3) := by decide +kernel
theorem dX5_startPlanned_34 : decode cX5_startPlanned 34 = .ok (.getfield 78, 3) := by decide +kernel
theorem dX5_startPlanned_37 : decode cX5_startPlanned 37 = .ok (.iload_n 2, 1) := by decide +kernel
theorem dX5_startPlanned_38 : decode cX5_startPlanned 38 = .ok (.iconst 1, 1) := by decide +kernel
theorem dX5_startPlanned_39 : decode cX5_startPlanned 39 = .ok (.iastore, 1) := by decide +kernel
theorem dX5_startPlanned_40 : decode cX5_startPlanned 40 = .ok (.iinc 2 1, 3) := by decide +kernel
theorem dX5_startPlanned_43 : decode cX5_startPlanned 43 = .ok (.goto (-41), 3) := by decide +kernel
theorem dX5_startPlanned_46 : decode cX5_startPlanned 46 = .ok (.return_, 1) := by decide +kernel
theorem dX5_planDigits_0 : decode cX5_planDigits 0 = .ok (.iconst 0, 1) := by decide +kernel
theorem dX5_planDigits_1 : decode cX5_planDigits 1 = .ok (.istore_n 1, 1) := by decide +kernel
theorem dX5_planDigits_2 : decode cX5_planDigits 2 = .ok (.iconst 0, 1) := by decide +kernel
theorem dX5_planDigits_3 : decode cX5_planDigits 3 = .ok (.istore_n 2, 1) := by decide +kernel
theorem dX5_planDigits_4 : decode cX5_planDigits 4 = .ok (.iload_n 2, 1) := by decide +kernel
theorem dX5_planDigits_5 : decode cX5_planDigits 5 = .ok (.aload_n 0, 1) := by decide +kernel
theorem dX5_planDigits_6 : decode cX5_planDigits 6 = .ok (.getfield 10, 3) := by decide +kernel
theorem dX5_planDigits_9 : decode cX5_planDigits 9 = .ok (.getfield 210, 3) := by decide +kernel
theorem dX5_planDigits_12 : decode cX5_planDigits 12 = .ok (.if_icmp .ge 21, 3) := by decide +kernel
theorem dX5_planDigits_15 : decode cX5_planDigits 15 = .ok (.iload_n 1, 1) := by decide +kernel
theorem dX5_planDigits_16 : decode cX5_planDigits 16 = .ok (.bipush 10, 2) := by decide +kernel
theorem dX5_planDigits_18 : decode cX5_planDigits 18 = .ok (.imul, 1) := by decide +kernel
theorem dX5_planDigits_19 : decode cX5_planDigits 19 = .ok (.aload_n 0, 1) := by decide +kernel
theorem dX5_planDigits_20 : decode cX5_planDigits 20 = .ok (.getfield 42, 3) := by decide +kernel
theorem dX5_planDigits_23 : decode cX5_planDigits 23 = .ok (.iload_n 2, 1) := by decide +kernel
theorem dX5_planDigits_24 : decode cX5_planDigits 24 = .ok (.iaload, 1) := by decide +kernel
theorem dX5_planDigits_25 : decode cX5_planDigits 25 = .ok (.iadd, 1) := by decide +kernel
theorem dX5_planDigits_26 : decode cX5_planDigits 26 = .ok (.istore_n 1, 1) := by decide +kernel
theorem dX5_planDigits_27 : decode cX5_planDigits 27 = .ok (.iinc 2 1, 3) := by decide +kernel
theorem dX5_planDigits_30 : decode cX5_planDigits 30 = .ok (.goto (-26), 3) := by decide +kernel
theorem dX5_planDigits_33 : decode cX5_planDigits 33 = .ok (.iload_n 1, 1) := by decide +kernel
theorem dX5_planDigits_34 : decode cX5_planDigits 34 = .ok (.ireturn, 1) := by decide +kernel
theorem dX5_searchLeave_0 : decode cX5_searchLeave 0 = .ok (.aload_n 0, 1) := by decide +kernel
theorem dX5_searchLeave_1 : decode cX5_searchLeave 1 = .ok (.getfield 16, 3) := by decide +kernel
theorem dX5_searchLeave_4 : decode cX5_searchLeave 4 = .ok (.aload_n 0, 1) := by decide +kernel
theorem dX5_searchLeave_5 : decode cX5_searchLeave 5 = .ok (.getfield 10, 3) := by decide +kernel
theorem dX5_searchLeave_8 : decode cX5_searchLeave 8 = .ok (.invokevirtual 140, 3) := by decide +kernel
theorem dX5_searchLeave_11 : decode cX5_searchLeave 11 = .ok (.aload_n 0, 1) := by decide +kernel
theorem dX5_searchLeave_12 : decode cX5_searchLeave 12 = .ok (.getfield 16, 3) := by decide +kernel
theorem dX5_searchLeave_15 : decode cX5_searchLeave 15 = .ok (.iload_n 1, 1) := by decide +kernel
theorem dX5_searchLeave_16 : decode cX5_searchLeave 16 = .ok (.aload_n 0, 1) := by decide +kernel
theorem dX5_searchLeave_17 : decode cX5_searchLeave 17 = .ok (.getfield 25, 3) := by decide +kernel
theorem dX5_searchLeave_20 : decode cX5_searchLeave 20 = .ok (.invokevirtual 144, 3) := by decide +kernel
theorem dX5_searchLeave_23 : decode cX5_searchLeave 23 = .ok (.aload_n 0, 1) := by decide +kernel
theorem dX5_searchLeave_24 : decode cX5_searchLeave 24 = .ok (.iconst (-1), 1) := by decide +kernel
theorem dX5_searchLeave_25 : decode cX5_searchLeave 25 = .ok (.putfield 156, 3) := by decide +kernel
theorem dX5_searchLeave_28 : decode cX5_searchLeave 28 = .ok (.aload_n 0, 1) := by decide +kernel
theorem dX5_searchLeave_29 : decode cX5_searchLeave 29 = .ok (.aload_n 0, 1) := by decide +kernel
theorem dX5_searchLeave_30 : decode cX5_searchLeave 30 = .ok (.getfield 16, 3) := by decide +kernel
theorem dX5_searchLeave_33 : decode cX5_searchLeave 33 = .ok (.iconst 2, 1) := by decide +kernel
theorem dX5_searchLeave_34 : decode cX5_searchLeave 34 = .ok (.invokevirtual 133, 3) := by decide +kernel
theorem dX5_searchLeave_37 : decode cX5_searchLeave 37 = .ok (.putfield 162, 3) := by decide +kernel
theorem dX5_searchLeave_40 : decode cX5_searchLeave 40 = .ok (.iconst 0, 1) := by decide +kernel
theorem dX5_searchLeave_41 : decode cX5_searchLeave 41 = .ok (.istore_n 2, 1) := by decide +kernel
theorem dX5_searchLeave_42 : decode cX5_searchLeave 42 = .ok (.iload_n 2, 1) := by decide +kernel
theorem dX5_searchLeave_43 : decode cX5_searchLeave 43 = .ok (.aload_n 0, 1) := by decide +kernel
theorem dX5_searchLeave_44 : decode cX5_searchLeave 44 = .ok (.getfield 10, 3) := by decide +kernel
theorem dX5_searchLeave_47 : decode cX5_searchLeave 47 = .ok (.getfield 210, 3) := by decide +kernel
theorem dX5_searchLeave_50 : decode cX5_searchLeave 50 = .ok (.if_icmp .ge 82, 3) := by decide +kernel
theorem dX5_searchLeave_53 : decode cX5_searchLeave 53 = .ok (.aload_n 0, 1) := by decide +kernel
theorem dX5_searchLeave_54 : decode cX5_searchLeave 54 = .ok (.getfield 10, 3) := by decide +kernel
theorem dX5_searchLeave_57 : decode cX5_searchLeave 57 = .ok (.getfield 78, 3) := by decide +kernel
theorem dX5_searchLeave_60 : decode cX5_searchLeave 60 = .ok (.iload_n 2, 1) := by decide +kernel
theorem dX5_searchLeave_61 : decode cX5_searchLeave 61 = .ok (.iaload, 1) := by decide +kernel
theorem dX5_searchLeave_62 : decode cX5_searchLeave 62 = .ok (.iconst 1, 1) := by decide +kernel
theorem dX5_searchLeave_63 : decode cX5_searchLeave 63 = .ok (.if_icmp .ne 63, 3) := by decide +kernel
theorem dX5_searchLeave_66 : decode cX5_searchLeave 66 = .ok (.aload_n 0, 1) := by decide +kernel
theorem dX5_searchLeave_67 : decode cX5_searchLeave 67 = .ok (.getfield 16, 3) := by decide +kernel
theorem dX5_searchLeave_70 : decode cX5_searchLeave 70 = .ok (.aload_n 0, 1) := by decide +kernel
theorem dX5_searchLeave_71 : decode cX5_searchLeave 71 = .ok (.getfield 10, 3) := by decide +kernel
theorem dX5_searchLeave_74 : decode cX5_searchLeave 74 = .ok (.invokevirtual 140, 3) := by decide +kernel
theorem dX5_searchLeave_77 : decode cX5_searchLeave 77 = .ok (.aload_n 0, 1) := by decide +kernel
theorem dX5_searchLeave_78 : decode cX5_searchLeave 78 = .ok (.getfield 16, 3) := by decide +kernel
theorem dX5_searchLeave_81 : decode cX5_searchLeave 81 = .ok (.getfield 78, 3) := by decide +kernel
theorem dX5_searchLeave_84 : decode cX5_searchLeave 84 = .ok (.iload_n 2, 1) := by decide +kernel
theorem dX5_searchLeave_85 : decode cX5_searchLeave 85 = .ok (.iconst 0, 1) := by decide +kernel
theorem dX5_searchLeave_86 : decode cX5_searchLeave 86 = .ok (.iastore, 1) := by decide +kernel
theorem dX5_searchLeave_87 : decode cX5_searchLeave 87 = .ok (.aload_n 0, 1) := by decide +kernel
theorem dX5_searchLeave_88 : decode cX5_searchLeave 88 = .ok (.getfield 16, 3) := by decide +kernel
theorem dX5_searchLeave_91 : decode cX5_searchLeave 91 = .ok (.iload_n 1, 1) := by decide +kernel
theorem dX5_searchLeave_92 : decode cX5_searchLeave 92 = .ok (.aload_n 0, 1) := by decide +kernel
theorem dX5_searchLeave_93 : decode cX5_searchLeave 93 = .ok (.getfield 25, 3) := by decide +kernel
theorem dX5_searchLeave_96 : decode cX5_searchLeave 96 = .ok (.invokevirtual 144, 3) := by decide +kernel
theorem dX5_searchLeave_99 : decode cX5_searchLeave 99 = .ok (.aload_n 0, 1) := by decide +kernel
theorem dX5_searchLeave_100 : decode cX5_searchLeave 100 = .ok (.getfield 16, 3) := by decide +kernel
theorem dX5_searchLeave_103 : decode cX5_searchLeave 103 = .ok (.iconst 2, 1) := by decide +kernel
theorem dX5_searchLeave_104 : decode cX5_searchLeave 104 = .ok (.invokevirtual 133, 3) := by decide +kernel
theorem dX5_searchLeave_107 : decode cX5_searchLeave 107 = .ok (.istore_n 3, 1) := by decide +kernel
theorem dX5_searchLeave_108 : decode cX5_searchLeave 108 = .ok (.iload_n 3, 1) := by decide +kernel
theorem dX5_searchLeave_109 : decode cX5_searchLeave 109 = .ok (.aload_n 0, 1) := by decide +kernel
theorem dX5_searchLeave_110 : decode cX5_searchLeave 110 = .ok (.getfield 162, 3) := by decide +kernel
theorem dX5_searchLeave_113 : decode cX5_searchLeave 113 = .ok (.if_icmp .ge 13, 3) := by decide +kernel
theorem dX5_searchLeave_116 : decode cX5_searchLeave 116 = .ok (.aload_n 0, 1) := by decide +kernel
theorem dX5_searchLeave_117 : decode cX5_searchLeave 117 = .ok (.iload_n 3, 1) := by decide +kernel
theorem dX5_searchLeave_118 : decode cX5_searchLeave 118 = .ok (.putfield 162, 3) := by decide +kernel
theorem dX5_searchLeave_121 : decode cX5_searchLeave 121 = .ok (.aload_n 0, 1) := by decide +kernel
theorem dX5_searchLeave_122 : decode cX5_searchLeave 122 = .ok (.iload_n 2, 1) := by decide +kernel
theorem dX5_searchLeave_123 : decode cX5_searchLeave 123 = .ok (.putfield 156, 3) := by decide +kernel
theorem dX5_searchLeave_126 : decode cX5_searchLeave 126 = .ok (.iinc 2 1, 3) := by decide +kernel
theorem dX5_searchLeave_129 : decode cX5_searchLeave 129 = .ok (.goto (-87), 3) := by decide +kernel
theorem dX5_searchLeave_132 : decode cX5_searchLeave 132 = .ok (.return_, 1) := by decide +kernel
theorem dX5_overWhenDrawn_0 : decode cX5_overWhenDrawn 0 = .ok (.aload_n 0, 1) := by decide +kernel
theorem dX5_overWhenDrawn_1 : decode cX5_overWhenDrawn 1 = .ok (.getfield 16, 3) := by decide +kernel
theorem dX5_overWhenDrawn_4 : decode cX5_overWhenDrawn 4 = .ok (.aload_n 0, 1) := by decide +kernel
theorem dX5_overWhenDrawn_5 : decode cX5_overWhenDrawn 5 = .ok (.getfield 10, 3) := by decide +kernel
theorem dX5_overWhenDrawn_8 : decode cX5_overWhenDrawn 8 = .ok (.invokevirtual 140, 3) := by decide +kernel
theorem dX5_overWhenDrawn_11 : decode cX5_overWhenDrawn 11 = .ok (.iload_n 1, 1) := by decide +kernel
theorem dX5_overWhenDrawn_12 : decode cX5_overWhenDrawn 12 = .ok (.istore_n 3, 1) := by decide +kernel
theorem dX5_overWhenDrawn_13 : decode cX5_overWhenDrawn 13 = .ok (.iconst 0, 1) := by decide +kernel
theorem dX5_overWhenDrawn_14 : decode cX5_overWhenDrawn 14 = .ok (.istore 4, 2) := by decide +kernel
theorem dX5_overWhenDrawn_16 : decode cX5_overWhenDrawn 16 = .ok (.iload 4, 2) := by decide +kernel
theorem dX5_overWhenDrawn_18 : decode cX5_overWhenDrawn 18 = .ok (.iload_n 2, 1) := by decide +kernel
theorem dX5_overWhenDrawn_19 : decode cX5_overWhenDrawn 19 = .ok (.if_icmp .ge 44, 3) := by decide +kernel
theorem dX5_overWhenDrawn_22 : decode cX5_overWhenDrawn 22 = .ok (.iload_n 3, 1) := by decide +kernel
theorem dX5_overWhenDrawn_23 : decode cX5_overWhenDrawn 23 = .ok (.ldc_w 283, 3) := by decide +kernel
theorem dX5_overWhenDrawn_26 : decode cX5_overWhenDrawn 26 = .ok (.imul, 1) := by decide +kernel
theorem dX5_overWhenDrawn_27 : decode cX5_overWhenDrawn 27 = .ok (.sipush 12345, 3) := by decide +kernel
theorem dX5_overWhenDrawn_30 : decode cX5_overWhenDrawn 30 = .ok (.iadd, 1) := by decide +kernel
theorem dX5_overWhenDrawn_31 : decode cX5_overWhenDrawn 31 = .ok (.istore_n 3, 1) := by decide +kernel
theorem dX5_overWhenDrawn_32 : decode cX5_overWhenDrawn 32 = .ok (.aload_n 0, 1) := by decide +kernel
theorem dX5_overWhenDrawn_33 : decode cX5_overWhenDrawn 33 = .ok (.getfield 16, 3) := by decide +kernel
theorem dX5_overWhenDrawn_36 : decode cX5_overWhenDrawn 36 = .ok (.iload_n 3, 1) := by decide +kernel
theorem dX5_overWhenDrawn_37 : decode cX5_overWhenDrawn 37 = .ok (.bipush 9, 2) := by decide +kernel
theorem dX5_overWhenDrawn_39 : decode cX5_overWhenDrawn 39 = .ok (.iushr, 1) := by decide +kernel
theorem dX5_overWhenDrawn_40 : decode cX5_overWhenDrawn 40 = .ok (.bipush 100, 2) := by decide +kernel
theorem dX5_overWhenDrawn_42 : decode cX5_overWhenDrawn 42 = .ok (.irem, 1) := by decide +kernel
theorem dX5_overWhenDrawn_43 : decode cX5_overWhenDrawn 43 = .ok (.putfield 63, 3) := by decide +kernel
theorem dX5_overWhenDrawn_46 : decode cX5_overWhenDrawn 46 = .ok (.aload_n 0, 1) := by decide +kernel
theorem dX5_overWhenDrawn_47 : decode cX5_overWhenDrawn 47 = .ok (.getfield 16, 3) := by decide +kernel
theorem dX5_overWhenDrawn_50 : decode cX5_overWhenDrawn 50 = .ok (.aload_n 0, 1) := by decide +kernel
theorem dX5_overWhenDrawn_51 : decode cX5_overWhenDrawn 51 = .ok (.getfield 25, 3) := by decide +kernel
theorem dX5_overWhenDrawn_54 : decode cX5_overWhenDrawn 54 = .ok (.invokevirtual 136, 3) := by decide +kernel
theorem dX5_overWhenDrawn_57 : decode cX5_overWhenDrawn 57 = .ok (.iinc 4 1, 3) := by decide +kernel
theorem dX5_overWhenDrawn_60 : decode cX5_overWhenDrawn 60 = .ok (.goto (-44), 3) := by decide +kernel
theorem dX5_overWhenDrawn_63 : decode cX5_overWhenDrawn 63 = .ok (.aload_n 0, 1) := by decide +kernel
theorem dX5_overWhenDrawn_64 : decode cX5_overWhenDrawn 64 = .ok (.getfield 16, 3) := by decide +kernel
theorem dX5_overWhenDrawn_67 : decode cX5_overWhenDrawn 67 = .ok (.iconst 3, 1) := by decide +kernel
theorem dX5_overWhenDrawn_68 : decode cX5_overWhenDrawn 68 = .ok (.invokevirtual 133, 3) := by decide +kernel
theorem dX5_overWhenDrawn_71 : decode cX5_overWhenDrawn 71 = .ok (.ireturn, 1) := by decide +kernel
theorem dX5_refusalOfTold_0 : decode cX5_refusalOfTold 0 = .ok (.iload_n 1, 1) := by decide +kernel
theorem dX5_refusalOfTold_1 : decode cX5_refusalOfTold 1 = .ok (.invokestatic 194, 3) := by decide +kernel
theorem dX5_refusalOfTold_4 : decode cX5_refusalOfTold 4 = .ok (.ifCond .eq 11, 3) := by decide +kernel
theorem dX5_refusalOfTold_7 : decode cX5_refusalOfTold 7 = .ok (.aload_n 0, 1) := by decide +kernel
theorem dX5_refusalOfTold_8 : decode cX5_refusalOfTold 8 = .ok (.iload_n 2, 1) := by decide +kernel
theorem dX5_refusalOfTold_9 : decode cX5_refusalOfTold 9 = .ok (.invokevirtual 92, 3) := by decide +kernel
theorem dX5_refusalOfTold_12 : decode cX5_refusalOfTold 12 = .ok (.ifCond .ne 6, 3) := by decide +kernel
theorem dX5_refusalOfTold_15 : decode cX5_refusalOfTold 15 = .ok (.bipush (-2), 2) := by decide +kernel
theorem dX5_refusalOfTold_17 : decode cX5_refusalOfTold 17 = .ok (.ireturn, 1) := by decide +kernel
theorem dX5_refusalOfTold_18 : decode cX5_refusalOfTold 18 = .ok (.aload_n 0, 1) := by decide +kernel
theorem dX5_refusalOfTold_19 : decode cX5_refusalOfTold 19 = .ok (.getfield 38, 3) := by decide +kernel
theorem dX5_refusalOfTold_22 : decode cX5_refusalOfTold 22 = .ok (.iload_n 1, 1) := by decide +kernel
theorem dX5_refusalOfTold_23 : decode cX5_refusalOfTold 23 = .ok (.aaload, 1) := by decide +kernel
theorem dX5_refusalOfTold_24 : decode cX5_refusalOfTold 24 = .ok (.getfield 216, 3) := by decide +kernel
theorem dX5_refusalOfTold_27 : decode cX5_refusalOfTold 27 = .ok (.iconst (-1), 1) := by decide +kernel
theorem dX5_refusalOfTold_28 : decode cX5_refusalOfTold 28 = .ok (.if_icmp .ne 6, 3) := by decide +kernel
theorem dX5_refusalOfTold_31 : decode cX5_refusalOfTold 31 = .ok (.bipush (-11), 2) := by decide +kernel
theorem dX5_refusalOfTold_33 : decode cX5_refusalOfTold 33 = .ok (.ireturn, 1) := by decide +kernel
theorem dX5_refusalOfTold_34 : decode cX5_refusalOfTold 34 = .ok (.aload_n 0, 1) := by decide +kernel
theorem dX5_refusalOfTold_35 : decode cX5_refusalOfTold 35 = .ok (.getfield 38, 3) := by decide +kernel
theorem dX5_refusalOfTold_38 : decode cX5_refusalOfTold 38 = .ok (.iload_n 1, 1) := by decide +kernel
theorem dX5_refusalOfTold_39 : decode cX5_refusalOfTold 39 = .ok (.aaload, 1) := by decide +kernel
theorem dX5_refusalOfTold_40 : decode cX5_refusalOfTold 40 = .ok (.getfield 284, 3) := by decide +kernel
theorem dX5_refusalOfTold_43 : decode cX5_refusalOfTold 43 = .ok (.bipush 20, 2) := by decide +kernel
theorem dX5_refusalOfTold_45 : decode cX5_refusalOfTold 45 = .ok (.if_icmp .le 8, 3) := by decide +kernel
theorem dX5_refusalOfTold_48 : decode cX5_refusalOfTold 48 = .ok (.bipush (-2), 2) := by decide +kernel
theorem dX5_refusalOfTold_50 : decode cX5_refusalOfTold 50 = .ok (.goto 4, 3) := by decide +kernel
theorem dX5_refusalOfTold_53 : decode cX5_refusalOfTold 53 = .ok (.iconst 0, 1) := by decide +kernel
theorem dX5_refusalOfTold_54 : decode cX5_refusalOfTold 54 = .ok (.ireturn, 1) := by decide +kernel
theorem dX5_firstOtherwise_0 : decode cX5_firstOtherwise 0 = .ok (.aload_n 0, 1) := by decide +kernel
theorem dX5_firstOtherwise_1 : decode cX5_firstOtherwise 1 = .ok (.getfield 16, 3) := by decide +kernel
theorem dX5_firstOtherwise_4 : decode cX5_firstOtherwise 4 = .ok (.aload_n 0, 1) := by decide +kernel
theorem dX5_firstOtherwise_5 : decode cX5_firstOtherwise 5 = .ok (.getfield 10, 3) := by decide +kernel
theorem dX5_firstOtherwise_8 : decode cX5_firstOtherwise 8 = .ok (.invokevirtual 140, 3) := by decide +kernel
theorem dX5_firstOtherwise_11 : decode cX5_firstOtherwise 11 = .ok (.aload_n 0, 1) := by decide +kernel
theorem dX5_firstOtherwise_12 : decode cX5_firstOtherwise 12 = .ok (.iload_n 2, 1) := by decide +kernel
theorem dX5_firstOtherwise_13 : decode cX5_firstOtherwise 13 = .ok (.iload_n 3, 1) := by decide +kernel
theorem dX5_firstOtherwise_14 : decode cX5_firstOtherwise 14 = .ok (.iload 4, 2) := by decide +kernel
theorem dX5_firstOtherwise_16 : decode cX5_firstOtherwise 16 = .ok (.invokevirtual 285, 3) := by decide +kernel
theorem dX5_firstOtherwise_19 : decode cX5_firstOtherwise 19 = .ok (.iconst 0, 1) := by decide +kernel
theorem dX5_firstOtherwise_20 : decode cX5_firstOtherwise 20 = .ok (.istore 5, 2) := by decide +kernel
theorem dX5_firstOtherwise_22 : decode cX5_firstOtherwise 22 = .ok (.iload 5, 2) := by decide +kernel
theorem dX5_firstOtherwise_24 : decode cX5_firstOtherwise 24 = .ok (.aload_n 1, 1) := by decide +kernel
theorem dX5_firstOtherwise_25 : decode cX5_firstOtherwise 25 = .ok (.getfield 284, 3) := by decide +kernel
theorem dX5_firstOtherwise_28 : decode cX5_firstOtherwise 28 = .ok (.if_icmp .ge 42, 3) := by decide +kernel
theorem dX5_firstOtherwise_31 : decode cX5_firstOtherwise 31 = .ok (.aload_n 0, 1) := by decide +kernel
theorem dX5_firstOtherwise_32 : decode cX5_firstOtherwise 32 = .ok (.getfield 16, 3) := by decide +kernel
theorem dX5_firstOtherwise_35 : decode cX5_firstOtherwise 35 = .ok (.aload_n 0, 1) := by decide +kernel
theorem dX5_firstOtherwise_36 : decode cX5_firstOtherwise 36 = .ok (.getfield 25, 3) := by decide +kernel
theorem dX5_firstOtherwise_39 : decode cX5_firstOtherwise 39 = .ok (.invokevirtual 136, 3) := by decide +kernel
theorem dX5_firstOtherwise_42 : decode cX5_firstOtherwise 42 = .ok (.aload_n 0, 1) := by decide +kernel
theorem dX5_firstOtherwise_43 : decode cX5_firstOtherwise 43 = .ok (.getfield 16, 3) := by decide +kernel
theorem dX5_firstOtherwise_46 : decode cX5_firstOtherwise 46 = .ok (.getfield 75, 3) := by decide +kernel
theorem dX5_firstOtherwise_49 : decode cX5_firstOtherwise 49 = .ok (.iload_n 2, 1) := by decide +kernel
theorem dX5_firstOtherwise_50 : decode cX5_firstOtherwise 50 = .ok (.iaload, 1) := by decide +kernel
theorem dX5_firstOtherwise_51 : decode cX5_firstOtherwise 51 = .ok (.aload_n 1, 1) := by decide +kernel
theorem dX5_firstOtherwise_52 : decode cX5_firstOtherwise 52 = .ok (.getfield 225, 3) := by decide +kernel
theorem dX5_firstOtherwise_55 : decode cX5_firstOtherwise 55 = .ok (.iload 5, 2) := by decide +kernel
theorem dX5_firstOtherwise_57 : decode cX5_firstOtherwise 57 = .ok (.iaload, 1) := by decide +kernel
theorem dX5_firstOtherwise_58 : decode cX5_firstOtherwise 58 = .ok (.if_icmp .eq 6, 3) := by decide +kernel
theorem dX5_firstOtherwise_61 : decode cX5_firstOtherwise 61 = .ok (.iload 5, 2) := by decide +kernel
theorem dX5_firstOtherwise_63 : decode cX5_firstOtherwise 63 = .ok (.ireturn, 1) := by decide +kernel
theorem dX5_firstOtherwise_64 : decode cX5_firstOtherwise 64 = .ok (.iinc 5 1, 3) := by decide +kernel
theorem dX5_firstOtherwise_67 : decode cX5_firstOtherwise 67 = .ok (.goto (-45), 3) := by decide +kernel
theorem dX5_firstOtherwise_70 : decode cX5_firstOtherwise 70 = .ok (.iconst (-1), 1) := by decide +kernel
theorem dX5_firstOtherwise_71 : decode cX5_firstOtherwise 71 = .ok (.ireturn, 1) := by decide +kernel
theorem dX5_supposed_0 : decode cX5_supposed 0 = .ok (.iload_n 2, 1) := by decide +kernel
theorem dX5_supposed_1 : decode cX5_supposed 1 = .ok (.tableswitch 113 1 6 #[39, 52, 65, 78, 91, 102], 39) := by decide +kernel
theorem dX5_supposed_40 : decode cX5_supposed 40 = .ok (.aload_n 0, 1) := by decide +kernel
theorem dX5_supposed_41 : decode cX5_supposed 41 = .ok (.getfield 16, 3) := by decide +kernel
theorem dX5_supposed_44 : decode cX5_supposed 44 = .ok (.getfield 95, 3) := by decide +kernel
theorem dX5_supposed_47 : decode cX5_supposed 47 = .ok (.iload_n 1, 1) := by decide +kernel
theorem dX5_supposed_48 : decode cX5_supposed 48 = .ok (.iload_n 3, 1) := by decide +kernel
theorem dX5_supposed_49 : decode cX5_supposed 49 = .ok (.iastore, 1) := by decide +kernel
theorem dX5_supposed_50 : decode cX5_supposed 50 = .ok (.goto 64, 3) := by decide +kernel
theorem dX5_supposed_53 : decode cX5_supposed 53 = .ok (.aload_n 0, 1) := by decide +kernel
theorem dX5_supposed_54 : decode cX5_supposed 54 = .ok (.getfield 16, 3) := by decide +kernel
theorem dX5_supposed_57 : decode cX5_supposed 57 = .ok (.getfield 69, 3) := by decide +kernel
theorem dX5_supposed_60 : decode cX5_supposed 60 = .ok (.iload_n 1, 1) := by decide +kernel
theorem dX5_supposed_61 : decode cX5_supposed 61 = .ok (.iload_n 3, 1) := by decide +kernel
theorem dX5_supposed_62 : decode cX5_supposed 62 = .ok (.iastore, 1) := by decide +kernel
theorem dX5_supposed_63 : decode cX5_supposed 63 = .ok (.goto 51, 3) := by decide +kernel
theorem dX5_supposed_66 : decode cX5_supposed 66 = .ok (.aload_n 0, 1) := by decide +kernel
theorem dX5_supposed_67 : decode cX5_supposed 67 = .ok (.getfield 16, 3) := by decide +kernel
theorem dX5_supposed_70 : decode cX5_supposed 70 = .ok (.getfield 72, 3) := by decide +kernel
theorem dX5_supposed_73 : decode cX5_supposed 73 = .ok (.iload_n 1, 1) := by decide +kernel
theorem dX5_supposed_74 : decode cX5_supposed 74 = .ok (.iload_n 3, 1) := by decide +kernel
theorem dX5_supposed_75 : decode cX5_supposed 75 = .ok (.iastore, 1) := by decide +kernel
theorem dX5_supposed_76 : decode cX5_supposed 76 = .ok (.goto 38, 3) := by decide +kernel
theorem dX5_supposed_79 : decode cX5_supposed 79 = .ok (.aload_n 0, 1) := by decide +kernel
theorem dX5_supposed_80 : decode cX5_supposed 80 = .ok (.getfield 16, 3) := by decide +kernel
theorem dX5_supposed_83 : decode cX5_supposed 83 = .ok (.getfield 75, 3) := by decide +kernel
theorem dX5_supposed_86 : decode cX5_supposed 86 = .ok (.iload_n 1, 1) := by decide +kernel
theorem dX5_supposed_87 : decode cX5_supposed 87 = .ok (.iload_n 3, 1) := by decide +kernel
theorem dX5_supposed_88 : decode cX5_supposed 88 = .ok (.iastore, 1) := by decide +kernel
theorem dX5_supposed_89 : decode cX5_supposed 89 = .ok (.goto 25, 3) := by decide +kernel
theorem dX5_supposed_92 : decode cX5_supposed 92 = .ok (.aload_n 0, 1) := by decide +kernel
theorem dX5_supposed_93 : decode cX5_supposed 93 = .ok (.getfield 16, 3) := by decide +kernel
theorem dX5_supposed_96 : decode cX5_supposed 96 = .ok (.iload_n 3, 1) := by decide +kernel
theorem dX5_supposed_97 : decode cX5_supposed 97 = .ok (.putfield 63, 3) := by decide +kernel
theorem dX5_supposed_100 : decode cX5_supposed 100 = .ok (.goto 14, 3) := by decide +kernel
theorem dX5_supposed_103 : decode cX5_supposed 103 = .ok (.aload_n 0, 1) := by decide +kernel
theorem dX5_supposed_104 : decode cX5_supposed 104 = .ok (.getfield 16, 3) := by decide +kernel
theorem dX5_supposed_107 : decode cX5_supposed 107 = .ok (.iload_n 3, 1) := by decide +kernel
theorem dX5_supposed_108 : decode cX5_supposed 108 = .ok (.putfield 130, 3) := by decide +kernel
theorem dX5_supposed_111 : decode cX5_supposed 111 = .ok (.goto 3, 3) := by decide +kernel
theorem dX5_supposed_114 : decode cX5_supposed 114 = .ok (.return_, 1) := by decide +kernel
theorem dX5_bitsThatFit_0 : decode cX5_bitsThatFit 0 = .ok (.lconst 0, 1) := by decide +kernel
theorem dX5_bitsThatFit_1 : decode cX5_bitsThatFit 1 = .ok (.lstore 5, 2) := by decide +kernel
theorem dX5_bitsThatFit_3 : decode cX5_bitsThatFit 3 = .ok (.iconst 0, 1) := by decide +kernel
theorem dX5_bitsThatFit_4 : decode cX5_bitsThatFit 4 = .ok (.istore 7, 2) := by decide +kernel
theorem dX5_bitsThatFit_6 : decode cX5_bitsThatFit 6 = .ok (.iload 7, 2) := by decide +kernel
theorem dX5_bitsThatFit_8 : decode cX5_bitsThatFit 8 = .ok (.iload 4, 2) := by decide +kernel
theorem dX5_bitsThatFit_10 : decode cX5_bitsThatFit 10 = .ok (.if_icmp .ge 31, 3) := by decide +kernel
theorem dX5_bitsThatFit_13 : decode cX5_bitsThatFit 13 = .ok (.aload_n 0, 1) := by decide +kernel
theorem dX5_bitsThatFit_14 : decode cX5_bitsThatFit 14 = .ok (.aload_n 1, 1) := by decide +kernel
theorem dX5_bitsThatFit_15 : decode cX5_bitsThatFit 15 = .ok (.iload_n 2, 1) := by decide +kernel
theorem dX5_bitsThatFit_16 : decode cX5_bitsThatFit 16 = .ok (.iload_n 3, 1) := by decide +kernel
theorem dX5_bitsThatFit_17 : decode cX5_bitsThatFit 17 = .ok (.iload 7, 2) := by decide +kernel
theorem dX5_bitsThatFit_19 : decode cX5_bitsThatFit 19 = .ok (.invokevirtual 178, 3) := by decide +kernel
theorem dX5_bitsThatFit_22 : decode cX5_bitsThatFit 22 = .ok (.iconst (-1), 1) := by decide +kernel
theorem dX5_bitsThatFit_23 : decode cX5_bitsThatFit 23 = .ok (.if_icmp .ne 12, 3) := by decide +kernel
theorem dX5_bitsThatFit_26 : decode cX5_bitsThatFit 26 = .ok (.lload 5, 2) := by decide +kernel
theorem dX5_bitsThatFit_28 : decode cX5_bitsThatFit 28 = .ok (.lconst 1, 1) := by decide +kernel
theorem dX5_bitsThatFit_29 : decode cX5_bitsThatFit 29 = .ok (.iload 7, 2) := by decide +kernel
theorem dX5_bitsThatFit_31 : decode cX5_bitsThatFit 31 = .ok (.lshl, 1) := by decide +kernel
theorem dX5_bitsThatFit_32 : decode cX5_bitsThatFit 32 = .ok (.lor, 1) := by decide +kernel
theorem dX5_bitsThatFit_33 : decode cX5_bitsThatFit 33 = .ok (.lstore 5, 2) := by decide +kernel
theorem dX5_bitsThatFit_35 : decode cX5_bitsThatFit 35 = .ok (.iinc 7 1, 3) := by decide +kernel
theorem dX5_bitsThatFit_38 : decode cX5_bitsThatFit 38 = .ok (.goto (-32), 3) := by decide +kernel
theorem dX5_bitsThatFit_41 : decode cX5_bitsThatFit 41 = .ok (.lload 5, 2) := by decide +kernel
theorem dX5_bitsThatFit_43 : decode cX5_bitsThatFit 43 = .ok (.lreturn, 1) := by decide +kernel
theorem dX5_howManyFit_0 : decode cX5_howManyFit 0 = .ok (.iconst 0, 1) := by decide +kernel
theorem dX5_howManyFit_1 : decode cX5_howManyFit 1 = .ok (.istore 5, 2) := by decide +kernel
theorem dX5_howManyFit_3 : decode cX5_howManyFit 3 = .ok (.iconst 0, 1) := by decide +kernel
theorem dX5_howManyFit_4 : decode cX5_howManyFit 4 = .ok (.istore 6, 2) := by decide +kernel
theorem dX5_howManyFit_6 : decode cX5_howManyFit 6 = .ok (.iload 6, 2) := by decide +kernel
theorem dX5_howManyFit_8 : decode cX5_howManyFit 8 = .ok (.iload 4, 2) := by decide +kernel
theorem dX5_howManyFit_10 : decode cX5_howManyFit 10 = .ok (.if_icmp .ge 25, 3) := by decide +kernel
theorem dX5_howManyFit_13 : decode cX5_howManyFit 13 = .ok (.aload_n 0, 1) := by decide +kernel
theorem dX5_howManyFit_14 : decode cX5_howManyFit 14 = .ok (.aload_n 1, 1) := by decide +kernel
theorem dX5_howManyFit_15 : decode cX5_howManyFit 15 = .ok (.iload_n 2, 1) := by decide +kernel
theorem dX5_howManyFit_16 : decode cX5_howManyFit 16 = .ok (.iload_n 3, 1) := by decide +kernel
theorem dX5_howManyFit_17 : decode cX5_howManyFit 17 = .ok (.iload 6, 2) := by decide +kernel
theorem dX5_howManyFit_19 : decode cX5_howManyFit 19 = .ok (.invokevirtual 178, 3) := by decide +kernel
theorem dX5_howManyFit_22 : decode cX5_howManyFit 22 = .ok (.iconst (-1), 1) := by decide +kernel
theorem dX5_howManyFit_23 : decode cX5_howManyFit 23 = .ok (.if_icmp .ne 6, 3) := by decide +kernel
theorem dX5_howManyFit_26 : decode cX5_howManyFit 26 = .ok (.iinc 5 1, 3) := by decide +kernel
theorem dX5_howManyFit_29 : decode cX5_howManyFit 29 = .ok (.iinc 6 1, 3) := by decide +kernel
theorem dX5_howManyFit_32 : decode cX5_howManyFit 32 = .ok (.goto (-26), 3) := by decide +kernel
theorem dX5_howManyFit_35 : decode cX5_howManyFit 35 = .ok (.iload 5, 2) := by decide +kernel
theorem dX5_howManyFit_37 : decode cX5_howManyFit 37 = .ok (.ireturn, 1) := by decide +kernel
theorem dX5_leastThatFits_0 : decode cX5_leastThatFits 0 = .ok (.iconst 0, 1) := by decide +kernel
theorem dX5_leastThatFits_1 : decode cX5_leastThatFits 1 = .ok (.istore 5, 2) := by decide +kernel
theorem dX5_leastThatFits_3 : decode cX5_leastThatFits 3 = .ok (.iload 5, 2) := by decide +kernel
theorem dX5_leastThatFits_5 : decode cX5_leastThatFits 5 = .ok (.iload 4, 2) := by decide +kernel
theorem dX5_leastThatFits_7 : decode cX5_leastThatFits 7 = .ok (.if_icmp .ge 25, 3) := by decide +kernel
theorem dX5_leastThatFits_10 : decode cX5_leastThatFits 10 = .ok (.aload_n 0, 1) := by decide +kernel
theorem dX5_leastThatFits_11 : decode cX5_leastThatFits 11 = .ok (.aload_n 1, 1) := by decide +kernel
theorem dX5_leastThatFits_12 : decode cX5_leastThatFits 12 = .ok (.iload_n 2, 1) := by decide +kernel
theorem dX5_leastThatFits_13 : decode cX5_leastThatFits 13 = .ok (.iload_n 3, 1) := by decide +kernel
theorem dX5_leastThatFits_14 : decode cX5_leastThatFits 14 = .ok (.iload 5, 2) := by decide +kernel
theorem dX5_leastThatFits_16 : decode cX5_leastThatFits 16 = .ok (.invokevirtual 178, 3) := by decide +kernel
theorem dX5_leastThatFits_19 : decode cX5_leastThatFits 19 = .ok (.iconst (-1), 1) := by decide +kernel
theorem dX5_leastThatFits_20 : decode cX5_leastThatFits 20 = .ok (.if_icmp .ne 6, 3) := by decide +kernel
theorem dX5_leastThatFits_23 : decode cX5_leastThatFits 23 = .ok (.iload 5, 2) := by decide +kernel
theorem dX5_leastThatFits_25 : decode cX5_leastThatFits 25 = .ok (.ireturn, 1) := by decide +kernel
theorem dX5_leastThatFits_26 : decode cX5_leastThatFits 26 = .ok (.iinc 5 1, 3) := by decide +kernel
theorem dX5_leastThatFits_29 : decode cX5_leastThatFits 29 = .ok (.goto (-26), 3) := by decide +kernel
theorem dX5_leastThatFits_32 : decode cX5_leastThatFits 32 = .ok (.iconst (-1), 1) := by decide +kernel
theorem dX5_leastThatFits_33 : decode cX5_leastThatFits 33 = .ok (.ireturn, 1) := by decide +kernel
