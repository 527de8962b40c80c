theorem dX6_treadsOf_51 : decode cX6_treadsOf 51 = .ok (.iload_n 1, 1) := by decide +kernel
theorem dX6_treadsOf_52 : decode cX6_treadsOf 52 = .ok (.imul, 1) := by decide +kernel
theorem dX6_treadsOf_53 : decode cX6_treadsOf 53 = .ok (.iaload, 1) := by decide +kernel
theorem dX6_treadsOf_54 : decode cX6_treadsOf 54 = .ok (.iadd, 1) := by decide +kernel
theorem dX6_treadsOf_55 : decode cX6_treadsOf 55 = .ok (.goto 15, 3) := by decide +kernel
theorem dX6_treadsOf_58 : decode cX6_treadsOf 58 = .ok (.iload_n 2, 1) := by decide +kernel
theorem dX6_treadsOf_59 : decode cX6_treadsOf 59 = .ok (.iconst 3, 1) := by decide +kernel
theorem dX6_treadsOf_60 : decode cX6_treadsOf 60 = .ok (.if_icmp .ne 9, 3) := by decide +kernel
theorem dX6_treadsOf_63 : decode cX6_treadsOf 63 = .ok (.iload_n 3, 1) := by decide +kernel
theorem dX6_treadsOf_64 : decode cX6_treadsOf 64 = .ok (.iconst 2, 1) := by decide +kernel
theorem dX6_treadsOf_65 : decode cX6_treadsOf 65 = .ok (.idiv, 1) := by decide +kernel
theorem dX6_treadsOf_66 : decode cX6_treadsOf 66 = .ok (.goto 4, 3) := by decide +kernel
theorem dX6_treadsOf_69 : decode cX6_treadsOf 69 = .ok (.iload_n 3, 1) := by decide +kernel
theorem dX6_treadsOf_70 : decode cX6_treadsOf 70 = .ok (.iconst 0, 1) := by decide +kernel
theorem dX6_treadsOf_71 : decode cX6_treadsOf 71 = .ok (.bipush 99, 2) := by decide +kernel
theorem dX6_treadsOf_73 : decode cX6_treadsOf 73 = .ok (.invokestatic 288, 3) := by decide +kernel
theorem dX6_treadsOf_76 : decode cX6_treadsOf 76 = .ok (.ireturn, 1) := by decide +kernel
theorem dX6_doubtsOf_0 : decode cX6_doubtsOf 0 = .ok (.aload_n 0, 1) := by decide +kernel
theorem dX6_doubtsOf_1 : decode cX6_doubtsOf 1 = .ok (.getfield 38, 3) := by decide +kernel
theorem dX6_doubtsOf_4 : decode cX6_doubtsOf 4 = .ok (.bipush 6, 2) := by decide +kernel
theorem dX6_doubtsOf_6 : decode cX6_doubtsOf 6 = .ok (.iload_n 1, 1) := by decide +kernel
theorem dX6_doubtsOf_7 : decode cX6_doubtsOf 7 = .ok (.imul, 1) := by decide +kernel
theorem dX6_doubtsOf_8 : decode cX6_doubtsOf 8 = .ok (.iconst 4, 1) := by decide +kernel
theorem dX6_doubtsOf_9 : decode cX6_doubtsOf 9 = .ok (.iadd, 1) := by decide +kernel
theorem dX6_doubtsOf_10 : decode cX6_doubtsOf 10 = .ok (.iaload, 1) := by decide +kernel
theorem dX6_doubtsOf_11 : decode cX6_doubtsOf 11 = .ok (.istore_n 2, 1) := by decide +kernel
theorem dX6_doubtsOf_12 : decode cX6_doubtsOf 12 = .ok (.iload_n 2, 1) := by decide +kernel
theorem dX6_doubtsOf_13 : decode cX6_doubtsOf 13 = .ok (.iconst 3, 1) := by decide +kernel
theorem dX6_doubtsOf_14 : decode cX6_doubtsOf 14 = .ok (.if_icmp .ne 14, 3) := by decide +kernel
theorem dX6_doubtsOf_17 : decode cX6_doubtsOf 17 = .ok (.aload_n 0, 1) := by decide +kernel
theorem dX6_doubtsOf_18 : decode cX6_doubtsOf 18 = .ok (.getfield 117, 3) := by decide +kernel
theorem dX6_doubtsOf_21 : decode cX6_doubtsOf 21 = .ok (.iconst 2, 1) := by decide +kernel
theorem dX6_doubtsOf_22 : decode cX6_doubtsOf 22 = .ok (.irem, 1) := by decide +kernel
theorem dX6_doubtsOf_23 : decode cX6_doubtsOf 23 = .ok (.ifCond .ne 5, 3) := by decide +kernel
theorem dX6_doubtsOf_26 : decode cX6_doubtsOf 26 = .ok (.iconst 0, 1) := by decide +kernel
theorem dX6_doubtsOf_27 : decode cX6_doubtsOf 27 = .ok (.ireturn, 1) := by decide +kernel
theorem dX6_doubtsOf_28 : decode cX6_doubtsOf 28 = .ok (.aload_n 0, 1) := by decide +kernel
theorem dX6_doubtsOf_29 : decode cX6_doubtsOf 29 = .ok (.iconst 2, 1) := by decide +kernel
theorem dX6_doubtsOf_30 : decode cX6_doubtsOf 30 = .ok (.iload_n 1, 1) := by decide +kernel
theorem dX6_doubtsOf_31 : decode cX6_doubtsOf 31 = .ok (.invokevirtual 291, 3) := by decide +kernel
theorem dX6_doubtsOf_34 : decode cX6_doubtsOf 34 = .ok (.istore_n 3, 1) := by decide +kernel
theorem dX6_doubtsOf_35 : decode cX6_doubtsOf 35 = .ok (.iload_n 2, 1) := by decide +kernel
theorem dX6_doubtsOf_36 : decode cX6_doubtsOf 36 = .ok (.iconst 1, 1) := by decide +kernel
theorem dX6_doubtsOf_37 : decode cX6_doubtsOf 37 = .ok (.if_icmp .eq 8, 3) := by decide +kernel
theorem dX6_doubtsOf_40 : decode cX6_doubtsOf 40 = .ok (.iload_n 2, 1) := by decide +kernel
theorem dX6_doubtsOf_41 : decode cX6_doubtsOf 41 = .ok (.iconst 3, 1) := by decide +kernel
theorem dX6_doubtsOf_42 : decode cX6_doubtsOf 42 = .ok (.if_icmp .ne 17, 3) := by decide +kernel
theorem dX6_doubtsOf_45 : decode cX6_doubtsOf 45 = .ok (.iload_n 3, 1) := by decide +kernel
theorem dX6_doubtsOf_46 : decode cX6_doubtsOf 46 = .ok (.aload_n 0, 1) := by decide +kernel
theorem dX6_doubtsOf_47 : decode cX6_doubtsOf 47 = .ok (.getfield 38, 3) := by decide +kernel
theorem dX6_doubtsOf_50 : decode cX6_doubtsOf 50 = .ok (.bipush 6, 2) := by decide +kernel
theorem dX6_doubtsOf_52 : decode cX6_doubtsOf 52 = .ok (.iload_n 1, 1) := by decide +kernel
theorem dX6_doubtsOf_53 : decode cX6_doubtsOf 53 = .ok (.imul, 1) := by decide +kernel
theorem dX6_doubtsOf_54 : decode cX6_doubtsOf 54 = .ok (.iaload, 1) := by decide +kernel
theorem dX6_doubtsOf_55 : decode cX6_doubtsOf 55 = .ok (.iadd, 1) := by decide +kernel
theorem dX6_doubtsOf_56 : decode cX6_doubtsOf 56 = .ok (.goto 51, 3) := by decide +kernel
theorem dX6_doubtsOf_59 : decode cX6_doubtsOf 59 = .ok (.iload_n 2, 1) := by decide +kernel
theorem dX6_doubtsOf_60 : decode cX6_doubtsOf 60 = .ok (.iconst 2, 1) := by decide +kernel
theorem dX6_doubtsOf_61 : decode cX6_doubtsOf 61 = .ok (.if_icmp .ne 8, 3) := by decide +kernel
theorem dX6_doubtsOf_64 : decode cX6_doubtsOf 64 = .ok (.iload_n 3, 1) := by decide +kernel
theorem dX6_doubtsOf_65 : decode cX6_doubtsOf 65 = .ok (.ineg, 1) := by decide +kernel
theorem dX6_doubtsOf_66 : decode cX6_doubtsOf 66 = .ok (.goto 41, 3) := by decide +kernel
theorem dX6_doubtsOf_69 : decode cX6_doubtsOf 69 = .ok (.iload_n 2, 1) := by decide +kernel
theorem dX6_doubtsOf_70 : decode cX6_doubtsOf 70 = .ok (.iconst 4, 1) := by decide +kernel
theorem dX6_doubtsOf_71 : decode cX6_doubtsOf 71 = .ok (.if_icmp .ne 24, 3) := by decide +kernel
theorem dX6_doubtsOf_74 : decode cX6_doubtsOf 74 = .ok (.aload_n 0, 1) := by decide +kernel
theorem dX6_doubtsOf_75 : decode cX6_doubtsOf 75 = .ok (.iload_n 1, 1) := by decide +kernel
theorem dX6_doubtsOf_76 : decode cX6_doubtsOf 76 = .ok (.invokevirtual 282, 3) := by decide +kernel
theorem dX6_doubtsOf_79 : decode cX6_doubtsOf 79 = .ok (.ifCond .le 11, 3) := by decide +kernel
theorem dX6_doubtsOf_82 : decode cX6_doubtsOf 82 = .ok (.iload_n 3, 1) := by decide +kernel
theorem dX6_doubtsOf_83 : decode cX6_doubtsOf 83 = .ok (.ineg, 1) := by decide +kernel
theorem dX6_doubtsOf_84 : decode cX6_doubtsOf 84 = .ok (.bipush 10, 2) := by decide +kernel
theorem dX6_doubtsOf_86 : decode cX6_doubtsOf 86 = .ok (.isub, 1) := by decide +kernel
theorem dX6_doubtsOf_87 : decode cX6_doubtsOf 87 = .ok (.goto 20, 3) := by decide +kernel
theorem dX6_doubtsOf_90 : decode cX6_doubtsOf 90 = .ok (.iload_n 3, 1) := by decide +kernel
theorem dX6_doubtsOf_91 : decode cX6_doubtsOf 91 = .ok (.ineg, 1) := by decide +kernel
theorem dX6_doubtsOf_92 : decode cX6_doubtsOf 92 = .ok (.goto 15, 3) := by decide +kernel
theorem dX6_doubtsOf_95 : decode cX6_doubtsOf 95 = .ok (.iload_n 2, 1) := by decide +kernel
theorem dX6_doubtsOf_96 : decode cX6_doubtsOf 96 = .ok (.iconst 5, 1) := by decide +kernel
theorem dX6_doubtsOf_97 : decode cX6_doubtsOf 97 = .ok (.if_icmp .ne 9, 3) := by decide +kernel
theorem dX6_doubtsOf_100 : decode cX6_doubtsOf 100 = .ok (.iconst 2, 1) := by decide +kernel
theorem dX6_doubtsOf_101 : decode cX6_doubtsOf 101 = .ok (.iload_n 3, 1) := by decide +kernel
theorem dX6_doubtsOf_102 : decode cX6_doubtsOf 102 = .ok (.imul, 1) := by decide +kernel
theorem dX6_doubtsOf_103 : decode cX6_doubtsOf 103 = .ok (.goto 4, 3) := by decide +kernel
theorem dX6_doubtsOf_106 : decode cX6_doubtsOf 106 = .ok (.iload_n 3, 1) := by decide +kernel
theorem dX6_doubtsOf_107 : decode cX6_doubtsOf 107 = .ok (.ireturn, 1) := by decide +kernel
theorem dX6_starts_0 : decode cX6_starts 0 = .ok (.aload_n 0, 1) := by decide +kernel
theorem dX6_starts_1 : decode cX6_starts 1 = .ok (.iload_n 1, 1) := by decide +kernel
theorem dX6_starts_2 : decode cX6_starts 2 = .ok (.invokevirtual 96, 3) := by decide +kernel
theorem dX6_starts_5 : decode cX6_starts 5 = .ok (.ifCond .ne 6, 3) := by decide +kernel
theorem dX6_starts_8 : decode cX6_starts 8 = .ok (.bipush (-2), 2) := by decide +kernel
theorem dX6_starts_10 : decode cX6_starts 10 = .ok (.ireturn, 1) := by decide +kernel
theorem dX6_starts_11 : decode cX6_starts 11 = .ok (.aload_n 0, 1) := by decide +kernel
theorem dX6_starts_12 : decode cX6_starts 12 = .ok (.iload_n 1, 1) := by decide +kernel
theorem dX6_starts_13 : decode cX6_starts 13 = .ok (.iconst 0, 1) := by decide +kernel
theorem dX6_starts_14 : decode cX6_starts 14 = .ok (.invokevirtual 141, 3) := by decide +kernel
theorem dX6_starts_17 : decode cX6_starts 17 = .ok (.ifCond .ne 6, 3) := by decide +kernel
theorem dX6_starts_20 : decode cX6_starts 20 = .ok (.bipush (-3), 2) := by decide +kernel
theorem dX6_starts_22 : decode cX6_starts 22 = .ok (.ireturn, 1) := by decide +kernel
theorem dX6_starts_23 : decode cX6_starts 23 = .ok (.aload_n 0, 1) := by decide +kernel
theorem dX6_starts_24 : decode cX6_starts 24 = .ok (.getfield 38, 3) := by decide +kernel
theorem dX6_starts_27 : decode cX6_starts 27 = .ok (.bipush 6, 2) := by decide +kernel
theorem dX6_starts_29 : decode cX6_starts 29 = .ok (.iload_n 1, 1) := by decide +kernel
theorem dX6_starts_30 : decode cX6_starts 30 = .ok (.imul, 1) := by decide +kernel
theorem dX6_starts_31 : decode cX6_starts 31 = .ok (.iconst 3, 1) := by decide +kernel
theorem dX6_starts_32 : decode cX6_starts 32 = .ok (.iadd, 1) := by decide +kernel
theorem dX6_starts_33 : decode cX6_starts 33 = .ok (.iconst 1, 1) := by decide +kernel
theorem dX6_starts_34 : decode cX6_starts 34 = .ok (.iastore, 1) := by decide +kernel
theorem dX6_starts_35 : decode cX6_starts 35 = .ok (.aload_n 0, 1) := by decide +kernel
theorem dX6_starts_36 : decode cX6_starts 36 = .ok (.iconst 1, 1) := by decide +kernel
theorem dX6_starts_37 : decode cX6_starts 37 = .ok (.invokevirtual 294, 3) := by decide +kernel
theorem dX6_starts_40 : decode cX6_starts 40 = .ok (.ireturn, 1) := by decide +kernel
theorem dX6_comes_0 : decode cX6_comes 0 = .ok (.aload_n 0, 1) := by decide +kernel
theorem dX6_comes_1 : decode cX6_comes 1 = .ok (.getfield 38, 3) := by decide +kernel
theorem dX6_comes_4 : decode cX6_comes 4 = .ok (.bipush 6, 2) := by decide +kernel
theorem dX6_comes_6 : decode cX6_comes 6 = .ok (.iload_n 1, 1) := by decide +kernel
theorem dX6_comes_7 : decode cX6_comes 7 = .ok (.imul, 1) := by decide +kernel
theorem dX6_comes_8 : decode cX6_comes 8 = .ok (.iconst 2, 1) := by decide +kernel
theorem dX6_comes_9 : decode cX6_comes 9 = .ok (.iadd, 1) := by decide +kernel
theorem dX6_comes_10 : decode cX6_comes 10 = .ok (.iload_n 2, 1) := by decide +kernel
theorem dX6_comes_11 : decode cX6_comes 11 = .ok (.iastore, 1) := by decide +kernel
theorem dX6_comes_12 : decode cX6_comes 12 = .ok (.aload_n 0, 1) := by decide +kernel
theorem dX6_comes_13 : decode cX6_comes 13 = .ok (.getfield 35, 3) := by decide +kernel
theorem dX6_comes_16 : decode cX6_comes 16 = .ok (.iload_n 2, 1) := by decide +kernel
theorem dX6_comes_17 : decode cX6_comes 17 = .ok (.aload_n 0, 1) := by decide +kernel
theorem dX6_comes_18 : decode cX6_comes 18 = .ok (.getfield 35, 3) := by decide +kernel
theorem dX6_comes_21 : decode cX6_comes 21 = .ok (.iload_n 2, 1) := by decide +kernel
theorem dX6_comes_22 : decode cX6_comes 22 = .ok (.iaload, 1) := by decide +kernel
theorem dX6_comes_23 : decode cX6_comes 23 = .ok (.iload_n 3, 1) := by decide +kernel
theorem dX6_comes_24 : decode cX6_comes 24 = .ok (.iadd, 1) := by decide +kernel
theorem dX6_comes_25 : decode cX6_comes 25 = .ok (.iconst 0, 1) := by decide +kernel
theorem dX6_comes_26 : decode cX6_comes 26 = .ok (.bipush 99, 2) := by decide +kernel
theorem dX6_comes_28 : decode cX6_comes 28 = .ok (.invokestatic 288, 3) := by decide +kernel
theorem dX6_comes_31 : decode cX6_comes 31 = .ok (.iastore, 1) := by decide +kernel
theorem dX6_comes_32 : decode cX6_comes 32 = .ok (.iconst 0, 1) := by decide +kernel
theorem dX6_comes_33 : decode cX6_comes 33 = .ok (.istore 4, 2) := by decide +kernel
theorem dX6_comes_35 : decode cX6_comes 35 = .ok (.iload 4, 2) := by decide +kernel
theorem dX6_comes_37 : decode cX6_comes 37 = .ok (.aload_n 0, 1) := by decide +kernel
theorem dX6_comes_38 : decode cX6_comes 38 = .ok (.getfield 83, 3) := by decide +kernel
theorem dX6_comes_41 : decode cX6_comes 41 = .ok (.if_icmp .ge 57, 3) := by decide +kernel
theorem dX6_comes_44 : decode cX6_comes 44 = .ok (.aload_n 0, 1) := by decide +kernel
theorem dX6_comes_45 : decode cX6_comes 45 = .ok (.getfield 38, 3) := by decide +kernel
theorem dX6_comes_48 : decode cX6_comes 48 = .ok (.bipush 6, 2) := by decide +kernel
theorem dX6_comes_50 : decode cX6_comes 50 = .ok (.iload 4, 2) := by decide +kernel
theorem dX6_comes_52 : decode cX6_comes 52 = .ok (.imul, 1) := by decide +kernel
theorem dX6_comes_53 : decode cX6_comes 53 = .ok (.iconst 3, 1) := by decide +kernel
theorem dX6_comes_54 : decode cX6_comes 54 = .ok (.iadd, 1) := by decide +kernel
theorem dX6_comes_55 : decode cX6_comes 55 = .ok (.aload_n 0, 1) := by decide +kernel
theorem dX6_comes_56 : decode cX6_comes 56 = .ok (.iload 4, 2) := by decide +kernel
theorem dX6_comes_58 : decode cX6_comes 58 = .ok (.iconst 2, 1) := by decide +kernel
theorem dX6_comes_59 : decode cX6_comes 59 = .ok (.invokevirtual 141, 3) := by decide +kernel
theorem dX6_comes_62 : decode cX6_comes 62 = .ok (.ifCond .eq 17, 3) := by decide +kernel
theorem dX6_comes_65 : decode cX6_comes 65 = .ok (.aload_n 0, 1) := by decide +kernel
theorem dX6_comes_66 : decode cX6_comes 66 = .ok (.iload 4, 2) := by decide +kernel
theorem dX6_comes_68 : decode cX6_comes 68 = .ok (.invokevirtual 147, 3) := by decide +kernel
theorem dX6_comes_71 : decode cX6_comes 71 = .ok (.iload_n 2, 1) := by decide +kernel
theorem dX6_comes_72 : decode cX6_comes 72 = .ok (.if_icmp .ne 7, 3) := by decide +kernel
theorem dX6_comes_75 : decode cX6_comes 75 = .ok (.iconst 1, 1) := by decide +kernel
theorem dX6_comes_76 : decode cX6_comes 76 = .ok (.goto 15, 3) := by decide +kernel
theorem dX6_comes_79 : decode cX6_comes 79 = .ok (.aload_n 0, 1) := by decide +kernel
theorem dX6_comes_80 : decode cX6_comes 80 = .ok (.getfield 38, 3) := by decide +kernel
theorem dX6_comes_83 : decode cX6_comes 83 = .ok (.bipush 6, 2) := by decide +kernel
theorem dX6_comes_85 : decode cX6_comes 85 = .ok (.iload 4, 2) := by decide +kernel
theorem dX6_comes_87 : decode cX6_comes 87 = .ok (.imul, 1) := by decide +kernel
theorem dX6_comes_88 : decode cX6_comes 88 = .ok (.iconst 3, 1) := by decide +kernel
theorem dX6_comes_89 : decode cX6_comes 89 = .ok (.iadd, 1) := by decide +kernel
theorem dX6_comes_90 : decode cX6_comes 90 = .ok (.iaload, 1) := by decide +kernel
theorem dX6_comes_91 : decode cX6_comes 91 = .ok (.iastore, 1) := by decide +kernel
theorem dX6_comes_92 : decode cX6_comes 92 = .ok (.iinc 4 1, 3) := by decide +kernel
theorem dX6_comes_95 : decode cX6_comes 95 = .ok (.goto (-60), 3) := by decide +kernel
theorem dX6_comes_98 : decode cX6_comes 98 = .ok (.return_, 1) := by decide +kernel
theorem dX6_walks_0 : decode cX6_walks 0 = .ok (.aload_n 0, 1) := by decide +kernel
theorem dX6_walks_1 : decode cX6_walks 1 = .ok (.iload_n 1, 1) := by decide +kernel
theorem dX6_walks_2 : decode cX6_walks 2 = .ok (.invokevirtual 129, 3) := by decide +kernel
theorem dX6_walks_5 : decode cX6_walks 5 = .ok (.istore_n 2, 1) := by decide +kernel
theorem dX6_walks_6 : decode cX6_walks 6 = .ok (.aload_n 0, 1) := by decide +kernel
theorem dX6_walks_7 : decode cX6_walks 7 = .ok (.iload_n 1, 1) := by decide +kernel
theorem dX6_walks_8 : decode cX6_walks 8 = .ok (.invokevirtual 132, 3) := by decide +kernel
theorem dX6_walks_11 : decode cX6_walks 11 = .ok (.istore_n 3, 1) := by decide +kernel
theorem dX6_walks_12 : decode cX6_walks 12 = .ok (.aload_n 0, 1) := by decide +kernel
theorem dX6_walks_13 : decode cX6_walks 13 = .ok (.getfield 38, 3) := by decide +kernel
theorem dX6_walks_16 : decode cX6_walks 16 = .ok (.bipush 6, 2) := by decide +kernel
theorem dX6_walks_18 : decode cX6_walks 18 = .ok (.iload_n 1, 1) := by decide +kernel
theorem dX6_walks_19 : decode cX6_walks 19 = .ok (.imul, 1) := by decide +kernel
theorem dX6_walks_20 : decode cX6_walks 20 = .ok (.iconst 1, 1) := by decide +kernel
theorem dX6_walks_21 : decode cX6_walks 21 = .ok (.iadd, 1) := by decide +kernel
theorem dX6_walks_22 : decode cX6_walks 22 = .ok (.aload_n 0, 1) := by decide +kernel
theorem dX6_walks_23 : decode cX6_walks 23 = .ok (.getfield 38, 3) := by decide +kernel
theorem dX6_walks_26 : decode cX6_walks 26 = .ok (.bipush 6, 2) := by decide +kernel
theorem dX6_walks_28 : decode cX6_walks 28 = .ok (.iload_n 1, 1) := by decide +kernel
theorem dX6_walks_29 : decode cX6_walks 29 = .ok (.imul, 1) := by decide +kernel
theorem dX6_walks_30 : decode cX6_walks 30 = .ok (.iconst 1, 1) := by decide +kernel
theorem dX6_walks_31 : decode cX6_walks 31 = .ok (.iadd, 1) := by decide +kernel
theorem dX6_walks_32 : decode cX6_walks 32 = .ok (.iaload, 1) := by decide +kernel
theorem dX6_walks_33 : decode cX6_walks 33 = .ok (.aload_n 0, 1) := by decide +kernel
theorem dX6_walks_34 : decode cX6_walks 34 = .ok (.iload_n 1, 1) := by decide +kernel
theorem dX6_walks_35 : decode cX6_walks 35 = .ok (.invokevirtual 135, 3) := by decide +kernel
theorem dX6_walks_38 : decode cX6_walks 38 = .ok (.iadd, 1) := by decide +kernel
theorem dX6_walks_39 : decode cX6_walks 39 = .ok (.iconst 0, 1) := by decide +kernel
theorem dX6_walks_40 : decode cX6_walks 40 = .ok (.bipush 99, 2) := by decide +kernel
theorem dX6_walks_42 : decode cX6_walks 42 = .ok (.invokestatic 288, 3) := by decide +kernel
theorem dX6_walks_45 : decode cX6_walks 45 = .ok (.iastore, 1) := by decide +kernel
theorem dX6_walks_46 : decode cX6_walks 46 = .ok (.iconst 0, 1) := by decide +kernel
theorem dX6_walks_47 : decode cX6_walks 47 = .ok (.istore 4, 2) := by decide +kernel
theorem dX6_walks_49 : decode cX6_walks 49 = .ok (.iload 4, 2) := by decide +kernel
theorem dX6_walks_51 : decode cX6_walks 51 = .ok (.iload_n 2, 1) := by decide +kernel
theorem dX6_walks_52 : decode cX6_walks 52 = .ok (.if_icmp .ge 68, 3) := by decide +kernel
theorem dX6_walks_55 : decode cX6_walks 55 = .ok (.aload_n 0, 1) := by decide +kernel
theorem dX6_walks_56 : decode cX6_walks 56 = .ok (.iload_n 1, 1) := by decide +kernel
theorem dX6_walks_57 : decode cX6_walks 57 = .ok (.iconst 1, 1) := by decide +kernel
theorem dX6_walks_58 : decode cX6_walks 58 = .ok (.invokevirtual 141, 3) := by decide +kernel
theorem dX6_walks_61 : decode cX6_walks 61 = .ok (.ifCond .eq 59, 3) := by decide +kernel
theorem dX6_walks_64 : decode cX6_walks 64 = .ok (.aload_n 0, 1) := by decide +kernel
theorem dX6_walks_65 : decode cX6_walks 65 = .ok (.iload_n 1, 1) := by decide +kernel
theorem dX6_walks_66 : decode cX6_walks 66 = .ok (.invokevirtual 147, 3) := by decide +kernel
theorem dX6_walks_69 : decode cX6_walks 69 = .ok (.aload_n 0, 1) := by decide +kernel
theorem dX6_walks_70 : decode cX6_walks 70 = .ok (.getfield 38, 3) := by decide +kernel
theorem dX6_walks_73 : decode cX6_walks 73 = .ok (.bipush 6, 2) := by decide +kernel
theorem dX6_walks_75 : decode cX6_walks 75 = .ok (.iload_n 1, 1) := by decide +kernel
theorem dX6_walks_76 : decode cX6_walks 76 = .ok (.imul, 1) := by decide +kernel
theorem dX6_walks_77 : decode cX6_walks 77 = .ok (.iconst 5, 1) := by decide +kernel
theorem dX6_walks_78 : decode cX6_walks 78 = .ok (.iadd, 1) := by decide +kernel
theorem dX6_walks_79 : decode cX6_walks 79 = .ok (.iaload, 1) := by decide +kernel
theorem dX6_walks_80 : decode cX6_walks 80 = .ok (.iadd, 1) := by decide +kernel
theorem dX6_walks_81 : decode cX6_walks 81 = .ok (.istore 5, 2) := by decide +kernel
theorem dX6_walks_83 : decode cX6_walks 83 = .ok (.iload 5, 2) := by decide +kernel
theorem dX6_walks_85 : decode cX6_walks 85 = .ok (.invokestatic 92, 3) := by decide +kernel
theorem dX6_walks_88 : decode cX6_walks 88 = .ok (.ifCond .eq 14, 3) := by decide +kernel
theorem dX6_walks_91 : decode cX6_walks 91 = .ok (.aload_n 0, 1) := by decide +kernel
theorem dX6_walks_92 : decode cX6_walks 92 = .ok (.iload_n 1, 1) := by decide +kernel
theorem dX6_walks_93 : decode cX6_walks 93 = .ok (.iload 5, 2) := by decide +kernel
theorem dX6_walks_95 : decode cX6_walks 95 = .ok (.iload_n 3, 1) := by decide +kernel
theorem dX6_walks_96 : decode cX6_walks 96 = .ok (.invokevirtual 297, 3) := by decide +kernel
theorem dX6_walks_99 : decode cX6_walks 99 = .ok (.goto 15, 3) := by decide +kernel
theorem dX6_walks_102 : decode cX6_walks 102 = .ok (.aload_n 0, 1) := by decide +kernel
theorem dX6_walks_103 : decode cX6_walks 103 = .ok (.getfield 38, 3) := by decide +kernel
theorem dX6_walks_106 : decode cX6_walks 106 = .ok (.bipush 6, 2) := by decide +kernel
theorem dX6_walks_108 : decode cX6_walks 108 = .ok (.iload_n 1, 1) := by decide +kernel
theorem dX6_walks_109 : decode cX6_walks 109 = .ok (.imul, 1) := by decide +kernel
theorem dX6_walks_110 : decode cX6_walks 110 = .ok (.iconst 3, 1) := by decide +kernel
theorem dX6_walks_111 : decode cX6_walks 111 = .ok (.iadd, 1) := by decide +kernel
theorem dX6_walks_112 : decode cX6_walks 112 = .ok (.iconst 3, 1) := by decide +kernel
theorem dX6_walks_113 : decode cX6_walks 113 = .ok (.iastore, 1) := by decide +kernel
theorem dX6_walks_114 : decode cX6_walks 114 = .ok (.iinc 4 1, 3) := by decide +kernel
theorem dX6_walks_117 : decode cX6_walks 117 = .ok (.goto (-68), 3) := by decide +kernel
theorem dX6_walks_120 : decode cX6_walks 120 = .ok (.aload_n 0, 1) := by decide +kernel
theorem dX6_walks_121 : decode cX6_walks 121 = .ok (.iload_n 1, 1) := by decide +kernel
theorem dX6_walks_122 : decode cX6_walks 122 = .ok (.iconst 1, 1) := by decide +kernel
theorem dX6_walks_123 : decode cX6_walks 123 = .ok (.invokevirtual 141, 3) := by decide +kernel
theorem dX6_walks_126 : decode cX6_walks 126 = .ok (.ifCond .eq 39, 3) := by decide +kernel
theorem dX6_walks_129 : decode cX6_walks 129 = .ok (.aload_n 0, 1) := by decide +kernel
theorem dX6_walks_130 : decode cX6_walks 130 = .ok (.getfield 38, 3) := by decide +kernel
theorem dX6_walks_133 : decode cX6_walks 133 = .ok (.bipush 6, 2) := by decide +kernel
theorem dX6_walks_135 : decode cX6_walks 135 = .ok (.iload_n 1, 1) := by decide +kernel
theorem dX6_walks_136 : decode cX6_walks 136 = .ok (.imul, 1) := by decide +kernel
theorem dX6_walks_137 : decode cX6_walks 137 = .ok (.iconst 1, 1) := by decide +kernel
theorem dX6_walks_138 : decode cX6_walks 138 = .ok (.iadd, 1) := by decide +kernel
theorem dX6_walks_139 : decode cX6_walks 139 = .ok (.iaload, 1) := by decide +kernel
theorem dX6_walks_140 : decode cX6_walks 140 = .ok (.aload_n 0, 1) := by decide +kernel
theorem dX6_walks_141 : decode cX6_walks 141 = .ok (.getfield 35, 3) := by decide +kernel
theorem dX6_walks_144 : decode cX6_walks 144 = .ok (.aload_n 0, 1) := by decide +kernel
theorem dX6_walks_145 : decode cX6_walks 145 = .ok (.iload_n 1, 1) := by decide +kernel
theorem dX6_walks_146 : decode cX6_walks 146 = .ok (.invokevirtual 147, 3) := by decide +kernel
theorem dX6_walks_149 : decode cX6_walks 149 = .ok (.iaload, 1) := by decide +kernel
theorem dX6_walks_150 : decode cX6_walks 150 = .ok (.if_icmp .le 15, 3) := by decide +kernel
theorem dX6_walks_153 : decode cX6_walks 153 = .ok (.aload_n 0, 1) := by decide +kernel
theorem dX6_walks_154 : decode cX6_walks 154 = .ok (.getfield 38, 3) := by decide +kernel
theorem dX6_walks_157 : decode cX6_walks 157 = .ok (.bipush 6, 2) := by decide +kernel
theorem dX6_walks_159 : decode cX6_walks 159 = .ok (.iload_n 1, 1) := by decide +kernel
theorem dX6_walks_160 : decode cX6_walks 160 = .ok (.imul, 1) := by decide +kernel
theorem dX6_walks_161 : decode cX6_walks 161 = .ok (.iconst 3, 1) := by decide +kernel
theorem dX6_walks_162 : decode cX6_walks 162 = .ok (.iadd, 1) := by decide +kernel
theorem dX6_walks_163 : decode cX6_walks 163 = .ok (.iconst 2, 1) := by decide +kernel
theorem dX6_walks_164 : decode cX6_walks 164 = .ok (.iastore, 1) := by decide +kernel
theorem dX6_walks_165 : decode cX6_walks 165 = .ok (.return_, 1) := by decide +kernel
theorem dX6_passes_0 : decode cX6_passes 0 = .ok (.iconst 0, 1) := by decide +kernel
theorem dX6_passes_1 : decode cX6_passes 1 = .ok (.istore_n 1, 1) := by decide +kernel
theorem dX6_passes_2 : decode cX6_passes 2 = .ok (.iload_n 1, 1) := by decide +kernel
theorem dX6_passes_3 : decode cX6_passes 3 = .ok (.aload_n 0, 1) := by decide +kernel
theorem dX6_passes_4 : decode cX6_passes 4 = .ok (.getfield 83, 3) := by decide +kernel
theorem dX6_passes_7 : decode cX6_passes 7 = .ok (.if_icmp .ge 23, 3) := by decide +kernel
theorem dX6_passes_10 : decode cX6_passes 10 = .ok (.aload_n 0, 1) := by decide +kernel
theorem dX6_passes_11 : decode cX6_passes 11 = .ok (.iload_n 1, 1) := by decide +kernel
theorem dX6_passes_12 : decode cX6_passes 12 = .ok (.iconst 1, 1) := by decide +kernel
theorem dX6_passes_13 : decode cX6_passes 13 = .ok (.invokevirtual 141, 3) := by decide +kernel
theorem dX6_passes_16 : decode cX6_passes 16 = .ok (.ifCond .eq 8, 3) := by decide +kernel
theorem dX6_passes_19 : decode cX6_passes 19 = .ok (.aload_n 0, 1) := by decide +kernel
theorem dX6_passes_20 : decode cX6_passes 20 = .ok (.iload_n 1, 1) := by decide +kernel
theorem dX6_passes_21 : decode cX6_passes 21 = .ok (.invokevirtual 300, 3) := by decide +kernel
theorem dX6_passes_24 : decode cX6_passes 24 = .ok (.iinc 1 1, 3) := by decide +kernel
theorem dX6_passes_27 : decode cX6_passes 27 = .ok (.goto (-25), 3) := by decide +kernel
theorem dX6_passes_30 : decode cX6_passes 30 = .ok (.iconst 0, 1) := by decide +kernel
theorem dX6_passes_31 : decode cX6_passes 31 = .ok (.istore_n 1, 1) := by decide +kernel
theorem dX6_passes_32 : decode cX6_passes 32 = .ok (.iload_n 1, 1) := by decide +kernel
theorem dX6_passes_33 : decode cX6_passes 33 = .ok (.bipush 32, 2) := by decide +kernel
theorem dX6_passes_35 : decode cX6_passes 35 = .ok (.if_icmp .ge 35, 3) := by decide +kernel
theorem dX6_passes_38 : decode cX6_passes 38 = .ok (.aload_n 0, 1) := by decide +kernel
theorem dX6_passes_39 : decode cX6_passes 39 = .ok (.getfield 35, 3) := by decide +kernel
theorem dX6_passes_42 : decode cX6_passes 42 = .ok (.iload_n 1, 1) := by decide +kernel
theorem dX6_passes_43 : decode cX6_passes 43 = .ok (.aload_n 0, 1) := by decide +kernel
theorem dX6_passes_44 : decode cX6_passes 44 = .ok (.getfield 35, 3) := by decide +kernel
theorem dX6_passes_47 : decode cX6_passes 47 = .ok (.iload_n 1, 1) := by decide +kernel
theorem dX6_passes_48 : decode cX6_passes 48 = .ok (.iaload, 1) := by decide +kernel
theorem dX6_passes_49 : decode cX6_passes 49 = .ok (.aload_n 0, 1) := by decide +kernel
theorem dX6_passes_50 : decode cX6_passes 50 = .ok (.getfield 32, 3) := by decide +kernel
theorem dX6_passes_53 : decode cX6_passes 53 = .ok (.bipush 10, 2) := by decide +kernel
theorem dX6_passes_55 : decode cX6_passes 55 = .ok (.idiv, 1) := by decide +kernel
theorem dX6_passes_56 : decode cX6_passes 56 = .ok (.isub, 1) := by decide +kernel
theorem dX6_passes_57 : decode cX6_passes 57 = .ok (.iconst 0, 1) := by decide +kernel
theorem dX6_passes_58 : decode cX6_passes 58 = .ok (.bipush 99, 2) := by decide +kernel
theorem dX6_passes_60 : decode cX6_passes 60 = .ok (.invokestatic 288, 3) := by decide +kernel
theorem dX6_passes_63 : decode cX6_passes 63 = .ok (.iastore, 1) := by decide +kernel
theorem dX6_passes_64 : decode cX6_passes 64 = .ok (.iinc 1 1, 3) := by decide +kernel
theorem dX6_passes_67 : decode cX6_passes 67 = .ok (.goto (-35), 3) := by decide +kernel
theorem dX6_passes_70 : decode cX6_passes 70 = .ok (.aload_n 0, 1) := by decide +kernel
theorem dX6_passes_71 : decode cX6_passes 71 = .ok (.dup, 1) := by decide +kernel
theorem dX6_passes_72 : decode cX6_passes 72 = .ok (.getfield 117, 3) := by decide +kernel
theorem dX6_passes_75 : decode cX6_passes 75 = .ok (.iconst 1, 1) := by decide +kernel
theorem dX6_passes_76 : decode cX6_passes 76 = .ok (.iadd, 1) := by decide +kernel
theorem dX6_passes_77 : decode cX6_passes 77 = .ok (.putfield 117, 3) := by decide +kernel
theorem dX6_passes_80 : decode cX6_passes 80 = .ok (.return_, 1) := by decide +kernel
theorem dX6_hour_0 : decode cX6_hour 0 = .ok (.aload_n 0, 1) := by decide +kernel
theorem dX6_hour_1 : decode cX6_hour 1 = .ok (.getfield 117, 3) := by decide +kernel
theorem dX6_hour_4 : decode cX6_hour 4 = .ok (.sipush 999, 3) := by decide +kernel
theorem dX6_hour_7 : decode cX6_hour 7 = .ok (.if_icmp .ne 6, 3) := by decide +kernel
theorem dX6_hour_10 : decode cX6_hour 10 = .ok (.bipush (-3), 2) := by decide +kernel
theorem dX6_hour_12 : decode cX6_hour 12 = .ok (.ireturn, 1) := by decide +kernel
theorem dX6_hour_13 : decode cX6_hour 13 = .ok (.aload_n 0, 1) := by decide +kernel
theorem dX6_hour_14 : decode cX6_hour 14 = .ok (.invokevirtual 303, 3) := by decide +kernel
theorem dX6_hour_17 : decode cX6_hour 17 = .ok (.aload_n 0, 1) := by decide +kernel
theorem dX6_hour_18 : decode cX6_hour 18 = .ok (.iconst 3, 1) := by decide +kernel
theorem dX6_hour_19 : decode cX6_hour 19 = .ok (.invokevirtual 294, 3) := by decide +kernel
theorem dX6_hour_22 : decode cX6_hour 22 = .ok (.ireturn, 1) := by decide +kernel
theorem dX6_laysAside_0 : decode cX6_laysAside 0 = .ok (.iconst 0, 1) := by decide +kernel
theorem dX6_laysAside_1 : decode cX6_laysAside 1 = .ok (.istore_n 1, 1) := by decide +kernel
theorem dX6_laysAside_2 : decode cX6_laysAside 2 = .ok (.iload_n 1, 1) := by decide +kernel
theorem dX6_laysAside_3 : decode cX6_laysAside 3 = .ok (.bipush 30, 2) := by decide +kernel
theorem dX6_laysAside_5 : decode cX6_laysAside 5 = .ok (.if_icmp .ge 21, 3) := by decide +kernel
theorem dX6_laysAside_8 : decode cX6_laysAside 8 = .ok (.aload_n 0, 1) := by decide +kernel
theorem dX6_laysAside_9 : decode cX6_laysAside 9 = .ok (.getfield 44, 3) := by decide +kernel
theorem dX6_laysAside_12 : decode cX6_laysAside 12 = .ok (.iload_n 1, 1) := by decide +kernel
theorem dX6_laysAside_13 : decode cX6_laysAside 13 = .ok (.aload_n 0, 1) := by decide +kernel
theorem dX6_laysAside_14 : decode cX6_laysAside 14 = .ok (.getfield 38, 3) := by decide +kernel
theorem dX6_laysAside_17 : decode cX6_laysAside 17 = .ok (.iload_n 1, 1) := by decide +kernel
theorem dX6_laysAside_18 : decode cX6_laysAside 18 = .ok (.iaload, 1) := by decide +kernel
theorem dX6_laysAside_19 : decode cX6_laysAside 19 = .ok (.iastore, 1) := by decide +kernel
theorem dX6_laysAside_20 : decode cX6_laysAside 20 = .ok (.iinc 1 1, 3) := by decide +kernel
theorem dX6_laysAside_23 : decode cX6_laysAside 23 = .ok (.goto (-21), 3) := by decide +kernel
theorem dX6_laysAside_26 : decode cX6_laysAside 26 = .ok (.iconst 0, 1) := by decide +kernel
theorem dX6_laysAside_27 : decode cX6_laysAside 27 = .ok (.istore_n 1, 1) := by decide +kernel
theorem dX6_laysAside_28 : decode cX6_laysAside 28 = .ok (.iload_n 1, 1) := by decide +kernel
theorem dX6_laysAside_29 : decode cX6_laysAside 29 = .ok (.bipush 32, 2) := by decide +kernel
theorem dX6_laysAside_31 : decode cX6_laysAside 31 = .ok (.if_icmp .ge 24, 3) := by decide +kernel
theorem dX6_laysAside_34 : decode cX6_laysAside 34 = .ok (.aload_n 0, 1) := by decide +kernel
theorem dX6_laysAside_35 : decode cX6_laysAside 35 = .ok (.getfield 44, 3) := by decide +kernel
theorem dX6_laysAside_38 : decode cX6_laysAside 38 = .ok (.bipush 30, 2) := by decide +kernel
theorem dX6_laysAside_40 : decode cX6_laysAside 40 = .ok (.iload_n 1, 1) := by decide +kernel
theorem dX6_laysAside_41 : decode cX6_laysAside 41 = .ok (.iadd, 1) := by decide +kernel
theorem dX6_laysAside_42 : decode cX6_laysAside 42 = .ok (.aload_n 0, 1) := by decide +kernel
theorem dX6_laysAside_43 : decode cX6_laysAside 43 = .ok (.getfield 35, 3) := by decide +kernel
theorem dX6_laysAside_46 : decode cX6_laysAside 46 = .ok (.iload_n 1, 1) := by decide +kernel
theorem dX6_laysAside_47 : decode cX6_laysAside 47 = .ok (.iaload, 1) := by decide +kernel
theorem dX6_laysAside_48 : decode cX6_laysAside 48 = .ok (.iastore, 1) := by decide +kernel
theorem dX6_laysAside_49 : decode cX6_laysAside 49 = .ok (.iinc 1 1, 3) := by decide +kernel
theorem dX6_laysAside_52 : decode cX6_laysAside 52 = .ok (.goto (-24), 3) := by decide +kernel
theorem dX6_laysAside_55 : decode cX6_laysAside 55 = .ok (.aload_n 0, 1) := by decide +kernel
theorem dX6_laysAside_56 : decode cX6_laysAside 56 = .ok (.getfield 44, 3) := by decide +kernel
theorem dX6_laysAside_59 : decode cX6_laysAside 59 = .ok (.bipush 62, 2) := by decide +kernel
theorem dX6_laysAside_61 : decode cX6_laysAside 61 = .ok (.aload_n 0, 1) := by decide +kernel
theorem dX6_laysAside_62 : decode cX6_laysAside 62 = .ok (.getfield 117, 3) := by decide +kernel
theorem dX6_laysAside_65 : decode cX6_laysAside 65 = .ok (.iastore, 1) := by decide +kernel
theorem dX6_laysAside_66 : decode cX6_laysAside 66 = .ok (.aload_n 0, 1) := by decide +kernel
theorem dX6_laysAside_67 : decode cX6_laysAside 67 = .ok (.getfield 44, 3) := by decide +kernel
theorem dX6_laysAside_70 : decode cX6_laysAside 70 = .ok (.bipush 63, 2) := by decide +kernel
theorem dX6_laysAside_72 : decode cX6_laysAside 72 = .ok (.aload_n 0, 1) := by decide +kernel
theorem dX6_laysAside_73 : decode cX6_laysAside 73 = .ok (.getfield 32, 3) := by decide +kernel
theorem dX6_laysAside_76 : decode cX6_laysAside 76 = .ok (.iastore, 1) := by decide +kernel
theorem dX6_laysAside_77 : decode cX6_laysAside 77 = .ok (.return_, 1) := by decide +kernel
theorem dX6_laysBack_0 : decode cX6_laysBack 0 = .ok (.iconst 0, 1) := by decide +kernel
theorem dX6_laysBack_1 : decode cX6_laysBack 1 = .ok (.istore_n 1, 1) := by decide +kernel
theorem dX6_laysBack_2 : decode cX6_laysBack 2 = .ok (.iload_n 1, 1) := by decide +kernel
theorem dX6_laysBack_3 : decode cX6_laysBack 3 = .ok (.bipush 30, 2) := by decide +kernel
theorem dX6_laysBack_5 : decode cX6_laysBack 5 = .ok (.if_icmp .ge 21, 3) := by decide +kernel
theorem dX6_laysBack_8 : decode cX6_laysBack 8 = .ok (.aload_n 0, 1) := by decide +kernel
theorem dX6_laysBack_9 : decode cX6_laysBack 9 = .ok (.getfield 38, 3) := by decide +kernel
theorem dX6_laysBack_12 : decode cX6_laysBack 12 = .ok (.iload_n 1, 1) := by decide +kernel
theorem dX6_laysBack_13 : decode cX6_laysBack 13 = .ok (.aload_n 0, 1) := by decide +kernel
theorem dX6_laysBack_14 : decode cX6_laysBack 14 = .ok (.getfield 44, 3) := by decide +kernel
theorem dX6_laysBack_17 : decode cX6_laysBack 17 = .ok (.iload_n 1, 1) := by decide +kernel
theorem dX6_laysBack_18 : decode cX6_laysBack 18 = .ok (.iaload, 1) := by decide +kernel
theorem dX6_laysBack_19 : decode cX6_laysBack 19 = .ok (.iastore, 1) := by decide +kernel
theorem dX6_laysBack_20 : decode cX6_laysBack 20 = .ok (.iinc 1 1, 3) := by decide +kernel
theorem dX6_laysBack_23 : decode cX6_laysBack 23 = .ok (.goto (-21), 3) := by decide +kernel
theorem dX6_laysBack_26 : decode cX6_laysBack 26 = .ok (.iconst 0, 1) := by decide +kernel
theorem dX6_laysBack_27 : decode cX6_laysBack 27 = .ok (.istore_n 1, 1) := by decide +kernel
theorem dX6_laysBack_28 : decode cX6_laysBack 28 = .ok (.iload_n 1, 1) := by decide +kernel
theorem dX6_laysBack_29 : decode cX6_laysBack 29 = .ok (.bipush 32, 2) := by decide +kernel
theorem dX6_laysBack_31 : decode cX6_laysBack 31 = .ok (.if_icmp .ge 24, 3) := by decide +kernel
theorem dX6_laysBack_34 : decode cX6_laysBack 34 = .ok (.aload_n 0, 1) := by decide +kernel
theorem dX6_laysBack_35 : decode cX6_laysBack 35 = .ok (.getfield 35, 3) := by decide +kernel
theorem dX6_laysBack_38 : decode cX6_laysBack 38 = .ok (.iload_n 1, 1) := by decide +kernel
theorem dX6_laysBack_39 : decode cX6_laysBack 39 = .ok (.aload_n 0, 1) := by decide +kernel
theorem dX6_laysBack_40 : decode cX6_laysBack 40 = .ok (.getfield 44, 3) := by decide +kernel
theorem dX6_laysBack_43 : decode cX6_laysBack 43 = .ok (.bipush 30, 2) := by decide +kernel
theorem dX6_laysBack_45 : decode cX6_laysBack 45 = .ok (.iload_n 1, 1) := by decide +kernel
theorem dX6_laysBack_46 : decode cX6_laysBack 46 = .ok (.iadd, 1) := by decide +kernel
theorem dX6_laysBack_47 : decode cX6_laysBack 47 = .ok (.iaload, 1) := by decide +kernel
theorem dX6_laysBack_48 : decode cX6_laysBack 48 = .ok (.iastore, 1) := by decide +kernel
theorem dX6_laysBack_49 : decode cX6_laysBack 49 = .ok (.iinc 1 1, 3) := by decide +kernel
theorem dX6_laysBack_52 : decode cX6_laysBack 52 = .ok (.goto (-24), 3) := by decide +kernel
theorem dX6_laysBack_55 : decode cX6_laysBack 55 = .ok (.aload_n 0, 1) := by decide +kernel
theorem dX6_laysBack_56 : decode cX6_laysBack 56 = .ok (.aload_n 0, 1) := by decide +kernel
theorem dX6_laysBack_57 : decode cX6_laysBack 57 = .ok (.getfield 44, 3) := by decide +kernel
theorem dX6_laysBack_60 : decode cX6_laysBack 60 = .ok (.bipush 62, 2) := by decide +kernel
theorem dX6_laysBack_62 : decode cX6_laysBack 62 = .ok (.iaload, 1) := by decide +kernel
theorem dX6_laysBack_63 : decode cX6_laysBack 63 = .ok (.putfield 117, 3) := by decide +kernel
theorem dX6_laysBack_66 : decode cX6_laysBack 66 = .ok (.aload_n 0, 1) := by decide +kernel
theorem dX6_laysBack_67 : decode cX6_laysBack 67 = .ok (.aload_n 0, 1) := by decide +kernel
theorem dX6_laysBack_68 : decode cX6_laysBack 68 = .ok (.getfield 44, 3) := by decide +kernel
theorem dX6_laysBack_71 : decode cX6_laysBack 71 = .ok (.bipush 63, 2) := by decide +kernel
theorem dX6_laysBack_73 : decode cX6_laysBack 73 = .ok (.iaload, 1) := by decide +kernel
theorem dX6_laysBack_74 : decode cX6_laysBack 74 = .ok (.putfield 32, 3) := by decide +kernel
theorem dX6_laysBack_77 : decode cX6_laysBack 77 = .ok (.return_, 1) := by decide +kernel
theorem dX6_go_0 : decode cX6_go 0 = .ok (.iconst 0, 1) := by decide +kernel
theorem dX6_go_1 : decode cX6_go 1 = .ok (.istore_n 2, 1) := by decide +kernel
theorem dX6_go_2 : decode cX6_go 2 = .ok (.iload_n 2, 1) := by decide +kernel
theorem dX6_go_3 : decode cX6_go 3 = .ok (.iload_n 1, 1) := by decide +kernel
theorem dX6_go_4 : decode cX6_go 4 = .ok (.if_icmp .ge 13, 3) := by decide +kernel
theorem dX6_go_7 : decode cX6_go 7 = .ok (.aload_n 0, 1) := by decide +kernel
theorem dX6_go_8 : decode cX6_go 8 = .ok (.invokevirtual 303, 3) := by decide +kernel
theorem dX6_go_11 : decode cX6_go 11 = .ok (.iinc 2 1, 3) := by decide +kernel
theorem dX6_go_14 : decode cX6_go 14 = .ok (.goto (-12), 3) := by decide +kernel
theorem dX6_go_17 : decode cX6_go 17 = .ok (.return_, 1) := by decide +kernel
theorem dX6_run_0 : decode cX6_run 0 = .ok (.aload_n 0, 1) := by decide +kernel
theorem dX6_run_1 : decode cX6_run 1 = .ok (.iload_n 1, 1) := by decide +kernel
theorem dX6_run_2 : decode cX6_run 2 = .ok (.invokevirtual 96, 3) := by decide +kernel
theorem dX6_run_5 : decode cX6_run 5 = .ok (.ifCond .eq 41, 3) := by decide +kernel
theorem dX6_run_8 : decode cX6_run 8 = .ok (.iload_n 2, 1) := by decide +kernel
theorem dX6_run_9 : decode cX6_run 9 = .ok (.i2l, 1) := by decide +kernel
theorem dX6_run_10 : decode cX6_run 10 = .ok (.lconst 0, 1) := by decide +kernel
theorem dX6_run_11 : decode cX6_run 11 = .ok (.ldc2_w 245, 3) := by decide +kernel
theorem dX6_run_14 : decode cX6_run 14 = .ok (.invokestatic 86, 3) := by decide +kernel
theorem dX6_run_17 : decode cX6_run 17 = .ok (.ifCond .eq 29, 3) := by decide +kernel
theorem dX6_run_20 : decode cX6_run 20 = .ok (.iload_n 3, 1) := by decide +kernel
theorem dX6_run_21 : decode cX6_run 21 = .ok (.i2l, 1) := by decide +kernel
theorem dX6_run_22 : decode cX6_run 22 = .ok (.lconst 0, 1) := by decide +kernel
theorem dX6_run_23 : decode cX6_run 23 = .ok (.ldc2_w 306, 3) := by decide +kernel
theorem dX6_run_26 : decode cX6_run 26 = .ok (.invokestatic 86, 3) := by decide +kernel
theorem dX6_run_29 : decode cX6_run 29 = .ok (.ifCond .ne 20, 3) := by decide +kernel
theorem dX6_run_32 : decode cX6_run 32 = .ok (.iload_n 3, 1) := by decide +kernel
theorem dX6_run_33 : decode cX6_run 33 = .ok (.i2l, 1) := by decide +kernel
theorem dX6_run_34 : decode cX6_run 34 = .ok (.ldc2_w 185, 3) := by decide +kernel
theorem dX6_run_37 : decode cX6_run 37 = .ok (.ldc2_w 308, 3) := by decide +kernel
theorem dX6_run_40 : decode cX6_run 40 = .ok (.invokestatic 86, 3) := by decide +kernel
theorem dX6_run_43 : decode cX6_run 43 = .ok (.ifCond .ne 6, 3) := by decide +kernel
theorem dX6_run_46 : decode cX6_run 46 = .ok (.bipush (-2), 2) := by decide +kernel
theorem dX6_run_48 : decode cX6_run 48 = .ok (.ireturn, 1) := by decide +kernel
theorem dX6_run_49 : decode cX6_run 49 = .ok (.aload_n 0, 1) := by decide +kernel
theorem dX6_run_50 : decode cX6_run 50 = .ok (.invokevirtual 310, 3) := by decide +kernel
theorem dX6_run_53 : decode cX6_run 53 = .ok (.aload_n 0, 1) := by decide +kernel
theorem dX6_run_54 : decode cX6_run 54 = .ok (.iload_n 2, 1) := by decide +kernel
theorem dX6_run_55 : decode cX6_run 55 = .ok (.invokevirtual 313, 3) := by decide +kernel
theorem dX6_run_58 : decode cX6_run 58 = .ok (.iload_n 3, 1) := by decide +kernel
theorem dX6_run_59 : decode cX6_run 59 = .ok (.bipush 9, 2) := by decide +kernel
theorem dX6_run_61 : decode cX6_run 61 = .ok (.if_icmp .le 15, 3) := by decide +kernel
theorem dX6_run_64 : decode cX6_run 64 = .ok (.aload_n 0, 1) := by decide +kernel
theorem dX6_run_65 : decode cX6_run 65 = .ok (.getfield 35, 3) := by decide +kernel
theorem dX6_run_68 : decode cX6_run 68 = .ok (.iload_n 3, 1) := by decide +kernel
theorem dX6_run_69 : decode cX6_run 69 = .ok (.bipush 10, 2) := by decide +kernel
theorem dX6_run_71 : decode cX6_run 71 = .ok (.isub, 1) := by decide +kernel
theorem dX6_run_72 : decode cX6_run 72 = .ok (.iaload, 1) := by decide +kernel
theorem dX6_run_73 : decode cX6_run 73 = .ok (.goto 67, 3) := by decide +kernel
theorem dX6_run_76 : decode cX6_run 76 = .ok (.iload_n 3, 1) := by decide +kernel
theorem dX6_run_77 : decode cX6_run 77 = .ok (.ifCond .ne 11, 3) := by decide +kernel
theorem dX6_run_80 : decode cX6_run 80 = .ok (.aload_n 0, 1) := by decide +kernel
theorem dX6_run_81 : decode cX6_run 81 = .ok (.iload_n 1, 1) := by decide +kernel
theorem dX6_run_82 : decode cX6_run 82 = .ok (.invokevirtual 147, 3) := by decide +kernel
theorem dX6_run_85 : decode cX6_run 85 = .ok (.goto 55, 3) := by decide +kernel
theorem dX6_run_88 : decode cX6_run 88 = .ok (.iload_n 3, 1) := by decide +kernel
theorem dX6_run_89 : decode cX6_run 89 = .ok (.iconst 1, 1) := by decide +kernel
theorem dX6_run_90 : decode cX6_run 90 = .ok (.if_icmp .ne 17, 3) := by decide +kernel
theorem dX6_run_93 : decode cX6_run 93 = .ok (.aload_n 0, 1) := by decide +kernel
theorem dX6_run_94 : decode cX6_run 94 = .ok (.getfield 38, 3) := by decide +kernel
theorem dX6_run_97 : decode cX6_run 97 = .ok (.bipush 6, 2) := by decide +kernel
theorem dX6_run_99 : decode cX6_run 99 = .ok (.iload_n 1, 1) := by decide +kernel
theorem dX6_run_100 : decode cX6_run 100 = .ok (.imul, 1) := by decide +kernel
theorem dX6_run_101 : decode cX6_run 101 = .ok (.iconst 3, 1) := by decide +kernel
theorem dX6_run_102 : decode cX6_run 102 = .ok (.iadd, 1) := by decide +kernel
theorem dX6_run_103 : decode cX6_run 103 = .ok (.iaload, 1) := by decide +kernel
theorem dX6_run_104 : decode cX6_run 104 = .ok (.goto 36, 3) := by decide +kernel
theorem dX6_run_107 : decode cX6_run 107 = .ok (.iload_n 3, 1) := by decide +kernel
theorem dX6_run_108 : decode cX6_run 108 = .ok (.iconst 2, 1) := by decide +kernel
theorem dX6_run_109 : decode cX6_run 109 = .ok (.if_icmp .ne 17, 3) := by decide +kernel
theorem dX6_run_112 : decode cX6_run 112 = .ok (.aload_n 0, 1) := by decide +kernel
theorem dX6_run_113 : decode cX6_run 113 = .ok (.getfield 38, 3) := by decide +kernel
theorem dX6_run_116 : decode cX6_run 116 = .ok (.bipush 6, 2) := by decide +kernel
theorem dX6_run_118 : decode cX6_run 118 = .ok (.iload_n 1, 1) := by decide +kernel
theorem dX6_run_119 : decode cX6_run 119 = .ok (.imul, 1) := by decide +kernel
theorem dX6_run_120 : decode cX6_run 120 = .ok (.iconst 1, 1) := by decide +kernel
theorem dX6_run_121 : decode cX6_run 121 = .ok (.iadd, 1) := by decide +kernel
theorem dX6_run_122 : decode cX6_run 122 = .ok (.iaload, 1) := by decide +kernel
theorem dX6_run_123 : decode cX6_run 123 = .ok (.goto 17, 3) := by decide +kernel
theorem dX6_run_126 : decode cX6_run 126 = .ok (.aload_n 0, 1) := by decide +kernel
theorem dX6_run_127 : decode cX6_run 127 = .ok (.iload_n 3, 1) := by decide +kernel
theorem dX6_run_128 : decode cX6_run 128 = .ok (.iconst 3, 1) := by decide +kernel
theorem dX6_run_129 : decode cX6_run 129 = .ok (.if_icmp .ne 7, 3) := by decide +kernel
theorem dX6_run_132 : decode cX6_run 132 = .ok (.iconst 3, 1) := by decide +kernel
theorem dX6_run_133 : decode cX6_run 133 = .ok (.goto 4, 3) := by decide +kernel
theorem dX6_run_136 : decode cX6_run 136 = .ok (.iconst 2, 1) := by decide +kernel
theorem dX6_run_137 : decode cX6_run 137 = .ok (.invokevirtual 294, 3) := by decide +kernel
theorem dX6_run_140 : decode cX6_run 140 = .ok (.istore 4, 2) := by decide +kernel
theorem dX6_run_142 : decode cX6_run 142 = .ok (.aload_n 0, 1) := by decide +kernel
theorem dX6_run_143 : decode cX6_run 143 = .ok (.invokevirtual 316, 3) := by decide +kernel
theorem dX6_run_146 : decode cX6_run 146 = .ok (.iload 4, 2) := by decide +kernel
theorem dX6_run_148 : decode cX6_run 148 = .ok (.ireturn, 1) := by decide +kernel
theorem dX6_arrives_0 : decode cX6_arrives 0 = .ok (.aload_n 0, 1) := by decide +kernel
theorem dX6_arrives_1 : decode cX6_arrives 1 = .ok (.iload_n 1, 1) := by decide +kernel
theorem dX6_arrives_2 : decode cX6_arrives 2 = .ok (.invokevirtual 96, 3) := by decide +kernel
theorem dX6_arrives_5 : decode cX6_arrives 5 = .ok (.ifCond .ne 6, 3) := by decide +kernel
theorem dX6_arrives_8 : decode cX6_arrives 8 = .ok (.bipush (-2), 2) := by decide +kernel
theorem dX6_arrives_10 : decode cX6_arrives 10 = .ok (.ireturn, 1) := by decide +kernel
theorem dX6_arrives_11 : decode cX6_arrives 11 = .ok (.aload_n 0, 1) := by decide +kernel
theorem dX6_arrives_12 : decode cX6_arrives 12 = .ok (.invokevirtual 310, 3) := by decide +kernel
theorem dX6_arrives_15 : decode cX6_arrives 15 = .ok (.iconst 0, 1) := by decide +kernel
theorem dX6_arrives_16 : decode cX6_arrives 16 = .ok (.istore_n 2, 1) := by decide +kernel
theorem dX6_arrives_17 : decode cX6_arrives 17 = .ok (.iload_n 2, 1) := by decide +kernel
theorem dX6_arrives_18 : decode cX6_arrives 18 = .ok (.bipush 60, 2) := by decide +kernel
theorem dX6_arrives_20 : decode cX6_arrives 20 = .ok (.if_icmp .gt 22, 3) := by decide +kernel
theorem dX6_arrives_23 : decode cX6_arrives 23 = .ok (.aload_n 0, 1) := by decide +kernel
theorem dX6_arrives_24 : decode cX6_arrives 24 = .ok (.iload_n 1, 1) := by decide +kernel
theorem dX6_arrives_25 : decode cX6_arrives 25 = .ok (.iconst 3, 1) := by decide +kernel
theorem dX6_arrives_26 : decode cX6_arrives 26 = .ok (.invokevirtual 141, 3) := by decide +kernel
theorem dX6_arrives_29 : decode cX6_arrives 29 = .ok (.ifCond .ne 13, 3) := by decide +kernel
theorem dX6_arrives_32 : decode cX6_arrives 32 = .ok (.aload_n 0, 1) := by decide +kernel
theorem dX6_arrives_33 : decode cX6_arrives 33 = .ok (.invokevirtual 303, 3) := by decide +kernel
theorem dX6_arrives_36 : decode cX6_arrives 36 = .ok (.iinc 2 1, 3) := by decide +kernel
theorem dX6_arrives_39 : decode cX6_arrives 39 = .ok (.goto (-22), 3) := by decide +kernel
theorem dX6_arrives_42 : decode cX6_arrives 42 = .ok (.aload_n 0, 1) := by decide +kernel
theorem dX6_arrives_43 : decode cX6_arrives 43 = .ok (.invokevirtual 316, 3) := by decide +kernel
theorem dX6_arrives_46 : decode cX6_arrives 46 = .ok (.iload_n 2, 1) := by decide +kernel
theorem dX6_arrives_47 : decode cX6_arrives 47 = .ok (.bipush 60, 2) := by decide +kernel
theorem dX6_arrives_49 : decode cX6_arrives 49 = .ok (.if_icmp .le 7, 3) := by decide +kernel
theorem dX6_arrives_52 : decode cX6_arrives 52 = .ok (.iconst (-1), 1) := by decide +kernel
theorem dX6_arrives_53 : decode cX6_arrives 53 = .ok (.goto 4, 3) := by decide +kernel
theorem dX6_arrives_56 : decode cX6_arrives 56 = .ok (.iload_n 2, 1) := by decide +kernel
theorem dX6_arrives_57 : decode cX6_arrives 57 = .ok (.ireturn, 1) := by decide +kernel
theorem dX6_leastFirm_0 : decode cX6_leastFirm 0 = .ok (.iconst 0, 1) := by decide +kernel
theorem dX6_leastFirm_1 : decode cX6_leastFirm 1 = .ok (.istore_n 1, 1) := by decide +kernel
theorem dX6_leastFirm_2 : decode cX6_leastFirm 2 = .ok (.iconst 1, 1) := by decide +kernel
theorem dX6_leastFirm_3 : decode cX6_leastFirm 3 = .ok (.istore_n 2, 1) := by decide +kernel
theorem dX6_leastFirm_4 : decode cX6_leastFirm 4 = .ok (.iload_n 2, 1) := by decide +kernel
theorem dX6_leastFirm_5 : decode cX6_leastFirm 5 = .ok (.bipush 32, 2) := by decide +kernel
theorem dX6_leastFirm_7 : decode cX6_leastFirm 7 = .ok (.if_icmp .ge 30, 3) := by decide +kernel
theorem dX6_leastFirm_10 : decode cX6_leastFirm 10 = .ok (.aload_n 0, 1) := by decide +kernel
theorem dX6_leastFirm_11 : decode cX6_leastFirm 11 = .ok (.getfield 35, 3) := by decide +kernel
theorem dX6_leastFirm_14 : decode cX6_leastFirm 14 = .ok (.iload_n 2, 1) := by decide +kernel
theorem dX6_leastFirm_15 : decode cX6_leastFirm 15 = .ok (.iaload, 1) := by decide +kernel
theorem dX6_leastFirm_16 : decode cX6_leastFirm 16 = .ok (.aload_n 0, 1) := by decide +kernel
theorem dX6_leastFirm_17 : decode cX6_leastFirm 17 = .ok (.getfield 35, 3) := by decide +kernel
theorem dX6_leastFirm_20 : decode cX6_leastFirm 20 = .ok (.iload_n 1, 1) := by decide +kernel
theorem dX6_leastFirm_21 : decode cX6_leastFirm 21 = .ok (.iaload, 1) := by decide +kernel
theorem dX6_leastFirm_22 : decode cX6_leastFirm 22 = .ok (.if_icmp .ge 7, 3) := by decide +kernel
theorem dX6_leastFirm_25 : decode cX6_leastFirm 25 = .ok (.iload_n 2, 1) := by decide +kernel
theorem dX6_leastFirm_26 : decode cX6_leastFirm 26 = .ok (.goto 4, 3) := by decide +kernel
theorem dX6_leastFirm_29 : decode cX6_leastFirm 29 = .ok (.iload_n 1, 1) := by decide +kernel
theorem dX6_leastFirm_30 : decode cX6_leastFirm 30 = .ok (.istore_n 1, 1) := by decide +kernel
theorem dX6_leastFirm_31 : decode cX6_leastFirm 31 = .ok (.iinc 2 1, 3) := by decide +kernel
theorem dX6_leastFirm_34 : decode cX6_leastFirm 34 = .ok (.goto (-30), 3) := by decide +kernel
theorem dX6_leastFirm_37 : decode cX6_leastFirm 37 = .ok (.iload_n 1, 1) := by decide +kernel
theorem dX6_leastFirm_38 : decode cX6_leastFirm 38 = .ok (.ireturn, 1) := by decide +kernel
theorem dX6_way_0 : decode cX6_way 0 = .ok (.iload_n 1, 1) := by decide +kernel
theorem dX6_way_1 : decode cX6_way 1 = .ok (.i2l, 1) := by decide +kernel
theorem dX6_way_2 : decode cX6_way 2 = .ok (.lconst 0, 1) := by decide +kernel
theorem dX6_way_3 : decode cX6_way 3 = .ok (.ldc2_w 306, 3) := by decide +kernel
theorem dX6_way_6 : decode cX6_way 6 = .ok (.invokestatic 86, 3) := by decide +kernel
theorem dX6_way_9 : decode cX6_way 9 = .ok (.ifCond .ne 6, 3) := by decide +kernel
theorem dX6_way_12 : decode cX6_way 12 = .ok (.bipush (-2), 2) := by decide +kernel
theorem dX6_way_14 : decode cX6_way 14 = .ok (.ireturn, 1) := by decide +kernel
theorem dX6_way_15 : decode cX6_way 15 = .ok (.iload_n 1, 1) := by decide +kernel
theorem dX6_way_16 : decode cX6_way 16 = .ok (.ifCond .ne 10, 3) := by decide +kernel
theorem dX6_way_19 : decode cX6_way 19 = .ok (.aload_n 0, 1) := by decide +kernel
theorem dX6_way_20 : decode cX6_way 20 = .ok (.invokevirtual 319, 3) := by decide +kernel
theorem dX6_way_23 : decode cX6_way 23 = .ok (.goto 27, 3) := by decide +kernel
theorem dX6_way_26 : decode cX6_way 26 = .ok (.iload_n 1, 1) := by decide +kernel
theorem dX6_way_27 : decode cX6_way 27 = .ok (.iconst 1, 1) := by decide +kernel
theorem dX6_way_28 : decode cX6_way 28 = .ok (.if_icmp .ne 15, 3) := by decide +kernel
theorem dX6_way_31 : decode cX6_way 31 = .ok (.aload_n 0, 1) := by decide +kernel
theorem dX6_way_32 : decode cX6_way 32 = .ok (.getfield 35, 3) := by decide +kernel
theorem dX6_way_35 : decode cX6_way 35 = .ok (.aload_n 0, 1) := by decide +kernel
theorem dX6_way_36 : decode cX6_way 36 = .ok (.invokevirtual 319, 3) := by decide +kernel
theorem dX6_way_39 : decode cX6_way 39 = .ok (.iaload, 1) := by decide +kernel
theorem dX6_way_40 : decode cX6_way 40 = .ok (.goto 10, 3) := by decide +kernel
theorem dX6_way_43 : decode cX6_way 43 = .ok (.aload_n 0, 1) := by decide +kernel
theorem dX6_way_44 : decode cX6_way 44 = .ok (.iload_n 1, 1) := by decide +kernel
theorem dX6_way_45 : decode cX6_way 45 = .ok (.iconst 1, 1) := by decide +kernel
theorem dX6_way_46 : decode cX6_way 46 = .ok (.isub, 1) := by decide +kernel
theorem dX6_way_47 : decode cX6_way 47 = .ok (.invokevirtual 294, 3) := by decide +kernel
theorem dX6_way_50 : decode cX6_way 50 = .ok (.ireturn, 1) := by decide +kernel
theorem dX6_sunkBehind_0 : decode cX6_sunkBehind 0 = .ok (.aload_n 0, 1) := by decide +kernel
theorem dX6_sunkBehind_1 : decode cX6_sunkBehind 1 = .ok (.invokevirtual 310, 3) := by decide +kernel
theorem dX6_sunkBehind_4 : decode cX6_sunkBehind 4 = .ok (.aload_n 0, 1) := by decide +kernel
theorem dX6_sunkBehind_5 : decode cX6_sunkBehind 5 = .ok (.iload_n 1, 1) := by decide +kernel
theorem dX6_sunkBehind_6 : decode cX6_sunkBehind 6 = .ok (.invokevirtual 313, 3) := by decide +kernel
theorem dX6_sunkBehind_9 : decode cX6_sunkBehind 9 = .ok (.aload_n 0, 1) := by decide +kernel
theorem dX6_sunkBehind_10 : decode cX6_sunkBehind 10 = .ok (.iconst 2, 1) := by decide +kernel
theorem dX6_sunkBehind_11 : decode cX6_sunkBehind 11 = .ok (.invokevirtual 294, 3) := by decide +kernel
theorem dX6_sunkBehind_14 : decode cX6_sunkBehind 14 = .ok (.istore_n 2, 1) := by decide +kernel
theorem dX6_sunkBehind_15 : decode cX6_sunkBehind 15 = .ok (.aload_n 0, 1) := by decide +kernel
theorem dX6_sunkBehind_16 : decode cX6_sunkBehind 16 = .ok (.invokevirtual 316, 3) := by decide +kernel
theorem dX6_sunkBehind_19 : decode cX6_sunkBehind 19 = .ok (.iload_n 2, 1) := by decide +kernel
theorem dX6_sunkBehind_20 : decode cX6_sunkBehind 20 = .ok (.ireturn, 1) := by decide +kernel
theorem dX6_shifted_0 : decode cX6_shifted 0 = .ok (.aload_n 0, 1) := by decide +kernel
theorem dX6_shifted_1 : decode cX6_shifted 1 = .ok (.invokevirtual 310, 3) := by decide +kernel
theorem dX6_shifted_4 : decode cX6_shifted 4 = .ok (.iconst 0, 1) := by decide +kernel
theorem dX6_shifted_5 : decode cX6_shifted 5 = .ok (.istore_n 2, 1) := by decide +kernel
theorem dX6_shifted_6 : decode cX6_shifted 6 = .ok (.iload_n 2, 1) := by decide +kernel
theorem dX6_shifted_7 : decode cX6_shifted 7 = .ok (.iload_n 1, 1) := by decide +kernel
theorem dX6_shifted_8 : decode cX6_shifted 8 = .ok (.if_icmp .lt 7, 3) := by decide +kernel
theorem dX6_shifted_11 : decode cX6_shifted 11 = .ok (.iload_n 2, 1) := by decide +kernel
theorem dX6_shifted_12 : decode cX6_shifted 12 = .ok (.ifCond .ne 86, 3) := by decide +kernel
theorem dX6_shifted_15 : decode cX6_shifted 15 = .ok (.iconst 0, 1) := by decide +kernel
theorem dX6_shifted_16 : decode cX6_shifted 16 = .ok (.istore_n 3, 1) := by decide +kernel
theorem dX6_shifted_17 : decode cX6_shifted 17 = .ok (.iload_n 3, 1) := by decide +kernel
theorem dX6_shifted_18 : decode cX6_shifted 18 = .ok (.aload_n 0, 1) := by decide +kernel
theorem dX6_shifted_19 : decode cX6_shifted 19 = .ok (.getfield 83, 3) := by decide +kernel
theorem dX6_shifted_22 : decode cX6_shifted 22 = .ok (.if_icmp .ge 61, 3) := by decide +kernel
theorem dX6_shifted_25 : decode cX6_shifted 25 = .ok (.aload_n 0, 1) := by decide +kernel
theorem dX6_shifted_26 : decode cX6_shifted 26 = .ok (.getfield 38, 3) := by decide +kernel
theorem dX6_shifted_29 : decode cX6_shifted 29 = .ok (.bipush 6, 2) := by decide +kernel
theorem dX6_shifted_31 : decode cX6_shifted 31 = .ok (.iload_n 3, 1) := by decide +kernel
theorem dX6_shifted_32 : decode cX6_shifted 32 = .ok (.imul, 1) := by decide +kernel
theorem dX6_shifted_33 : decode cX6_shifted 33 = .ok (.iconst 3, 1) := by decide +kernel
theorem dX6_shifted_34 : decode cX6_shifted 34 = .ok (.iadd, 1) := by decide +kernel
theorem dX6_shifted_35 : decode cX6_shifted 35 = .ok (.iload_n 2, 1) := by decide +kernel
theorem dX6_shifted_36 : decode cX6_shifted 36 = .ok (.iconst 3, 1) := by decide +kernel
theorem dX6_shifted_37 : decode cX6_shifted 37 = .ok (.if_icmp .ge 28, 3) := by decide +kernel
theorem dX6_shifted_40 : decode cX6_shifted 40 = .ok (.aload_n 0, 1) := by decide +kernel
theorem dX6_shifted_41 : decode cX6_shifted 41 = .ok (.iload_n 3, 1) := by decide +kernel
theorem dX6_shifted_42 : decode cX6_shifted 42 = .ok (.iconst 0, 1) := by decide +kernel
theorem dX6_shifted_43 : decode cX6_shifted 43 = .ok (.invokevirtual 141, 3) := by decide +kernel
theorem dX6_shifted_46 : decode cX6_shifted 46 = .ok (.ifCond .eq 19, 3) := by decide +kernel
theorem dX6_shifted_49 : decode cX6_shifted 49 = .ok (.aload_n 0, 1) := by decide +kernel
theorem dX6_shifted_50 : decode cX6_shifted 50 = .ok (.getfield 47, 3) := by decide +kernel
theorem dX6_shifted_53 : decode cX6_shifted 53 = .ok (.iload_n 3, 1) := by decide +kernel
theorem dX6_shifted_54 : decode cX6_shifted 54 = .ok (.iaload, 1) := by decide +kernel
theorem dX6_shifted_55 : decode cX6_shifted 55 = .ok (.iload_n 2, 1) := by decide +kernel
theorem dX6_shifted_56 : decode cX6_shifted 56 = .ok (.iconst 1, 1) := by decide +kernel
theorem dX6_shifted_57 : decode cX6_shifted 57 = .ok (.iadd, 1) := by decide +kernel
theorem dX6_shifted_58 : decode cX6_shifted 58 = .ok (.if_icmp .ne 7, 3) := by decide +kernel
theorem dX6_shifted_61 : decode cX6_shifted 61 = .ok (.iconst 1, 1) := by decide +kernel
theorem dX6_shifted_62 : decode cX6_shifted 62 = .ok (.goto 14, 3) := by decide +kernel
theorem dX6_shifted_65 : decode cX6_shifted 65 = .ok (.aload_n 0, 1) := by decide +kernel
theorem dX6_shifted_66 : decode cX6_shifted 66 = .ok (.getfield 38, 3) := by decide +kernel
theorem dX6_shifted_69 : decode cX6_shifted 69 = .ok (.bipush 6, 2) := by decide +kernel
theorem dX6_shifted_71 : decode cX6_shifted 71 = .ok (.iload_n 3, 1) := by decide +kernel
theorem dX6_shifted_72 : decode cX6_shifted 72 = .ok (.imul, 1) := by decide +kernel
theorem dX6_shifted_73 : decode cX6_shifted 73 = .ok (.iconst 3, 1) := by decide +kernel
theorem dX6_shifted_74 : decode cX6_shifted 74 = .ok (.iadd, 1) := by decide +kernel
theorem dX6_shifted_75 : decode cX6_shifted 75 = .ok (.iaload, 1) := by decide +kernel
theorem dX6_shifted_76 : decode cX6_shifted 76 = .ok (.iastore, 1) := by decide +kernel
theorem dX6_shifted_77 : decode cX6_shifted 77 = .ok (.iinc 3 1, 3) := by decide +kernel
theorem dX6_shifted_80 : decode cX6_shifted 80 = .ok (.goto (-63), 3) := by decide +kernel
theorem dX6_shifted_83 : decode cX6_shifted 83 = .ok (.iload_n 2, 1) := by decide +kernel
theorem dX6_shifted_84 : decode cX6_shifted 84 = .ok (.iload_n 1, 1) := by decide +kernel
theorem dX6_shifted_85 : decode cX6_shifted 85 = .ok (.if_icmp .ge 7, 3) := by decide +kernel
theorem dX6_shifted_88 : decode cX6_shifted 88 = .ok (.aload_n 0, 1) := by decide +kernel
theorem dX6_shifted_89 : decode cX6_shifted 89 = .ok (.invokevirtual 303, 3) := by decide +kernel
theorem dX6_shifted_92 : decode cX6_shifted 92 = .ok (.iinc 2 1, 3) := by decide +kernel
theorem dX6_shifted_95 : decode cX6_shifted 95 = .ok (.goto (-89), 3) := by decide +kernel
theorem dX6_shifted_98 : decode cX6_shifted 98 = .ok (.aload_n 0, 1) := by decide +kernel
theorem dX6_shifted_99 : decode cX6_shifted 99 = .ok (.aload_n 0, 1) := by decide +kernel
theorem dX6_shifted_100 : decode cX6_shifted 100 = .ok (.iconst 3, 1) := by decide +kernel
theorem dX6_shifted_101 : decode cX6_shifted 101 = .ok (.invokevirtual 294, 3) := by decide +kernel
theorem dX6_shifted_104 : decode cX6_shifted 104 = .ok (.putfield 322, 3) := by decide +kernel
theorem dX6_shifted_107 : decode cX6_shifted 107 = .ok (.aload_n 0, 1) := by decide +kernel
theorem dX6_shifted_108 : decode cX6_shifted 108 = .ok (.aload_n 0, 1) := by decide +kernel
theorem dX6_shifted_109 : decode cX6_shifted 109 = .ok (.iconst 2, 1) := by decide +kernel
theorem dX6_shifted_110 : decode cX6_shifted 110 = .ok (.invokevirtual 294, 3) := by decide +kernel
theorem dX6_shifted_113 : decode cX6_shifted 113 = .ok (.putfield 325, 3) := by decide +kernel
theorem dX6_shifted_116 : decode cX6_shifted 116 = .ok (.aload_n 0, 1) := by decide +kernel
theorem dX6_shifted_117 : decode cX6_shifted 117 = .ok (.invokevirtual 316, 3) := by decide +kernel
theorem dX6_shifted_120 : decode cX6_shifted 120 = .ok (.return_, 1) := by decide +kernel
theorem dX6_shifts_0 : decode cX6_shifts 0 = .ok (.iload_n 1, 1) := by decide +kernel
theorem dX6_shifts_1 : decode cX6_shifts 1 = .ok (.i2l, 1) := by decide +kernel
theorem dX6_shifts_2 : decode cX6_shifts 2 = .ok (.lconst 0, 1) := by decide +kernel
theorem dX6_shifts_3 : decode cX6_shifts 3 = .ok (.ldc2_w 127, 3) := by decide +kernel
theorem dX6_shifts_6 : decode cX6_shifts 6 = .ok (.invokestatic 86, 3) := by decide +kernel
theorem dX6_shifts_9 : decode cX6_shifts 9 = .ok (.ifCond .eq 15, 3) := by decide +kernel
theorem dX6_shifts_12 : decode cX6_shifts 12 = .ok (.iload_n 2, 1) := by decide +kernel
theorem dX6_shifts_13 : decode cX6_shifts 13 = .ok (.i2l, 1) := by decide +kernel
theorem dX6_shifts_14 : decode cX6_shifts 14 = .ok (.lconst 0, 1) := by decide +kernel
theorem dX6_shifts_15 : decode cX6_shifts 15 = .ok (.ldc2_w 328, 3) := by decide +kernel
theorem dX6_shifts_18 : decode cX6_shifts 18 = .ok (.invokestatic 86, 3) := by decide +kernel
theorem dX6_shifts_21 : decode cX6_shifts 21 = .ok (.ifCond .ne 6, 3) := by decide +kernel
theorem dX6_shifts_24 : decode cX6_shifts 24 = .ok (.bipush (-2), 2) := by decide +kernel
theorem dX6_shifts_26 : decode cX6_shifts 26 = .ok (.ireturn, 1) := by decide +kernel
theorem dX6_shifts_27 : decode cX6_shifts 27 = .ok (.iconst 1, 1) := by decide +kernel
theorem dX6_shifts_28 : decode cX6_shifts 28 = .ok (.iconst 2, 1) := by decide +kernel
theorem dX6_shifts_29 : decode cX6_shifts 29 = .ok (.aload_n 0, 1) := by decide +kernel
theorem dX6_shifts_30 : decode cX6_shifts 30 = .ok (.iconst 0, 1) := by decide +kernel
theorem dX6_shifts_31 : decode cX6_shifts 31 = .ok (.invokevirtual 294, 3) := by decide +kernel
theorem dX6_shifts_34 : decode cX6_shifts 34 = .ok (.imul, 1) := by decide +kernel
theorem dX6_shifts_35 : decode cX6_shifts 35 = .ok (.ishl, 1) := by decide +kernel
theorem dX6_shifts_36 : decode cX6_shifts 36 = .ok (.istore_n 3, 1) := by decide +kernel
theorem dX6_shifts_37 : decode cX6_shifts 37 = .ok (.iconst 0, 1) := by decide +kernel
theorem dX6_shifts_38 : decode cX6_shifts 38 = .ok (.istore 4, 2) := by decide +kernel
theorem dX6_shifts_40 : decode cX6_shifts 40 = .ok (.iconst (-1), 1) := by decide +kernel
theorem dX6_shifts_41 : decode cX6_shifts 41 = .ok (.istore 5, 2) := by decide +kernel
theorem dX6_shifts_43 : decode cX6_shifts 43 = .ok (.iconst 0, 1) := by decide +kernel
theorem dX6_shifts_44 : decode cX6_shifts 44 = .ok (.istore 6, 2) := by decide +kernel
theorem dX6_shifts_46 : decode cX6_shifts 46 = .ok (.iconst 0, 1) := by decide +kernel
theorem dX6_shifts_47 : decode cX6_shifts 47 = .ok (.istore 7, 2) := by decide +kernel
theorem dX6_shifts_49 : decode cX6_shifts 49 = .ok (.iload 7, 2) := by decide +kernel
theorem dX6_shifts_51 : decode cX6_shifts 51 = .ok (.iload_n 3, 1) := by decide +kernel
theorem dX6_shifts_52 : decode cX6_shifts 52 = .ok (.if_icmp .ge 147, 3) := by decide +kernel
theorem dX6_shifts_55 : decode cX6_shifts 55 = .ok (.iconst 0, 1) := by decide +kernel
theorem dX6_shifts_56 : decode cX6_shifts 56 = .ok (.istore 8, 2) := by decide +kernel
theorem dX6_shifts_58 : decode cX6_shifts 58 = .ok (.iload_n 3, 1) := by decide +kernel
theorem dX6_shifts_59 : decode cX6_shifts 59 = .ok (.istore 9, 2) := by decide +kernel
theorem dX6_shifts_61 : decode cX6_shifts 61 = .ok (.iconst 0, 1) := by decide +kernel
theorem dX6_shifts_62 : decode cX6_shifts 62 = .ok (.istore 10, 2) := by decide +kernel
theorem dX6_shifts_64 : decode cX6_shifts 64 = .ok (.iload 10, 2) := by decide +kernel
theorem dX6_shifts_66 : decode cX6_shifts 66 = .ok (.aload_n 0, 1) := by decide +kernel
theorem dX6_shifts_67 : decode cX6_shifts 67 = .ok (.getfield 83, 3) := by decide +kernel
theorem dX6_shifts_70 : decode cX6_shifts 70 = .ok (.if_icmp .ge 75, 3) := by decide +kernel
theorem dX6_shifts_73 : decode cX6_shifts 73 = .ok (.aload_n 0, 1) := by decide +kernel
theorem dX6_shifts_74 : decode cX6_shifts 74 = .ok (.iload 10, 2) := by decide +kernel
theorem dX6_shifts_76 : decode cX6_shifts 76 = .ok (.iconst 0, 1) := by decide +kernel
theorem dX6_shifts_77 : decode cX6_shifts 77 = .ok (.invokevirtual 141, 3) := by decide +kernel
theorem dX6_shifts_80 : decode cX6_shifts 80 = .ok (.ifCond .eq 10, 3) := by decide +kernel
theorem dX6_shifts_83 : decode cX6_shifts 83 = .ok (.iload 9, 2) := by decide +kernel
theorem dX6_shifts_85 : decode cX6_shifts 85 = .ok (.iconst 4, 1) := by decide +kernel
theorem dX6_shifts_86 : decode cX6_shifts 86 = .ok (.idiv, 1) := by decide +kernel
theorem dX6_shifts_87 : decode cX6_shifts 87 = .ok (.goto 5, 3) := by decide +kernel
theorem dX6_shifts_90 : decode cX6_shifts 90 = .ok (.iload 9, 2) := by decide +kernel
theorem dX6_shifts_92 : decode cX6_shifts 92 = .ok (.istore 9, 2) := by decide +kernel
theorem dX6_shifts_94 : decode cX6_shifts 94 = .ok (.aload_n 0, 1) := by decide +kernel
theorem dX6_shifts_95 : decode cX6_shifts 95 = .ok (.getfield 47, 3) := by decide +kernel
theorem dX6_shifts_98 : decode cX6_shifts 98 = .ok (.iload 10, 2) := by decide +kernel
theorem dX6_shifts_100 : decode cX6_shifts 100 = .ok (.aload_n 0, 1) := by decide +kernel
theorem dX6_shifts_101 : decode cX6_shifts 101 = .ok (.iload 10, 2) := by decide +kernel
theorem dX6_shifts_103 : decode cX6_shifts 103 = .ok (.iconst 0, 1) := by decide +kernel
theorem dX6_shifts_104 : decode cX6_shifts 104 = .ok (.invokevirtual 141, 3) := by decide +kernel
theorem dX6_shifts_107 : decode cX6_shifts 107 = .ok (.ifCond .eq 15, 3) := by decide +kernel
theorem dX6_shifts_110 : decode cX6_shifts 110 = .ok (.iload 7, 2) := by decide +kernel
theorem dX6_shifts_112 : decode cX6_shifts 112 = .ok (.iload 9, 2) := by decide +kernel
theorem dX6_shifts_114 : decode cX6_shifts 114 = .ok (.idiv, 1) := by decide +kernel
theorem dX6_shifts_115 : decode cX6_shifts 115 = .ok (.iconst 4, 1) := by decide +kernel
theorem dX6_shifts_116 : decode cX6_shifts 116 = .ok (.irem, 1) := by decide +kernel
theorem dX6_shifts_117 : decode cX6_shifts 117 = .ok (.iconst 1, 1) := by decide +kernel
theorem dX6_shifts_118 : decode cX6_shifts 118 = .ok (.iadd, 1) := by decide +kernel
theorem dX6_shifts_119 : decode cX6_shifts 119 = .ok (.goto 4, 3) := by decide +kernel
theorem dX6_shifts_122 : decode cX6_shifts 122 = .ok (.iconst 0, 1) := by decide +kernel
theorem dX6_shifts_123 : decode cX6_shifts 123 = .ok (.iastore, 1) := by decide +kernel
theorem dX6_shifts_124 : decode cX6_shifts 124 = .ok (.bipush 10, 2) := by decide +kernel
theorem dX6_shifts_126 : decode cX6_shifts 126 = .ok (.iload 8, 2) := by decide +kernel
theorem dX6_shifts_128 : decode cX6_shifts 128 = .ok (.imul, 1) := by decide +kernel
theorem dX6_shifts_129 : decode cX6_shifts 129 = .ok (.aload_n 0, 1) := by decide +kernel
theorem dX6_shifts_130 : decode cX6_shifts 130 = .ok (.getfield 47, 3) := by decide +kernel
theorem dX6_shifts_133 : decode cX6_shifts 133 = .ok (.iload 10, 2) := by decide +kernel
theorem dX6_shifts_135 : decode cX6_shifts 135 = .ok (.iaload, 1) := by decide +kernel
theorem dX6_shifts_136 : decode cX6_shifts 136 = .ok (.iadd, 1) := by decide +kernel
theorem dX6_shifts_137 : decode cX6_shifts 137 = .ok (.istore 8, 2) := by decide +kernel
theorem dX6_shifts_139 : decode cX6_shifts 139 = .ok (.iinc 10 1, 3) := by decide +kernel
theorem dX6_shifts_142 : decode cX6_shifts 142 = .ok (.goto (-78), 3) := by decide +kernel
theorem dX6_shifts_145 : decode cX6_shifts 145 = .ok (.aload_n 0, 1) := by decide +kernel
theorem dX6_shifts_146 : decode cX6_shifts 146 = .ok (.iload_n 1, 1) := by decide +kernel
theorem dX6_shifts_147 : decode cX6_shifts 147 = .ok (.invokevirtual 330, 3) := by decide +kernel
theorem dX6_shifts_150 : decode cX6_shifts 150 = .ok (.aload_n 0, 1) := by decide +kernel
theorem dX6_shifts_151 : decode cX6_shifts 151 = .ok (.getfield 322, 3) := by decide +kernel
theorem dX6_shifts_154 : decode cX6_shifts 154 = .ok (.iload 5, 2) := by decide +kernel
theorem dX6_shifts_156 : decode cX6_shifts 156 = .ok (.if_icmp .gt 21, 3) := by decide +kernel
theorem dX6_shifts_159 : decode cX6_shifts 159 = .ok (.aload_n 0, 1) := by decide +kernel
theorem dX6_shifts_160 : decode cX6_shifts 160 = .ok (.getfield 322, 3) := by decide +kernel
theorem dX6_shifts_163 : decode cX6_shifts 163 = .ok (.iload 5, 2) := by decide +kernel
theorem dX6_shifts_165 : decode cX6_shifts 165 = .ok (.if_icmp .ne 28, 3) := by decide +kernel
theorem dX6_shifts_168 : decode cX6_shifts 168 = .ok (.aload_n 0, 1) := by decide +kernel
theorem dX6_shifts_169 : decode cX6_shifts 169 = .ok (.getfield 325, 3) := by decide +kernel
theorem dX6_shifts_172 : decode cX6_shifts 172 = .ok (.iload 6, 2) := by decide +kernel
theorem dX6_shifts_174 : decode cX6_shifts 174 = .ok (.if_icmp .ge 19, 3) := by decide +kernel
theorem dX6_shifts_177 : decode cX6_shifts 177 = .ok (.iload 8, 2) := by decide +kernel
theorem dX6_shifts_179 : decode cX6_shifts 179 = .ok (.istore 4, 2) := by decide +kernel
theorem dX6_shifts_181 : decode cX6_shifts 181 = .ok (.aload_n 0, 1) := by decide +kernel
theorem dX6_shifts_182 : decode cX6_shifts 182 = .ok (.getfield 322, 3) := by decide +kernel
theorem dX6_shifts_185 : decode cX6_shifts 185 = .ok (.istore 5, 2) := by decide +kernel
theorem dX6_shifts_187 : decode cX6_shifts 187 = .ok (.aload_n 0, 1) := by decide +kernel
theorem dX6_shifts_188 : decode cX6_shifts 188 = .ok (.getfield 325, 3) := by decide +kernel
theorem dX6_shifts_191 : decode cX6_shifts 191 = .ok (.istore 6, 2) := by decide +kernel
theorem dX6_shifts_193 : decode cX6_shifts 193 = .ok (.iinc 7 1, 3) := by decide +kernel
theorem dX6_shifts_196 : decode cX6_shifts 196 = .ok (.goto (-147), 3) := by decide +kernel
theorem dX6_shifts_199 : decode cX6_shifts 199 = .ok (.iload_n 2, 1) := by decide +kernel
theorem dX6_shifts_200 : decode cX6_shifts 200 = .ok (.ifCond .ne 8, 3) := by decide +kernel
theorem dX6_shifts_203 : decode cX6_shifts 203 = .ok (.iload 4, 2) := by decide +kernel
theorem dX6_shifts_205 : decode cX6_shifts 205 = .ok (.goto 15, 3) := by decide +kernel
theorem dX6_shifts_208 : decode cX6_shifts 208 = .ok (.iload_n 2, 1) := by decide +kernel
theorem dX6_shifts_209 : decode cX6_shifts 209 = .ok (.iconst 1, 1) := by decide +kernel
theorem dX6_shifts_210 : decode cX6_shifts 210 = .ok (.if_icmp .ne 8, 3) := by decide +kernel
theorem dX6_shifts_213 : decode cX6_shifts 213 = .ok (.iload 5, 2) := by decide +kernel
theorem dX6_shifts_215 : decode cX6_shifts 215 = .ok (.goto 5, 3) := by decide +kernel
theorem dX6_shifts_218 : decode cX6_shifts 218 = .ok (.iload 6, 2) := by decide +kernel
theorem dX6_shifts_220 : decode cX6_shifts 220 = .ok (.ireturn, 1) := by decide +kernel
theorem dX6_stands_0 : decode cX6_stands 0 = .ok (.iload_n 1, 1) := by decide +kernel
theorem dX6_stands_1 : decode cX6_stands 1 = .ok (.i2l, 1) := by decide +kernel
theorem dX6_stands_2 : decode cX6_stands 2 = .ok (.lconst 1, 1) := by decide +kernel
theorem dX6_stands_3 : decode cX6_stands 3 = .ok (.ldc2_w 333, 3) := by decide +kernel
theorem dX6_stands_6 : decode cX6_stands 6 = .ok (.invokestatic 86, 3) := by decide +kernel
theorem dX6_stands_9 : decode cX6_stands 9 = .ok (.ifCond .ne 6, 3) := by decide +kernel
theorem dX6_stands_12 : decode cX6_stands 12 = .ok (.bipush (-2), 2) := by decide +kernel
theorem dX6_stands_14 : decode cX6_stands 14 = .ok (.ireturn, 1) := by decide +kernel
theorem dX6_stands_15 : decode cX6_stands 15 = .ok (.aload_n 0, 1) := by decide +kernel
theorem dX6_stands_16 : decode cX6_stands 16 = .ok (.getfield 32, 3) := by decide +kernel
theorem dX6_stands_19 : decode cX6_stands 19 = .ok (.istore_n 2, 1) := by decide +kernel
theorem dX6_stands_20 : decode cX6_stands 20 = .ok (.aload_n 0, 1) := by decide +kernel
theorem dX6_stands_21 : decode cX6_stands 21 = .ok (.iconst 2, 1) := by decide +kernel
theorem dX6_stands_22 : decode cX6_stands 22 = .ok (.invokevirtual 294, 3) := by decide +kernel
theorem dX6_stands_25 : decode cX6_stands 25 = .ok (.istore_n 3, 1) := by decide +kernel
theorem dX6_stands_26 : decode cX6_stands 26 = .ok (.iconst (-1), 1) := by decide +kernel
theorem dX6_stands_27 : decode cX6_stands 27 = .ok (.istore 4, 2) := by decide +kernel
theorem dX6_stands_29 : decode cX6_stands 29 = .ok (.bipush 99, 2) := by decide +kernel
theorem dX6_stands_31 : decode cX6_stands 31 = .ok (.istore 5, 2) := by decide +kernel
theorem dX6_stands_33 : decode cX6_stands 33 = .ok (.iload 5, 2) := by decide +kernel
theorem dX6_stands_35 : decode cX6_stands 35 = .ok (.ifCond .lt 38, 3) := by decide +kernel
theorem dX6_stands_38 : decode cX6_stands 38 = .ok (.iload 4, 2) := by decide +kernel
theorem dX6_stands_40 : decode cX6_stands 40 = .ok (.iconst (-1), 1) := by decide +kernel
theorem dX6_stands_41 : decode cX6_stands 41 = .ok (.if_icmp .ne 32, 3) := by decide +kernel
theorem dX6_stands_44 : decode cX6_stands 44 = .ok (.aload_n 0, 1) := by decide +kernel
theorem dX6_stands_45 : decode cX6_stands 45 = .ok (.iload 5, 2) := by decide +kernel
theorem dX6_stands_47 : decode cX6_stands 47 = .ok (.putfield 32, 3) := by decide +kernel
theorem dX6_stands_50 : decode cX6_stands 50 = .ok (.aload_n 0, 1) := by decide +kernel
theorem dX6_stands_51 : decode cX6_stands 51 = .ok (.iload_n 1, 1) := by decide +kernel
theorem dX6_stands_52 : decode cX6_stands 52 = .ok (.invokevirtual 335, 3) := by decide +kernel
theorem dX6_stands_55 : decode cX6_stands 55 = .ok (.iload_n 3, 1) := by decide +kernel
theorem dX6_stands_56 : decode cX6_stands 56 = .ok (.if_icmp .gt 8, 3) := by decide +kernel
theorem dX6_stands_59 : decode cX6_stands 59 = .ok (.iload 5, 2) := by decide +kernel
theorem dX6_stands_61 : decode cX6_stands 61 = .ok (.goto 4, 3) := by decide +kernel
theorem dX6_stands_64 : decode cX6_stands 64 = .ok (.iconst (-1), 1) := by decide +kernel
theorem dX6_stands_65 : decode cX6_stands 65 = .ok (.istore 4, 2) := by decide +kernel
theorem dX6_stands_67 : decode cX6_stands 67 = .ok (.iinc 5 (-1), 3) := by decide +kernel
theorem dX6_stands_70 : decode cX6_stands 70 = .ok (.goto (-37), 3) := by decide +kernel
theorem dX6_stands_73 : decode cX6_stands 73 = .ok (.aload_n 0, 1) := by decide +kernel
theorem dX6_stands_74 : decode cX6_stands 74 = .ok (.iload_n 2, 1) := by decide +kernel
theorem dX6_stands_75 : decode cX6_stands 75 = .ok (.putfield 32, 3) := by decide +kernel
theorem dX6_stands_78 : decode cX6_stands 78 = .ok (.iload 4, 2) := by decide +kernel
theorem dX6_stands_80 : decode cX6_stands 80 = .ok (.ireturn, 1) := by decide +kernel
theorem dX6_leave_0 : decode cX6_leave 0 = .ok (.iload_n 1, 1) := by decide +kernel
theorem dX6_leave_1 : decode cX6_leave 1 = .ok (.i2l, 1) := by decide +kernel
theorem dX6_leave_2 : decode cX6_leave 2 = .ok (.lconst 1, 1) := by decide +kernel
theorem dX6_leave_3 : decode cX6_leave 3 = .ok (.ldc2_w 333, 3) := by decide +kernel
theorem dX6_leave_6 : decode cX6_leave 6 = .ok (.invokestatic 86, 3) := by decide +kernel
theorem dX6_leave_9 : decode cX6_leave 9 = .ok (.ifCond .eq 13, 3) := by decide +kernel
theorem dX6_leave_12 : decode cX6_leave 12 = .ok (.iload_n 2, 1) := by decide +kernel
theorem dX6_leave_13 : decode cX6_leave 13 = .ok (.i2l, 1) := by decide +kernel
theorem dX6_leave_14 : decode cX6_leave 14 = .ok (.lconst 0, 1) := by decide +kernel
theorem dX6_leave_15 : decode cX6_leave 15 = .ok (.lconst 1, 1) := by decide +kernel
theorem dX6_leave_16 : decode cX6_leave 16 = .ok (.invokestatic 86, 3) := by decide +kernel
theorem dX6_leave_19 : decode cX6_leave 19 = .ok (.ifCond .ne 6, 3) := by decide +kernel
theorem dX6_leave_22 : decode cX6_leave 22 = .ok (.bipush (-2), 2) := by decide +kernel
theorem dX6_leave_24 : decode cX6_leave 24 = .ok (.ireturn, 1) := by decide +kernel
theorem dX6_leave_25 : decode cX6_leave 25 = .ok (.iconst (-1), 1) := by decide +kernel
theorem dX6_leave_26 : decode cX6_leave 26 = .ok (.istore_n 3, 1) := by decide +kernel
theorem dX6_leave_27 : decode cX6_leave 27 = .ok (.aload_n 0, 1) := by decide +kernel
theorem dX6_leave_28 : decode cX6_leave 28 = .ok (.iload_n 1, 1) := by decide +kernel
theorem dX6_leave_29 : decode cX6_leave 29 = .ok (.invokevirtual 335, 3) := by decide +kernel
theorem dX6_leave_32 : decode cX6_leave 32 = .ok (.istore 4, 2) := by decide +kernel
theorem dX6_leave_34 : decode cX6_leave 34 = .ok (.iconst 0, 1) := by decide +kernel
theorem dX6_leave_35 : decode cX6_leave 35 = .ok (.istore 5, 2) := by decide +kernel
theorem dX6_leave_37 : decode cX6_leave 37 = .ok (.iload 5, 2) := by decide +kernel
theorem dX6_leave_39 : decode cX6_leave 39 = .ok (.aload_n 0, 1) := by decide +kernel
theorem dX6_leave_40 : decode cX6_leave 40 = .ok (.getfield 83, 3) := by decide +kernel
theorem dX6_leave_43 : decode cX6_leave 43 = .ok (.if_icmp .ge 66, 3) := by decide +kernel
theorem dX6_leave_46 : decode cX6_leave 46 = .ok (.aload_n 0, 1) := by decide +kernel
theorem dX6_leave_47 : decode cX6_leave 47 = .ok (.iload 5, 2) := by decide +kernel
theorem dX6_leave_49 : decode cX6_leave 49 = .ok (.iconst 1, 1) := by decide +kernel
theorem dX6_leave_50 : decode cX6_leave 50 = .ok (.invokevirtual 141, 3) := by decide +kernel
theorem dX6_leave_53 : decode cX6_leave 53 = .ok (.ifCond .eq 50, 3) := by decide +kernel
theorem dX6_leave_56 : decode cX6_leave 56 = .ok (.aload_n 0, 1) := by decide +kernel
theorem dX6_leave_57 : decode cX6_leave 57 = .ok (.getfield 38, 3) := by decide +kernel
theorem dX6_leave_60 : decode cX6_leave 60 = .ok (.bipush 6, 2) := by decide +kernel
theorem dX6_leave_62 : decode cX6_leave 62 = .ok (.iload 5, 2) := by decide +kernel
theorem dX6_leave_64 : decode cX6_leave 64 = .ok (.imul, 1) := by decide +kernel
theorem dX6_leave_65 : decode cX6_leave 65 = .ok (.iconst 3, 1) := by decide +kernel
theorem dX6_leave_66 : decode cX6_leave 66 = .ok (.iadd, 1) := by decide +kernel
theorem dX6_leave_67 : decode cX6_leave 67 = .ok (.iconst 0, 1) := by decide +kernel
theorem dX6_leave_68 : decode cX6_leave 68 = .ok (.iastore, 1) := by decide +kernel
theorem dX6_leave_69 : decode cX6_leave 69 = .ok (.aload_n 0, 1) := by decide +kernel
theorem dX6_leave_70 : decode cX6_leave 70 = .ok (.iload_n 1, 1) := by decide +kernel
theorem dX6_leave_71 : decode cX6_leave 71 = .ok (.invokevirtual 335, 3) := by decide +kernel
theorem dX6_leave_74 : decode cX6_leave 74 = .ok (.istore 6, 2) := by decide +kernel
theorem dX6_leave_76 : decode cX6_leave 76 = .ok (.aload_n 0, 1) := by decide +kernel
theorem dX6_leave_77 : decode cX6_leave 77 = .ok (.getfield 38, 3) := by decide +kernel
theorem dX6_leave_80 : decode cX6_leave 80 = .ok (.bipush 6, 2) := by decide +kernel
theorem dX6_leave_82 : decode cX6_leave 82 = .ok (.iload 5, 2) := by decide +kernel
theorem dX6_leave_84 : decode cX6_leave 84 = .ok (.imul, 1) := by decide +kernel
theorem dX6_leave_85 : decode cX6_leave 85 = .ok (.iconst 3, 1) := by decide +kernel
theorem dX6_leave_86 : decode cX6_leave 86 = .ok (.iadd, 1) := by decide +kernel
theorem dX6_leave_87 : decode cX6_leave 87 = .ok (.iconst 1, 1) := by decide +kernel
theorem dX6_leave_88 : decode cX6_leave 88 = .ok (.iastore, 1) := by decide +kernel
theorem dX6_leave_89 : decode cX6_leave 89 = .ok (.iload 6, 2) := by decide +kernel
theorem dX6_leave_91 : decode cX6_leave 91 = .ok (.iload 4, 2) := by decide +kernel
theorem dX6_leave_93 : decode cX6_leave 93 = .ok (.if_icmp .ge 10, 3) := by decide +kernel
theorem dX6_leave_96 : decode cX6_leave 96 = .ok (.iload 5, 2) := by decide +kernel
theorem dX6_leave_98 : decode cX6_leave 98 = .ok (.istore_n 3, 1) := by decide +kernel
theorem dX6_leave_99 : decode cX6_leave 99 = .ok (.iload 6, 2) := by decide +kernel
theorem dX6_leave_101 : decode cX6_leave 101 = .ok (.istore 4, 2) := by decide +kernel
theorem dX6_leave_103 : decode cX6_leave 103 = .ok (.iinc 5 1, 3) := by decide +kernel
theorem dX6_leave_106 : decode cX6_leave 106 = .ok (.goto (-69), 3) := by decide +kernel
theorem dX6_leave_109 : decode cX6_leave 109 = .ok (.iload_n 2, 1) := by decide +kernel
theorem dX6_leave_110 : decode cX6_leave 110 = .ok (.ifCond .ne 7, 3) := by decide +kernel
theorem dX6_leave_113 : decode cX6_leave 113 = .ok (.iload_n 3, 1) := by decide +kernel
theorem dX6_leave_114 : decode cX6_leave 114 = .ok (.goto 5, 3) := by decide +kernel
theorem dX6_leave_117 : decode cX6_leave 117 = .ok (.iload 4, 2) := by decide +kernel
theorem dX6_leave_119 : decode cX6_leave 119 = .ok (.ireturn, 1) := by decide +kernel
theorem dX6_lowest_0 : decode cX6_lowest 0 = .ok (.lload_n 0, 1) := by decide +kernel
theorem dX6_lowest_1 : decode cX6_lowest 1 = .ok (.lstore 5, 2) := by decide +kernel
theorem dX6_lowest_3 : decode cX6_lowest 3 = .ok (.lload_n 2, 1) := by decide +kernel
theorem dX6_lowest_4 : decode cX6_lowest 4 = .ok (.lstore 7, 2) := by decide +kernel
theorem dX6_lowest_6 : decode cX6_lowest 6 = .ok (.lload 7, 2) := by decide +kernel
theorem dX6_lowest_8 : decode cX6_lowest 8 = .ok (.lconst 0, 1) := by decide +kernel
theorem dX6_lowest_9 : decode cX6_lowest 9 = .ok (.lcmp, 1) := by decide +kernel
theorem dX6_lowest_10 : decode cX6_lowest 10 = .ok (.ifCond .eq 21, 3) := by decide +kernel
theorem dX6_lowest_13 : decode cX6_lowest 13 = .ok (.lload 5, 2) := by decide +kernel
theorem dX6_lowest_15 : decode cX6_lowest 15 = .ok (.lload 7, 2) := by decide +kernel
theorem dX6_lowest_17 : decode cX6_lowest 17 = .ok (.lrem, 1) := by decide +kernel
theorem dX6_lowest_18 : decode cX6_lowest 18 = .ok (.lstore 9, 2) := by decide +kernel
theorem dX6_lowest_20 : decode cX6_lowest 20 = .ok (.lload 7, 2) := by decide +kernel
theorem dX6_lowest_22 : decode cX6_lowest 22 = .ok (.lstore 5, 2) := by decide +kernel
theorem dX6_lowest_24 : decode cX6_lowest 24 = .ok (.lload 9, 2) := by decide +kernel
theorem dX6_lowest_26 : decode cX6_lowest 26 = .ok (.lstore 7, 2) := by decide +kernel
theorem dX6_lowest_28 : decode cX6_lowest 28 = .ok (.goto (-22), 3) := by decide +kernel
theorem dX6_lowest_31 : decode cX6_lowest 31 = .ok (.iload 4, 2) := by decide +kernel
theorem dX6_lowest_33 : decode cX6_lowest 33 = .ok (.ifCond .ne 10, 3) := by decide +kernel
theorem dX6_lowest_36 : decode cX6_lowest 36 = .ok (.lload_n 0, 1) := by decide +kernel
theorem dX6_lowest_37 : decode cX6_lowest 37 = .ok (.lload 5, 2) := by decide +kernel
theorem dX6_lowest_39 : decode cX6_lowest 39 = .ok (.ldiv, 1) := by decide +kernel
theorem dX6_lowest_40 : decode cX6_lowest 40 = .ok (.goto 7, 3) := by decide +kernel
theorem dX6_lowest_43 : decode cX6_lowest 43 = .ok (.lload_n 2, 1) := by decide +kernel
theorem dX6_lowest_44 : decode cX6_lowest 44 = .ok (.lload 5, 2) := by decide +kernel
theorem dX6_lowest_46 : decode cX6_lowest 46 = .ok (.ldiv, 1) := by decide +kernel
theorem dX6_lowest_47 : decode cX6_lowest 47 = .ok (.lreturn, 1) := by decide +kernel
theorem dX6_mean_0 : decode cX6_mean 0 = .ok (.iconst 0, 1) := by decide +kernel
theorem dX6_mean_1 : decode cX6_mean 1 = .ok (.istore_n 2, 1) := by decide +kernel
theorem dX6_mean_2 : decode cX6_mean 2 = .ok (.iconst 0, 1) := by decide +kernel
theorem dX6_mean_3 : decode cX6_mean 3 = .ok (.istore_n 3, 1) := by decide +kernel
theorem dX6_mean_4 : decode cX6_mean 4 = .ok (.iload_n 3, 1) := by decide +kernel
theorem dX6_mean_5 : decode cX6_mean 5 = .ok (.bipush 32, 2) := by decide +kernel
theorem dX6_mean_7 : decode cX6_mean 7 = .ok (.if_icmp .ge 18, 3) := by decide +kernel
theorem dX6_mean_10 : decode cX6_mean 10 = .ok (.iload_n 2, 1) := by decide +kernel
theorem dX6_mean_11 : decode cX6_mean 11 = .ok (.aload_n 0, 1) := by decide +kernel
theorem dX6_mean_12 : decode cX6_mean 12 = .ok (.getfield 35, 3) := by decide +kernel
theorem dX6_mean_15 : decode cX6_mean 15 = .ok (.iload_n 3, 1) := by decide +kernel
theorem dX6_mean_16 : decode cX6_mean 16 = .ok (.iaload, 1) := by decide +kernel
theorem dX6_mean_17 : decode cX6_mean 17 = .ok (.iadd, 1) := by decide +kernel
theorem dX6_mean_18 : decode cX6_mean 18 = .ok (.istore_n 2, 1) := by decide +kernel
theorem dX6_mean_19 : decode cX6_mean 19 = .ok (.iinc 3 1, 3) := by decide +kernel
theorem dX6_mean_22 : decode cX6_mean 22 = .ok (.goto (-18), 3) := by decide +kernel
theorem dX6_mean_25 : decode cX6_mean 25 = .ok (.iload_n 1, 1) := by decide +kernel
theorem dX6_mean_26 : decode cX6_mean 26 = .ok (.i2l, 1) := by decide +kernel
theorem dX6_mean_27 : decode cX6_mean 27 = .ok (.lconst 0, 1) := by decide +kernel
theorem dX6_mean_28 : decode cX6_mean 28 = .ok (.lconst 1, 1) := by decide +kernel
theorem dX6_mean_29 : decode cX6_mean 29 = .ok (.invokestatic 86, 3) := by decide +kernel
theorem dX6_mean_32 : decode cX6_mean 32 = .ok (.ifCond .eq 15, 3) := by decide +kernel
theorem dX6_mean_35 : decode cX6_mean 35 = .ok (.iload_n 2, 1) := by decide +kernel
theorem dX6_mean_36 : decode cX6_mean 36 = .ok (.i2l, 1) := by decide +kernel
theorem dX6_mean_37 : decode cX6_mean 37 = .ok (.ldc2_w 338, 3) := by decide +kernel
theorem dX6_mean_40 : decode cX6_mean 40 = .ok (.iload_n 1, 1) := by decide +kernel
theorem dX6_mean_41 : decode cX6_mean 41 = .ok (.invokestatic 340, 3) := by decide +kernel
theorem dX6_mean_44 : decode cX6_mean 44 = .ok (.goto 6, 3) := by decide +kernel
theorem dX6_mean_47 : decode cX6_mean 47 = .ok (.ldc2_w 344, 3) := by decide +kernel
theorem dX6_mean_50 : decode cX6_mean 50 = .ok (.lreturn, 1) := by decide +kernel
theorem dX6_firstOther_0 : decode cX6_firstOther 0 = .ok (.aload_n 0, 1) := by decide +kernel
theorem dX6_firstOther_1 : decode cX6_firstOther 1 = .ok (.invokevirtual 310, 3) := by decide +kernel
theorem dX6_firstOther_4 : decode cX6_firstOther 4 = .ok (.iconst (-1), 1) := by decide +kernel
theorem dX6_firstOther_5 : decode cX6_firstOther 5 = .ok (.istore_n 3, 1) := by decide +kernel
theorem dX6_firstOther_6 : decode cX6_firstOther 6 = .ok (.iconst 0, 1) := by decide +kernel
theorem dX6_firstOther_7 : decode cX6_firstOther 7 = .ok (.istore 4, 2) := by decide +kernel
theorem dX6_firstOther_9 : decode cX6_firstOther 9 = .ok (.iload 4, 2) := by decide +kernel
theorem dX6_firstOther_11 : decode cX6_firstOther 11 = .ok (.aload_n 0, 1) := by decide +kernel
theorem dX6_firstOther_12 : decode cX6_firstOther 12 = .ok (.getfield 66, 3) := by decide +kernel
theorem dX6_firstOther_15 : decode cX6_firstOther 15 = .ok (.iload_n 1, 1) := by decide +kernel
theorem dX6_firstOther_16 : decode cX6_firstOther 16 = .ok (.iaload, 1) := by decide +kernel
theorem dX6_firstOther_17 : decode cX6_firstOther 17 = .ok (.if_icmp .ge 45, 3) := by decide +kernel
theorem dX6_firstOther_20 : decode cX6_firstOther 20 = .ok (.iload_n 3, 1) := by decide +kernel
theorem dX6_firstOther_21 : decode cX6_firstOther 21 = .ok (.iconst (-1), 1) := by decide +kernel
theorem dX6_firstOther_22 : decode cX6_firstOther 22 = .ok (.if_icmp .ne 40, 3) := by decide +kernel
theorem dX6_firstOther_25 : decode cX6_firstOther 25 = .ok (.aload_n 0, 1) := by decide +kernel
theorem dX6_firstOther_26 : decode cX6_firstOther 26 = .ok (.invokevirtual 303, 3) := by decide +kernel
theorem dX6_firstOther_29 : decode cX6_firstOther 29 = .ok (.aload_n 0, 1) := by decide +kernel
theorem dX6_firstOther_30 : decode cX6_firstOther 30 = .ok (.iload_n 2, 1) := by decide +kernel
theorem dX6_firstOther_31 : decode cX6_firstOther 31 = .ok (.invokevirtual 147, 3) := by decide +kernel
theorem dX6_firstOther_34 : decode cX6_firstOther 34 = .ok (.aload_n 0, 1) := by decide +kernel
theorem dX6_firstOther_35 : decode cX6_firstOther 35 = .ok (.getfield 69, 3) := by decide +kernel
theorem dX6_firstOther_38 : decode cX6_firstOther 38 = .ok (.bipush 40, 2) := by decide +kernel
theorem dX6_firstOther_40 : decode cX6_firstOther 40 = .ok (.iload_n 1, 1) := by decide +kernel
theorem dX6_firstOther_41 : decode cX6_firstOther 41 = .ok (.imul, 1) := by decide +kernel
theorem dX6_firstOther_42 : decode cX6_firstOther 42 = .ok (.iload 4, 2) := by decide +kernel
theorem dX6_firstOther_44 : decode cX6_firstOther 44 = .ok (.iadd, 1) := by decide +kernel
theorem dX6_firstOther_45 : decode cX6_firstOther 45 = .ok (.iaload, 1) := by decide +kernel
theorem dX6_firstOther_46 : decode cX6_firstOther 46 = .ok (.if_icmp .ne 7, 3) := by decide +kernel
theorem dX6_firstOther_49 : decode cX6_firstOther 49 = .ok (.iconst (-1), 1) := by decide +kernel
theorem dX6_firstOther_50 : decode cX6_firstOther 50 = .ok (.goto 5, 3) := by decide +kernel
theorem dX6_firstOther_53 : decode cX6_firstOther 53 = .ok (.iload 4, 2) := by decide +kernel
theorem dX6_firstOther_55 : decode cX6_firstOther 55 = .ok (.istore_n 3, 1) := by decide +kernel
theorem dX6_firstOther_56 : decode cX6_firstOther 56 = .ok (.iinc 4 1, 3) := by decide +kernel
theorem dX6_firstOther_59 : decode cX6_firstOther 59 = .ok (.goto (-50), 3) := by decide +kernel
theorem dX6_firstOther_62 : decode cX6_firstOther 62 = .ok (.aload_n 0, 1) := by decide +kernel
theorem dX6_firstOther_63 : decode cX6_firstOther 63 = .ok (.invokevirtual 316, 3) := by decide +kernel
theorem dX6_firstOther_66 : decode cX6_firstOther 66 = .ok (.iload_n 3, 1) := by decide +kernel
theorem dX6_firstOther_67 : decode cX6_firstOther 67 = .ok (.ireturn, 1) := by decide +kernel
theorem dX6_tells_0 : decode cX6_tells 0 = .ok (.iload_n 1, 1) := by decide +kernel
theorem dX6_tells_1 : decode cX6_tells 1 = .ok (.invokestatic 346, 3) := by decide +kernel
theorem dX6_tells_4 : decode cX6_tells 4 = .ok (.ifCond .eq 23, 3) := by decide +kernel
theorem dX6_tells_7 : decode cX6_tells 7 = .ok (.aload_n 0, 1) := by decide +kernel
theorem dX6_tells_8 : decode cX6_tells 8 = .ok (.iload_n 2, 1) := by decide +kernel
theorem dX6_tells_9 : decode cX6_tells 9 = .ok (.invokevirtual 96, 3) := by decide +kernel
theorem dX6_tells_12 : decode cX6_tells 12 = .ok (.ifCond .eq 15, 3) := by decide +kernel
theorem dX6_tells_15 : decode cX6_tells 15 = .ok (.iload_n 3, 1) := by decide +kernel
theorem dX6_tells_16 : decode cX6_tells 16 = .ok (.i2l, 1) := by decide +kernel
theorem dX6_tells_17 : decode cX6_tells 17 = .ok (.lconst 0, 1) := by decide +kernel
theorem dX6_tells_18 : decode cX6_tells 18 = .ok (.ldc2_w 349, 3) := by decide +kernel
theorem dX6_tells_21 : decode cX6_tells 21 = .ok (.invokestatic 86, 3) := by decide +kernel
theorem dX6_tells_24 : decode cX6_tells 24 = .ok (.ifCond .ne 6, 3) := by decide +kernel
theorem dX6_tells_27 : decode cX6_tells 27 = .ok (.bipush (-2), 2) := by decide +kernel
theorem dX6_tells_29 : decode cX6_tells 29 = .ok (.ireturn, 1) := by decide +kernel
theorem dX6_tells_30 : decode cX6_tells 30 = .ok (.aload_n 0, 1) := by decide +kernel
theorem dX6_tells_31 : decode cX6_tells 31 = .ok (.getfield 59, 3) := by decide +kernel
theorem dX6_tells_34 : decode cX6_tells 34 = .ok (.iload_n 1, 1) := by decide +kernel
theorem dX6_tells_35 : decode cX6_tells 35 = .ok (.baload, 1) := by decide +kernel
theorem dX6_tells_36 : decode cX6_tells 36 = .ok (.ifCond .ne 6, 3) := by decide +kernel
theorem dX6_tells_39 : decode cX6_tells 39 = .ok (.bipush (-11), 2) := by decide +kernel
theorem dX6_tells_41 : decode cX6_tells 41 = .ok (.ireturn, 1) := by decide +kernel
theorem dX6_tells_42 : decode cX6_tells 42 = .ok (.aload_n 0, 1) := by decide +kernel
theorem dX6_tells_43 : decode cX6_tells 43 = .ok (.getfield 66, 3) := by decide +kernel
theorem dX6_tells_46 : decode cX6_tells 46 = .ok (.iload_n 1, 1) := by decide +kernel
theorem dX6_tells_47 : decode cX6_tells 47 = .ok (.iaload, 1) := by decide +kernel
theorem dX6_tells_48 : decode cX6_tells 48 = .ok (.bipush 20, 2) := by decide +kernel
theorem dX6_tells_50 : decode cX6_tells 50 = .ok (.if_icmp .le 6, 3) := by decide +kernel
theorem dX6_tells_53 : decode cX6_tells 53 = .ok (.bipush (-2), 2) := by decide +kernel
theorem dX6_tells_55 : decode cX6_tells 55 = .ok (.ireturn, 1) := by decide +kernel
theorem dX6_tells_56 : decode cX6_tells 56 = .ok (.iload_n 3, 1) := by decide +kernel
theorem dX6_tells_57 : decode cX6_tells 57 = .ok (.ifCond .ne 10, 3) := by decide +kernel
theorem dX6_tells_60 : decode cX6_tells 60 = .ok (.aload_n 0, 1) := by decide +kernel
theorem dX6_tells_61 : decode cX6_tells 61 = .ok (.iload_n 1, 1) := by decide +kernel
theorem dX6_tells_62 : decode cX6_tells 62 = .ok (.iload_n 2, 1) := by decide +kernel
theorem dX6_tells_63 : decode cX6_tells 63 = .ok (.invokevirtual 351, 3) := by decide +kernel
theorem dX6_tells_66 : decode cX6_tells 66 = .ok (.ireturn, 1) := by decide +kernel
theorem dX6_tells_67 : decode cX6_tells 67 = .ok (.iload_n 3, 1) := by decide +kernel
theorem dX6_tells_68 : decode cX6_tells 68 = .ok (.iconst 1, 1) := by decide +kernel
theorem dX6_tells_69 : decode cX6_tells 69 = .ok (.if_icmp .ne 8, 3) := by decide +kernel
theorem dX6_tells_72 : decode cX6_tells 72 = .ok (.bipush 7, 2) := by decide +kernel
theorem dX6_tells_74 : decode cX6_tells 74 = .ok (.goto 33, 3) := by decide +kernel
theorem dX6_tells_77 : decode cX6_tells 77 = .ok (.iload_n 3, 1) := by decide +kernel
theorem dX6_tells_78 : decode cX6_tells 78 = .ok (.iconst 2, 1) := by decide +kernel
theorem dX6_tells_79 : decode cX6_tells 79 = .ok (.if_icmp .ne 7, 3) := by decide +kernel
theorem dX6_tells_82 : decode cX6_tells 82 = .ok (.iconst 3, 1) := by decide +kernel
theorem dX6_tells_83 : decode cX6_tells 83 = .ok (.goto 24, 3) := by decide +kernel
theorem dX6_tells_86 : decode cX6_tells 86 = .ok (.iload_n 3, 1) := by decide +kernel
theorem dX6_tells_87 : decode cX6_tells 87 = .ok (.iconst 5, 1) := by decide +kernel
theorem dX6_tells_88 : decode cX6_tells 88 = .ok (.if_icmp .ge 7, 3) := by decide +kernel
theorem dX6_tells_91 : decode cX6_tells 91 = .ok (.iconst 4, 1) := by decide +kernel
theorem dX6_tells_92 : decode cX6_tells 92 = .ok (.goto 15, 3) := by decide +kernel
theorem dX6_tells_95 : decode cX6_tells 95 = .ok (.iload_n 3, 1) := by decide +kernel
theorem dX6_tells_96 : decode cX6_tells 96 = .ok (.bipush 7, 2) := by decide +kernel
theorem dX6_tells_98 : decode cX6_tells 98 = .ok (.if_icmp .ge 7, 3) := by decide +kernel
theorem dX6_tells_101 : decode cX6_tells 101 = .ok (.iconst 1, 1) := by decide +kernel
theorem dX6_tells_102 : decode cX6_tells 102 = .ok (.goto 5, 3) := by decide +kernel
theorem dX6_tells_105 : decode cX6_tells 105 = .ok (.bipush 8, 2) := by decide +kernel
theorem dX6_tells_107 : decode cX6_tells 107 = .ok (.istore 4, 2) := by decide +kernel
theorem dX6_tells_109 : decode cX6_tells 109 = .ok (.iload 4, 2) := by decide +kernel
theorem dX6_tells_111 : decode cX6_tells 111 = .ok (.bipush 8, 2) := by decide +kernel
theorem dX6_tells_113 : decode cX6_tells 113 = .ok (.if_icmp .ne 10, 3) := by decide +kernel
theorem dX6_tells_116 : decode cX6_tells 116 = .ok (.aload_n 0, 1) := by decide +kernel
theorem dX6_tells_117 : decode cX6_tells 117 = .ok (.getfield 120, 3) := by decide +kernel
theorem dX6_tells_120 : decode cX6_tells 120 = .ok (.goto 10, 3) := by decide +kernel
theorem dX6_tells_123 : decode cX6_tells 123 = .ok (.aload_n 0, 1) := by decide +kernel
theorem dX6_tells_124 : decode cX6_tells 124 = .ok (.iload_n 2, 1) := by decide +kernel
theorem dX6_tells_125 : decode cX6_tells 125 = .ok (.iload 4, 2) := by decide +kernel
theorem dX6_tells_127 : decode cX6_tells 127 = .ok (.invokevirtual 109, 3) := by decide +kernel
theorem dX6_tells_130 : decode cX6_tells 130 = .ok (.istore 5, 2) := by decide +kernel
theorem dX6_tells_132 : decode cX6_tells 132 = .ok (.iload 4, 2) := by decide +kernel
theorem dX6_tells_134 : decode cX6_tells 134 = .ok (.bipush 8, 2) := by decide +kernel
theorem dX6_tells_136 : decode cX6_tells 136 = .ok (.if_icmp .ne 12, 3) := by decide +kernel
theorem dX6_tells_139 : decode cX6_tells 139 = .ok (.aload_n 0, 1) := by decide +kernel
theorem dX6_tells_140 : decode cX6_tells 140 = .ok (.getfield 80, 3) := by decide +kernel
theorem dX6_tells_143 : decode cX6_tells 143 = .ok (.iconst 1, 1) := by decide +kernel
theorem dX6_tells_144 : decode cX6_tells 144 = .ok (.isub, 1) := by decide +kernel
theorem dX6_tells_145 : decode cX6_tells 145 = .ok (.goto 27, 3) := by decide +kernel
theorem dX6_tells_148 : decode cX6_tells 148 = .ok (.iload 4, 2) := by decide +kernel
theorem dX6_tells_150 : decode cX6_tells 150 = .ok (.bipush 7, 2) := by decide +kernel
theorem dX6_tells_152 : decode cX6_tells 152 = .ok (.if_icmp .ne 7, 3) := by decide +kernel
theorem dX6_tells_155 : decode cX6_tells 155 = .ok (.iconst 5, 1) := by decide +kernel
theorem dX6_tells_156 : decode cX6_tells 156 = .ok (.goto 16, 3) := by decide +kernel
theorem dX6_tells_159 : decode cX6_tells 159 = .ok (.iload 4, 2) := by decide +kernel
theorem dX6_tells_161 : decode cX6_tells 161 = .ok (.iconst 3, 1) := by decide +kernel
theorem dX6_tells_162 : decode cX6_tells 162 = .ok (.if_icmp .ne 8, 3) := by decide +kernel
theorem dX6_tells_165 : decode cX6_tells 165 = .ok (.bipush 9, 2) := by decide +kernel
theorem dX6_tells_167 : decode cX6_tells 167 = .ok (.goto 5, 3) := by decide +kernel
theorem dX6_tells_170 : decode cX6_tells 170 = .ok (.bipush 99, 2) := by decide +kernel
theorem dX6_tells_172 : decode cX6_tells 172 = .ok (.istore 6, 2) := by decide +kernel
theorem dX6_tells_174 : decode cX6_tells 174 = .ok (.iconst 0, 1) := by decide +kernel
theorem dX6_tells_175 : decode cX6_tells 175 = .ok (.istore 7, 2) := by decide +kernel
theorem dX6_tells_177 : decode cX6_tells 177 = .ok (.iconst 0, 1) := by decide +kernel
theorem dX6_tells_178 : decode cX6_tells 178 = .ok (.istore 8, 2) := by decide +kernel
theorem dX6_tells_180 : decode cX6_tells 180 = .ok (.iconst (-1), 1) := by decide +kernel
theorem dX6_tells_181 : decode cX6_tells 181 = .ok (.istore 9, 2) := by decide +kernel
theorem dX6_tells_183 : decode cX6_tells 183 = .ok (.iload 6, 2) := by decide +kernel
theorem dX6_tells_185 : decode cX6_tells 185 = .ok (.istore 10, 2) := by decide +kernel
theorem dX6_tells_187 : decode cX6_tells 187 = .ok (.iload 10, 2) := by decide +kernel
theorem dX6_tells_189 : decode cX6_tells 189 = .ok (.ifCond .lt 55, 3) := by decide +kernel
theorem dX6_tells_192 : decode cX6_tells 192 = .ok (.aload_n 0, 1) := by decide +kernel
theorem dX6_tells_193 : decode cX6_tells 193 = .ok (.iload 4, 2) := by decide +kernel
theorem dX6_tells_195 : decode cX6_tells 195 = .ok (.iload_n 2, 1) := by decide +kernel
theorem dX6_tells_196 : decode cX6_tells 196 = .ok (.iload 10, 2) := by decide +kernel
theorem dX6_tells_198 : decode cX6_tells 198 = .ok (.invokevirtual 113, 3) := by decide +kernel
theorem dX6_tells_201 : decode cX6_tells 201 = .ok (.aload_n 0, 1) := by decide +kernel
theorem dX6_tells_202 : decode cX6_tells 202 = .ok (.iload_n 1, 1) := by decide +kernel
theorem dX6_tells_203 : decode cX6_tells 203 = .ok (.iload_n 2, 1) := by decide +kernel
theorem dX6_tells_204 : decode cX6_tells 204 = .ok (.invokevirtual 351, 3) := by decide +kernel
theorem dX6_tells_207 : decode cX6_tells 207 = .ok (.iconst (-1), 1) := by decide +kernel
theorem dX6_tells_208 : decode cX6_tells 208 = .ok (.if_icmp .ne 30, 3) := by decide +kernel
theorem dX6_tells_211 : decode cX6_tells 211 = .ok (.iload 7, 2) := by decide +kernel
theorem dX6_tells_213 : decode cX6_tells 213 = .ok (.iload 10, 2) := by decide +kernel
theorem dX6_tells_215 : decode cX6_tells 215 = .ok (.bipush 10, 2) := by decide +kernel
theorem dX6_tells_217 : decode cX6_tells 217 = .ok (.if_icmp .ge 10, 3) := by decide +kernel
theorem dX6_tells_220 : decode cX6_tells 220 = .ok (.iconst 1, 1) := by decide +kernel
theorem dX6_tells_221 : decode cX6_tells 221 = .ok (.iload 10, 2) := by decide +kernel
theorem dX6_tells_223 : decode cX6_tells 223 = .ok (.ishl, 1) := by decide +kernel
theorem dX6_tells_224 : decode cX6_tells 224 = .ok (.goto 4, 3) := by decide +kernel
theorem dX6_tells_227 : decode cX6_tells 227 = .ok (.iconst 0, 1) := by decide +kernel
theorem dX6_tells_228 : decode cX6_tells 228 = .ok (.ior, 1) := by decide +kernel
theorem dX6_tells_229 : decode cX6_tells 229 = .ok (.istore 7, 2) := by decide +kernel
theorem dX6_tells_231 : decode cX6_tells 231 = .ok (.iinc 8 1, 3) := by decide +kernel
theorem dX6_tells_234 : decode cX6_tells 234 = .ok (.iload 10, 2) := by decide +kernel
theorem dX6_tells_236 : decode cX6_tells 236 = .ok (.istore 9, 2) := by decide +kernel
theorem dX6_tells_238 : decode cX6_tells 238 = .ok (.iinc 10 (-1), 3) := by decide +kernel
theorem dX6_tells_241 : decode cX6_tells 241 = .ok (.goto (-54), 3) := by decide +kernel
theorem dX6_tells_244 : decode cX6_tells 244 = .ok (.aload_n 0, 1) := by decide +kernel
theorem dX6_tells_245 : decode cX6_tells 245 = .ok (.iload 4, 2) := by decide +kernel
theorem dX6_tells_247 : decode cX6_tells 247 = .ok (.iload_n 2, 1) := by decide +kernel
theorem dX6_tells_248 : decode cX6_tells 248 = .ok (.iload 5, 2) := by decide +kernel
theorem dX6_tells_250 : decode cX6_tells 250 = .ok (.invokevirtual 113, 3) := by decide +kernel
theorem dX6_tells_253 : decode cX6_tells 253 = .ok (.iload_n 3, 1) := by decide +kernel
theorem dX6_tells_254 : decode cX6_tells 254 = .ok (.iconst 3, 1) := by decide +kernel
theorem dX6_tells_255 : decode cX6_tells 255 = .ok (.if_icmp .eq 8, 3) := by decide +kernel
theorem dX6_tells_258 : decode cX6_tells 258 = .ok (.iload_n 3, 1) := by decide +kernel
theorem dX6_tells_259 : decode cX6_tells 259 = .ok (.iconst 5, 1) := by decide +kernel
theorem dX6_tells_260 : decode cX6_tells 260 = .ok (.if_icmp .ne 8, 3) := by decide +kernel
theorem dX6_tells_263 : decode cX6_tells 263 = .ok (.iload 8, 2) := by decide +kernel
theorem dX6_tells_265 : decode cX6_tells 265 = .ok (.goto 21, 3) := by decide +kernel
theorem dX6_tells_268 : decode cX6_tells 268 = .ok (.iload_n 3, 1) := by decide +kernel
theorem dX6_tells_269 : decode cX6_tells 269 = .ok (.iconst 4, 1) := by decide +kernel
theorem dX6_tells_270 : decode cX6_tells 270 = .ok (.if_icmp .eq 9, 3) := by decide +kernel
theorem dX6_tells_273 : decode cX6_tells 273 = .ok (.iload_n 3, 1) := by decide +kernel
theorem dX6_tells_274 : decode cX6_tells 274 = .ok (.bipush 6, 2) := by decide +kernel
theorem dX6_tells_276 : decode cX6_tells 276 = .ok (.if_icmp .ne 8, 3) := by decide +kernel
theorem dX6_tells_279 : decode cX6_tells 279 = .ok (.iload 9, 2) := by decide +kernel
theorem dX6_tells_281 : decode cX6_tells 281 = .ok (.goto 5, 3) := by decide +kernel
theorem dX6_tells_284 : decode cX6_tells 284 = .ok (.iload 7, 2) := by decide +kernel
theorem dX6_tells_286 : decode cX6_tells 286 = .ok (.ireturn, 1) := by decide +kernel
theorem dX6_places_0 : decode cX6_places 0 = .ok (.iload_n 1, 1) := by decide +kernel
theorem dX6_places_1 : decode cX6_places 1 = .ok (.invokestatic 346, 3) := by decide +kernel
theorem dX6_places_4 : decode cX6_places 4 = .ok (.ifCond .eq 31, 3) := by decide +kernel
theorem dX6_places_7 : decode cX6_places 7 = .ok (.aload_n 0, 1) := by decide +kernel
theorem dX6_places_8 : decode cX6_places 8 = .ok (.iload_n 2, 1) := by decide +kernel
theorem dX6_places_9 : decode cX6_places 9 = .ok (.invokevirtual 96, 3) := by decide +kernel
theorem dX6_places_12 : decode cX6_places 12 = .ok (.ifCond .eq 23, 3) := by decide +kernel
theorem dX6_places_15 : decode cX6_places 15 = .ok (.aload_n 0, 1) := by decide +kernel
theorem dX6_places_16 : decode cX6_places 16 = .ok (.getfield 59, 3) := by decide +kernel
theorem dX6_places_19 : decode cX6_places 19 = .ok (.iload_n 1, 1) := by decide +kernel
theorem dX6_places_20 : decode cX6_places 20 = .ok (.baload, 1) := by decide +kernel
theorem dX6_places_21 : decode cX6_places 21 = .ok (.ifCond .eq 14, 3) := by decide +kernel
theorem dX6_places_24 : decode cX6_places 24 = .ok (.aload_n 0, 1) := by decide +kernel
theorem dX6_places_25 : decode cX6_places 25 = .ok (.getfield 66, 3) := by decide +kernel
theorem dX6_places_28 : decode cX6_places 28 = .ok (.iload_n 1, 1) := by decide +kernel
theorem dX6_places_29 : decode cX6_places 29 = .ok (.iaload, 1) := by decide +kernel
theorem dX6_places_30 : decode cX6_places 30 = .ok (.bipush 20, 2) := by decide +kernel
theorem dX6_places_32 : decode cX6_places 32 = .ok (.if_icmp .le 7, 3) := by decide +kernel
theorem dX6_places_35 : decode cX6_places 35 = .ok (.ldc2_w 344, 3) := by decide +kernel
theorem dX6_places_38 : decode cX6_places 38 = .ok (.lreturn, 1) := by decide +kernel
theorem dX6_places_39 : decode cX6_places 39 = .ok (.aload_n 0, 1) := by decide +kernel
theorem dX6_places_40 : decode cX6_places 40 = .ok (.iload_n 2, 1) := by decide +kernel
theorem dX6_places_41 : decode cX6_places 41 = .ok (.invokevirtual 147, 3) := by decide +kernel
theorem dX6_places_44 : decode cX6_places 44 = .ok (.istore_n 3, 1) := by decide +kernel
theorem dX6_places_45 : decode cX6_places 45 = .ok (.lconst 0, 1) := by decide +kernel
theorem dX6_places_46 : decode cX6_places 46 = .ok (.lstore 4, 2) := by decide +kernel
theorem dX6_places_48 : decode cX6_places 48 = .ok (.iconst 0, 1) := by decide +kernel
theorem dX6_places_49 : decode cX6_places 49 = .ok (.istore 6, 2) := by decide +kernel
theorem dX6_places_51 : decode cX6_places 51 = .ok (.iload 6, 2) := by decide +kernel
theorem dX6_places_53 : decode cX6_places 53 = .ok (.bipush 32, 2) := by decide +kernel
theorem dX6_places_55 : decode cX6_places 55 = .ok (.if_icmp .ge 45, 3) := by decide +kernel
theorem dX6_places_58 : decode cX6_places 58 = .ok (.aload_n 0, 1) := by decide +kernel
theorem dX6_places_59 : decode cX6_places 59 = .ok (.getfield 38, 3) := by decide +kernel
theorem dX6_places_62 : decode cX6_places 62 = .ok (.bipush 6, 2) := by decide +kernel
theorem dX6_places_64 : decode cX6_places 64 = .ok (.iload_n 2, 1) := by decide +kernel
theorem dX6_places_65 : decode cX6_places 65 = .ok (.imul, 1) := by decide +kernel
theorem dX6_places_66 : decode cX6_places 66 = .ok (.iconst 2, 1) := by decide +kernel
theorem dX6_places_67 : decode cX6_places 67 = .ok (.iadd, 1) := by decide +kernel
theorem dX6_places_68 : decode cX6_places 68 = .ok (.iload 6, 2) := by decide +kernel
theorem dX6_places_70 : decode cX6_places 70 = .ok (.iastore, 1) := by decide +kernel
theorem dX6_places_71 : decode cX6_places 71 = .ok (.lload 4, 2) := by decide +kernel
theorem dX6_places_73 : decode cX6_places 73 = .ok (.aload_n 0, 1) := by decide +kernel
theorem dX6_places_74 : decode cX6_places 74 = .ok (.iload_n 1, 1) := by decide +kernel
theorem dX6_places_75 : decode cX6_places 75 = .ok (.iload_n 2, 1) := by decide +kernel
theorem dX6_places_76 : decode cX6_places 76 = .ok (.invokevirtual 351, 3) := by decide +kernel
theorem dX6_places_79 : decode cX6_places 79 = .ok (.iconst (-1), 1) := by decide +kernel
theorem dX6_places_80 : decode cX6_places 80 = .ok (.if_icmp .ne 10, 3) := by decide +kernel
theorem dX6_places_83 : decode cX6_places 83 = .ok (.lconst 1, 1) := by decide +kernel
theorem dX6_places_84 : decode cX6_places 84 = .ok (.iload 6, 2) := by decide +kernel
theorem dX6_places_86 : decode cX6_places 86 = .ok (.lshl, 1) := by decide +kernel
theorem dX6_places_87 : decode cX6_places 87 = .ok (.goto 4, 3) := by decide +kernel
theorem dX6_places_90 : decode cX6_places 90 = .ok (.lconst 0, 1) := by decide +kernel
theorem dX6_places_91 : decode cX6_places 91 = .ok (.lor, 1) := by decide +kernel
theorem dX6_places_92 : decode cX6_places 92 = .ok (.lstore 4, 2) := by decide +kernel
theorem dX6_places_94 : decode cX6_places 94 = .ok (.iinc 6 1, 3) := by decide +kernel
theorem dX6_places_97 : decode cX6_places 97 = .ok (.goto (-46), 3) := by decide +kernel
theorem dX6_places_100 : decode cX6_places 100 = .ok (.aload_n 0, 1) := by decide +kernel
theorem dX6_places_101 : decode cX6_places 101 = .ok (.getfield 38, 3) := by decide +kernel
theorem dX6_places_104 : decode cX6_places 104 = .ok (.bipush 6, 2) := by decide +kernel
theorem dX6_places_106 : decode cX6_places 106 = .ok (.iload_n 2, 1) := by decide +kernel
theorem dX6_places_107 : decode cX6_places 107 = .ok (.imul, 1) := by decide +kernel
theorem dX6_places_108 : decode cX6_places 108 = .ok (.iconst 2, 1) := by decide +kernel
theorem dX6_places_109 : decode cX6_places 109 = .ok (.iadd, 1) := by decide +kernel
theorem dX6_places_110 : decode cX6_places 110 = .ok (.iload_n 3, 1) := by decide +kernel
theorem dX6_places_111 : decode cX6_places 111 = .ok (.iastore, 1) := by decide +kernel
theorem dX6_places_112 : decode cX6_places 112 = .ok (.lload 4, 2) := by decide +kernel
theorem dX6_places_114 : decode cX6_places 114 = .ok (.lreturn, 1) := by decide +kernel
theorem dX6_film_0 : decode cX6_film 0 = .ok (.iload_n 1, 1) := by decide +kernel
theorem dX6_film_1 : decode cX6_film 1 = .ok (.invokestatic 346, 3) := by decide +kernel
theorem dX6_film_4 : decode cX6_film 4 = .ok (.ifCond .eq 23, 3) := by decide +kernel
theorem dX6_film_7 : decode cX6_film 7 = .ok (.aload_n 0, 1) := by decide +kernel
theorem dX6_film_8 : decode cX6_film 8 = .ok (.iload_n 2, 1) := by decide +kernel
theorem dX6_film_9 : decode cX6_film 9 = .ok (.invokevirtual 96, 3) := by decide +kernel
theorem dX6_film_12 : decode cX6_film 12 = .ok (.ifCond .eq 15, 3) := by decide +kernel
theorem dX6_film_15 : decode cX6_film 15 = .ok (.iload_n 3, 1) := by decide +kernel
theorem dX6_film_16 : decode cX6_film 16 = .ok (.i2l, 1) := by decide +kernel
theorem dX6_film_17 : decode cX6_film 17 = .ok (.lconst 0, 1) := by decide +kernel
theorem dX6_film_18 : decode cX6_film 18 = .ok (.ldc2_w 354, 3) := by decide +kernel
theorem dX6_film_21 : decode cX6_film 21 = .ok (.invokestatic 86, 3) := by decide +kernel
theorem dX6_film_24 : decode cX6_film 24 = .ok (.ifCond .ne 6, 3) := by decide +kernel
theorem dX6_film_27 : decode cX6_film 27 = .ok (.bipush (-2), 2) := by decide +kernel
theorem dX6_film_29 : decode cX6_film 29 = .ok (.ireturn, 1) := by decide +kernel
theorem dX6_film_30 : decode cX6_film 30 = .ok (.aload_n 0, 1) := by decide +kernel
theorem dX6_film_31 : decode cX6_film 31 = .ok (.iload_n 1, 1) := by decide +kernel
theorem dX6_film_32 : decode cX6_film 32 = .ok (.iconst 0, 1) := by decide +kernel
theorem dX6_film_33 : decode cX6_film 33 = .ok (.iload_n 3, 1) := by decide +kernel
theorem dX6_film_34 : decode cX6_film 34 = .ok (.invokevirtual 356, 3) := by decide +kernel
theorem dX6_film_37 : decode cX6_film 37 = .ok (.pop, 1) := by decide +kernel
theorem dX6_film_38 : decode cX6_film 38 = .ok (.aload_n 0, 1) := by decide +kernel
theorem dX6_film_39 : decode cX6_film 39 = .ok (.invokevirtual 310, 3) := by decide +kernel
theorem dX6_film_42 : decode cX6_film 42 = .ok (.iconst 0, 1) := by decide +kernel
theorem dX6_film_43 : decode cX6_film 43 = .ok (.istore 4, 2) := by decide +kernel
theorem dX6_film_45 : decode cX6_film 45 = .ok (.iload 4, 2) := by decide +kernel
theorem dX6_film_47 : decode cX6_film 47 = .ok (.iload_n 3, 1) := by decide +kernel
theorem dX6_film_48 : decode cX6_film 48 = .ok (.if_icmp .ge 30, 3) := by decide +kernel
theorem dX6_film_51 : decode cX6_film 51 = .ok (.aload_n 0, 1) := by decide +kernel
theorem dX6_film_52 : decode cX6_film 52 = .ok (.invokevirtual 303, 3) := by decide +kernel
theorem dX6_film_55 : decode cX6_film 55 = .ok (.aload_n 0, 1) := by decide +kernel
theorem dX6_film_56 : decode cX6_film 56 = .ok (.getfield 69, 3) := by decide +kernel
theorem dX6_film_59 : decode cX6_film 59 = .ok (.bipush 40, 2) := by decide +kernel
theorem dX6_film_61 : decode cX6_film 61 = .ok (.iload_n 1, 1) := by decide +kernel
theorem dX6_film_62 : decode cX6_film 62 = .ok (.imul, 1) := by decide +kernel
theorem dX6_film_63 : decode cX6_film 63 = .ok (.iload 4, 2) := by decide +kernel
theorem dX6_film_65 : decode cX6_film 65 = .ok (.iadd, 1) := by decide +kernel
theorem dX6_film_66 : decode cX6_film 66 = .ok (.aload_n 0, 1) := by decide +kernel
theorem dX6_film_67 : decode cX6_film 67 = .ok (.iload_n 2, 1) := by decide +kernel
theorem dX6_film_68 : decode cX6_film 68 = .ok (.invokevirtual 147, 3) := by decide +kernel
theorem dX6_film_71 : decode cX6_film 71 = .ok (.iastore, 1) := by decide +kernel
theorem dX6_film_72 : decode cX6_film 72 = .ok (.iinc 4 1, 3) := by decide +kernel
theorem dX6_film_75 : decode cX6_film 75 = .ok (.goto (-30), 3) := by decide +kernel
theorem dX6_film_78 : decode cX6_film 78 = .ok (.aload_n 0, 1) := by decide +kernel
theorem dX6_film_79 : decode cX6_film 79 = .ok (.invokevirtual 316, 3) := by decide +kernel
theorem dX6_film_82 : decode cX6_film 82 = .ok (.iload_n 3, 1) := by decide +kernel
theorem dX6_film_83 : decode cX6_film 83 = .ok (.ireturn, 1) := by decide +kernel
theorem dX6_overDrawn_0 : decode cX6_overDrawn 0 = .ok (.aload_n 0, 1) := by decide +kernel
theorem dX6_overDrawn_1 : decode cX6_overDrawn 1 = .ok (.invokevirtual 310, 3) := by decide +kernel
theorem dX6_overDrawn_4 : decode cX6_overDrawn 4 = .ok (.iload_n 1, 1) := by decide +kernel
theorem dX6_overDrawn_5 : decode cX6_overDrawn 5 = .ok (.istore_n 3, 1) := by decide +kernel
theorem dX6_overDrawn_6 : decode cX6_overDrawn 6 = .ok (.iconst 0, 1) := by decide +kernel
theorem dX6_overDrawn_7 : decode cX6_overDrawn 7 = .ok (.istore 4, 2) := by decide +kernel
theorem dX6_overDrawn_9 : decode cX6_overDrawn 9 = .ok (.iload 4, 2) := by decide +kernel
theorem dX6_overDrawn_11 : decode cX6_overDrawn 11 = .ok (.iload_n 2, 1) := by decide +kernel
theorem dX6_overDrawn_12 : decode cX6_overDrawn 12 = .ok (.if_icmp .ge 34, 3) := by decide +kernel
theorem dX6_overDrawn_15 : decode cX6_overDrawn 15 = .ok (.iload_n 3, 1) := by decide +kernel
theorem dX6_overDrawn_16 : decode cX6_overDrawn 16 = .ok (.ldc_w 359, 3) := by decide +kernel
theorem dX6_overDrawn_19 : decode cX6_overDrawn 19 = .ok (.imul, 1) := by decide +kernel
theorem dX6_overDrawn_20 : decode cX6_overDrawn 20 = .ok (.sipush 12345, 3) := by decide +kernel
theorem dX6_overDrawn_23 : decode cX6_overDrawn 23 = .ok (.iadd, 1) := by decide +kernel
theorem dX6_overDrawn_24 : decode cX6_overDrawn 24 = .ok (.istore_n 3, 1) := by decide +kernel
theorem dX6_overDrawn_25 : decode cX6_overDrawn 25 = .ok (.aload_n 0, 1) := by decide +kernel
theorem dX6_overDrawn_26 : decode cX6_overDrawn 26 = .ok (.iload_n 3, 1) := by decide +kernel
theorem dX6_overDrawn_27 : decode cX6_overDrawn 27 = .ok (.bipush 9, 2) := by decide +kernel
theorem dX6_overDrawn_29 : decode cX6_overDrawn 29 = .ok (.iushr, 1) := by decide +kernel
theorem dX6_overDrawn_30 : decode cX6_overDrawn 30 = .ok (.bipush 100, 2) := by decide +kernel
theorem dX6_overDrawn_32 : decode cX6_overDrawn 32 = .ok (.irem, 1) := by decide +kernel
theorem dX6_overDrawn_33 : decode cX6_overDrawn 33 = .ok (.putfield 32, 3) := by decide +kernel
theorem dX6_overDrawn_36 : decode cX6_overDrawn 36 = .ok (.aload_n 0, 1) := by decide +kernel
theorem dX6_overDrawn_37 : decode cX6_overDrawn 37 = .ok (.invokevirtual 303, 3) := by decide +kernel
theorem dX6_overDrawn_40 : decode cX6_overDrawn 40 = .ok (.iinc 4 1, 3) := by decide +kernel
theorem dX6_overDrawn_43 : decode cX6_overDrawn 43 = .ok (.goto (-34), 3) := by decide +kernel
theorem dX6_overDrawn_46 : decode cX6_overDrawn 46 = .ok (.aload_n 0, 1) := by decide +kernel
theorem dX6_overDrawn_47 : decode cX6_overDrawn 47 = .ok (.iconst 3, 1) := by decide +kernel
theorem dX6_overDrawn_48 : decode cX6_overDrawn 48 = .ok (.invokevirtual 294, 3) := by decide +kernel
theorem dX6_overDrawn_51 : decode cX6_overDrawn 51 = .ok (.istore 4, 2) := by decide +kernel
theorem dX6_overDrawn_53 : decode cX6_overDrawn 53 = .ok (.aload_n 0, 1) := by decide +kernel
theorem dX6_overDrawn_54 : decode cX6_overDrawn 54 = .ok (.invokevirtual 316, 3) := by decide +kernel
theorem dX6_overDrawn_57 : decode cX6_overDrawn 57 = .ok (.iload 4, 2) := by decide +kernel
theorem dX6_overDrawn_59 : decode cX6_overDrawn 59 = .ok (.ireturn, 1) := by decide +kernel
theorem dX6_drawn_0 : decode cX6_drawn 0 = .ok (.iload_n 2, 1) := by decide +kernel
theorem dX6_drawn_1 : decode cX6_drawn 1 = .ok (.i2l, 1) := by decide +kernel
theorem dX6_drawn_2 : decode cX6_drawn 2 = .ok (.lconst 0, 1) := by decide +kernel
theorem dX6_drawn_3 : decode cX6_drawn 3 = .ok (.ldc2_w 333, 3) := by decide +kernel
theorem dX6_drawn_6 : decode cX6_drawn 6 = .ok (.invokestatic 86, 3) := by decide +kernel
theorem dX6_drawn_9 : decode cX6_drawn 9 = .ok (.ifCond .eq 12, 3) := by decide +kernel
theorem dX6_drawn_12 : decode cX6_drawn 12 = .ok (.aload_n 0, 1) := by decide +kernel
theorem dX6_drawn_13 : decode cX6_drawn 13 = .ok (.iload_n 1, 1) := by decide +kernel
theorem dX6_drawn_14 : decode cX6_drawn 14 = .ok (.iload_n 2, 1) := by decide +kernel
theorem dX6_drawn_15 : decode cX6_drawn 15 = .ok (.invokevirtual 360, 3) := by decide +kernel
theorem dX6_drawn_18 : decode cX6_drawn 18 = .ok (.goto 5, 3) := by decide +kernel
theorem dX6_drawn_21 : decode cX6_drawn 21 = .ok (.bipush (-2), 2) := by decide +kernel
theorem dX6_drawn_23 : decode cX6_drawn 23 = .ok (.ireturn, 1) := by decide +kernel
theorem dX6_chance_0 : decode cX6_chance 0 = .ok (.iload_n 2, 1) := by decide +kernel
theorem dX6_chance_1 : decode cX6_chance 1 = .ok (.i2l, 1) := by decide +kernel
theorem dX6_chance_2 : decode cX6_chance 2 = .ok (.lconst 1, 1) := by decide +kernel
theorem dX6_chance_3 : decode cX6_chance 3 = .ok (.ldc2_w 354, 3) := by decide +kernel
theorem dX6_chance_6 : decode cX6_chance 6 = .ok (.invokestatic 86, 3) := by decide +kernel
theorem dX6_chance_9 : decode cX6_chance 9 = .ok (.ifCond .eq 26, 3) := by decide +kernel
theorem dX6_chance_12 : decode cX6_chance 12 = .ok (.iload_n 3, 1) := by decide +kernel
theorem dX6_chance_13 : decode cX6_chance 13 = .ok (.i2l, 1) := by decide +kernel
theorem dX6_chance_14 : decode cX6_chance 14 = .ok (.lconst 0, 1) := by decide +kernel
theorem dX6_chance_15 : decode cX6_chance 15 = .ok (.ldc2_w 123, 3) := by decide +kernel
theorem dX6_chance_18 : decode cX6_chance 18 = .ok (.invokestatic 86, 3) := by decide +kernel
theorem dX6_chance_21 : decode cX6_chance 21 = .ok (.ifCond .eq 14, 3) := by decide +kernel
theorem dX6_chance_24 : decode cX6_chance 24 = .ok (.iload 4, 2) := by decide +kernel
theorem dX6_chance_26 : decode cX6_chance 26 = .ok (.i2l, 1) := by decide +kernel
theorem dX6_chance_27 : decode cX6_chance 27 = .ok (.lconst 0, 1) := by decide +kernel
theorem dX6_chance_28 : decode cX6_chance 28 = .ok (.lconst 1, 1) := by decide +kernel
theorem dX6_chance_29 : decode cX6_chance 29 = .ok (.invokestatic 86, 3) := by decide +kernel
theorem dX6_chance_32 : decode cX6_chance 32 = .ok (.ifCond .ne 7, 3) := by decide +kernel
theorem dX6_chance_35 : decode cX6_chance 35 = .ok (.ldc2_w 344, 3) := by decide +kernel
theorem dX6_chance_38 : decode cX6_chance 38 = .ok (.lreturn, 1) := by decide +kernel
theorem dX6_chance_39 : decode cX6_chance 39 = .ok (.lconst 0, 1) := by decide +kernel
theorem dX6_chance_40 : decode cX6_chance 40 = .ok (.lstore 5, 2) := by decide +kernel
theorem dX6_chance_42 : decode cX6_chance 42 = .ok (.iconst 0, 1) := by decide +kernel
theorem dX6_chance_43 : decode cX6_chance 43 = .ok (.istore 7, 2) := by decide +kernel
theorem dX6_chance_45 : decode cX6_chance 45 = .ok (.iload 7, 2) := by decide +kernel
theorem dX6_chance_47 : decode cX6_chance 47 = .ok (.iload_n 2, 1) := by decide +kernel
theorem dX6_chance_48 : decode cX6_chance 48 = .ok (.if_icmp .ge 33, 3) := by decide +kernel
theorem dX6_chance_51 : decode cX6_chance 51 = .ok (.lload 5, 2) := by decide +kernel
theorem dX6_chance_53 : decode cX6_chance 53 = .ok (.aload_n 0, 1) := by decide +kernel
theorem dX6_chance_54 : decode cX6_chance 54 = .ok (.iload_n 1, 1) := by decide +kernel
theorem dX6_chance_55 : decode cX6_chance 55 = .ok (.iload 7, 2) := by decide +kernel
theorem dX6_chance_57 : decode cX6_chance 57 = .ok (.iadd, 1) := by decide +kernel
theorem dX6_chance_58 : decode cX6_chance 58 = .ok (.bipush 12, 2) := by decide +kernel
theorem dX6_chance_60 : decode cX6_chance 60 = .ok (.invokevirtual 360, 3) := by decide +kernel
theorem dX6_chance_63 : decode cX6_chance 63 = .ok (.iload_n 3, 1) := by decide +kernel
theorem dX6_chance_64 : decode cX6_chance 64 = .ok (.if_icmp .lt 7, 3) := by decide +kernel
theorem dX6_chance_67 : decode cX6_chance 67 = .ok (.lconst 1, 1) := by decide +kernel
theorem dX6_chance_68 : decode cX6_chance 68 = .ok (.goto 4, 3) := by decide +kernel
theorem dX6_chance_71 : decode cX6_chance 71 = .ok (.lconst 0, 1) := by decide +kernel
theorem dX6_chance_72 : decode cX6_chance 72 = .ok (.ladd, 1) := by decide +kernel
theorem dX6_chance_73 : decode cX6_chance 73 = .ok (.lstore 5, 2) := by decide +kernel
theorem dX6_chance_75 : decode cX6_chance 75 = .ok (.iinc 7 1, 3) := by decide +kernel
theorem dX6_chance_78 : decode cX6_chance 78 = .ok (.goto (-33), 3) := by decide +kernel
theorem dX6_chance_81 : decode cX6_chance 81 = .ok (.lload 5, 2) := by decide +kernel
theorem dX6_chance_83 : decode cX6_chance 83 = .ok (.iload_n 2, 1) := by decide +kernel
theorem dX6_chance_84 : decode cX6_chance 84 = .ok (.i2l, 1) := by decide +kernel
theorem dX6_chance_85 : decode cX6_chance 85 = .ok (.iload 4, 2) := by decide +kernel
theorem dX6_chance_87 : decode cX6_chance 87 = .ok (.invokestatic 340, 3) := by decide +kernel
theorem dX6_chance_90 : decode cX6_chance 90 = .ok (.lreturn, 1) := by decide +kernel
theorem dX6_image_0 : decode cX6_image 0 = .ok (.iconst 0, 1) := by decide +kernel
theorem dX6_image_1 : decode cX6_image 1 = .ok (.istore_n 1, 1) := by decide +kernel
theorem dX6_image_2 : decode cX6_image 2 = .ok (.iload_n 1, 1) := by decide +kernel
theorem dX6_image_3 : decode cX6_image 3 = .ok (.bipush 30, 2) := by decide +kernel
theorem dX6_image_5 : decode cX6_image 5 = .ok (.if_icmp .ge 21, 3) := by decide +kernel
theorem dX6_image_8 : decode cX6_image 8 = .ok (.aload_n 0, 1) := by decide +kernel
theorem dX6_image_9 : decode cX6_image 9 = .ok (.getfield 50, 3) := by decide +kernel
theorem dX6_image_12 : decode cX6_image 12 = .ok (.iload_n 1, 1) := by decide +kernel
theorem dX6_image_13 : decode cX6_image 13 = .ok (.aload_n 0, 1) := by decide +kernel
theorem dX6_image_14 : decode cX6_image 14 = .ok (.getfield 38, 3) := by decide +kernel
theorem dX6_image_17 : decode cX6_image 17 = .ok (.iload_n 1, 1) := by decide +kernel
theorem dX6_image_18 : decode cX6_image 18 = .ok (.iaload, 1) := by decide +kernel
theorem dX6_image_19 : decode cX6_image 19 = .ok (.iastore, 1) := by decide +kernel
theorem dX6_image_20 : decode cX6_image 20 = .ok (.iinc 1 1, 3) := by decide +kernel
theorem dX6_image_23 : decode cX6_image 23 = .ok (.goto (-21), 3) := by decide +kernel
theorem dX6_image_26 : decode cX6_image 26 = .ok (.iconst 0, 1) := by decide +kernel
theorem dX6_image_27 : decode cX6_image 27 = .ok (.istore_n 1, 1) := by decide +kernel
theorem dX6_image_28 : decode cX6_image 28 = .ok (.iload_n 1, 1) := by decide +kernel
theorem dX6_image_29 : decode cX6_image 29 = .ok (.bipush 32, 2) := by decide +kernel
theorem dX6_image_31 : decode cX6_image 31 = .ok (.if_icmp .ge 21, 3) := by decide +kernel
theorem dX6_image_34 : decode cX6_image 34 = .ok (.aload_n 0, 1) := by decide +kernel
theorem dX6_image_35 : decode cX6_image 35 = .ok (.getfield 53, 3) := by decide +kernel
theorem dX6_image_38 : decode cX6_image 38 = .ok (.iload_n 1, 1) := by decide +kernel
theorem dX6_image_39 : decode cX6_image 39 = .ok (.aload_n 0, 1) := by decide +kernel
theorem dX6_image_40 : decode cX6_image 40 = .ok (.getfield 35, 3) := by decide +kernel
theorem dX6_image_43 : decode cX6_image 43 = .ok (.iload_n 1, 1) := by decide +kernel
theorem dX6_image_44 : decode cX6_image 44 = .ok (.iaload, 1) := by decide +kernel
theorem dX6_image_45 : decode cX6_image 45 = .ok (.iastore, 1) := by decide +kernel
theorem dX6_image_46 : decode cX6_image 46 = .ok (.iinc 1 1, 3) := by decide +kernel
theorem dX6_image_49 : decode cX6_image 49 = .ok (.goto (-21), 3) := by decide +kernel
theorem dX6_image_52 : decode cX6_image 52 = .ok (.aload_n 0, 1) := by decide +kernel
theorem dX6_image_53 : decode cX6_image 53 = .ok (.aload_n 0, 1) := by decide +kernel
theorem dX6_image_54 : decode cX6_image 54 = .ok (.getfield 83, 3) := by decide +kernel
theorem dX6_image_57 : decode cX6_image 57 = .ok (.putfield 56, 3) := by decide +kernel
theorem dX6_image_60 : decode cX6_image 60 = .ok (.aload_n 0, 1) := by decide +kernel
theorem dX6_image_61 : decode cX6_image 61 = .ok (.aload_n 0, 1) := by decide +kernel
theorem dX6_image_62 : decode cX6_image 62 = .ok (.getfield 117, 3) := by decide +kernel
theorem dX6_image_65 : decode cX6_image 65 = .ok (.putfield 363, 3) := by decide +kernel
theorem dX6_image_68 : decode cX6_image 68 = .ok (.aload_n 0, 1) := by decide +kernel
theorem dX6_image_69 : decode cX6_image 69 = .ok (.aload_n 0, 1) := by decide +kernel
theorem dX6_image_70 : decode cX6_image 70 = .ok (.getfield 32, 3) := by decide +kernel
theorem dX6_image_73 : decode cX6_image 73 = .ok (.putfield 366, 3) := by decide +kernel
theorem dX6_image_76 : decode cX6_image 76 = .ok (.aload_n 0, 1) := by decide +kernel
theorem dX6_image_77 : decode cX6_image 77 = .ok (.aload_n 0, 1) := by decide +kernel
theorem dX6_image_78 : decode cX6_image 78 = .ok (.getfield 120, 3) := by decide +kernel
theorem dX6_image_81 : decode cX6_image 81 = .ok (.putfield 369, 3) := by decide +kernel
theorem dX6_image_84 : decode cX6_image 84 = .ok (.aload_n 0, 1) := by decide +kernel
theorem dX6_image_85 : decode cX6_image 85 = .ok (.getfield 83, 3) := by decide +kernel
theorem dX6_image_88 : decode cX6_image 88 = .ok (.ireturn, 1) := by decide +kernel
theorem dX6_back_0 : decode cX6_back 0 = .ok (.aload_n 0, 1) := by decide +kernel
theorem dX6_back_1 : decode cX6_back 1 = .ok (.getfield 56, 3) := by decide +kernel
theorem dX6_back_4 : decode cX6_back 4 = .ok (.iconst (-1), 1) := by decide +kernel
theorem dX6_back_5 : decode cX6_back 5 = .ok (.if_icmp .ne 6, 3) := by decide +kernel
theorem dX6_back_8 : decode cX6_back 8 = .ok (.bipush (-3), 2) := by decide +kernel
theorem dX6_back_10 : decode cX6_back 10 = .ok (.ireturn, 1) := by decide +kernel
theorem dX6_back_11 : decode cX6_back 11 = .ok (.iconst 0, 1) := by decide +kernel
theorem dX6_back_12 : decode cX6_back 12 = .ok (.istore_n 1, 1) := by decide +kernel
theorem dX6_back_13 : decode cX6_back 13 = .ok (.iload_n 1, 1) := by decide +kernel
theorem dX6_back_14 : decode cX6_back 14 = .ok (.bipush 30, 2) := by decide +kernel
theorem dX6_back_16 : decode cX6_back 16 = .ok (.if_icmp .ge 21, 3) := by decide +kernel
theorem dX6_back_19 : decode cX6_back 19 = .ok (.aload_n 0, 1) := by decide +kernel
theorem dX6_back_20 : decode cX6_back 20 = .ok (.getfield 38, 3) := by decide +kernel
theorem dX6_back_23 : decode cX6_back 23 = .ok (.iload_n 1, 1) := by decide +kernel
theorem dX6_back_24 : decode cX6_back 24 = .ok (.aload_n 0, 1) := by decide +kernel
theorem dX6_back_25 : decode cX6_back 25 = .ok (.getfield 50, 3) := by decide +kernel
theorem dX6_back_28 : decode cX6_back 28 = .ok (.iload_n 1, 1) := by decide +kernel
theorem dX6_back_29 : decode cX6_back 29 = .ok (.iaload, 1) := by decide +kernel
theorem dX6_back_30 : decode cX6_back 30 = .ok (.iastore, 1) := by decide +kernel
theorem dX6_back_31 : decode cX6_back 31 = .ok (.iinc 1 1, 3) := by decide +kernel
theorem dX6_back_34 : decode cX6_back 34 = .ok (.goto (-21), 3) := by decide +kernel
theorem dX6_back_37 : decode cX6_back 37 = .ok (.iconst 0, 1) := by decide +kernel
theorem dX6_back_38 : decode cX6_back 38 = .ok (.istore_n 1, 1) := by decide +kernel
theorem dX6_back_39 : decode cX6_back 39 = .ok (.iload_n 1, 1) := by decide +kernel
theorem dX6_back_40 : decode cX6_back 40 = .ok (.bipush 32, 2) := by decide +kernel
theorem dX6_back_42 : decode cX6_back 42 = .ok (.if_icmp .ge 21, 3) := by decide +kernel
theorem dX6_back_45 : decode cX6_back 45 = .ok (.aload_n 0, 1) := by decide +kernel
theorem dX6_back_46 : decode cX6_back 46 = .ok (.getfield 35, 3) := by decide +kernel
theorem dX6_back_49 : decode cX6_back 49 = .ok (.iload_n 1, 1) := by decide +kernel
theorem dX6_back_50 : decode cX6_back 50 = .ok (.aload_n 0, 1) := by decide +kernel
theorem dX6_back_51 : decode cX6_back 51 = .ok (.getfield 53, 3) := by decide +kernel
theorem dX6_back_54 : decode cX6_back 54 = .ok (.iload_n 1, 1) := by decide +kernel
theorem dX6_back_55 : decode cX6_back 55 = .ok (.iaload, 1) := by decide +kernel
theorem dX6_back_56 : decode cX6_back 56 = .ok (.iastore, 1) := by decide +kernel
theorem dX6_back_57 : decode cX6_back 57 = .ok (.iinc 1 1, 3) := by decide +kernel
theorem dX6_back_60 : decode cX6_back 60 = .ok (.goto (-21), 3) := by decide +kernel
theorem dX6_back_63 : decode cX6_back 63 = .ok (.aload_n 0, 1) := by decide +kernel
theorem dX6_back_64 : decode cX6_back 64 = .ok (.aload_n 0, 1) := by decide +kernel
theorem dX6_back_65 : decode cX6_back 65 = .ok (.getfield 56, 3) := by decide +kernel
theorem dX6_back_68 : decode cX6_back 68 = .ok (.putfield 83, 3) := by decide +kernel
theorem dX6_back_71 : decode cX6_back 71 = .ok (.aload_n 0, 1) := by decide +kernel
theorem dX6_back_72 : decode cX6_back 72 = .ok (.aload_n 0, 1) := by decide +kernel
theorem dX6_back_73 : decode cX6_back 73 = .ok (.getfield 363, 3) := by decide +kernel
theorem dX6_back_76 : decode cX6_back 76 = .ok (.putfield 117, 3) := by decide +kernel
theorem dX6_back_79 : decode cX6_back 79 = .ok (.aload_n 0, 1) := by decide +kernel
theorem dX6_back_80 : decode cX6_back 80 = .ok (.aload_n 0, 1) := by decide +kernel
theorem dX6_back_81 : decode cX6_back 81 = .ok (.getfield 366, 3) := by decide +kernel
theorem dX6_back_84 : decode cX6_back 84 = .ok (.putfield 32, 3) := by decide +kernel
theorem dX6_back_87 : decode cX6_back 87 = .ok (.aload_n 0, 1) := by decide +kernel
theorem dX6_back_88 : decode cX6_back 88 = .ok (.aload_n 0, 1) := by decide +kernel
theorem dX6_back_89 : decode cX6_back 89 = .ok (.getfield 369, 3) := by decide +kernel
theorem dX6_back_92 : decode cX6_back 92 = .ok (.putfield 120, 3) := by decide +kernel
theorem dX6_back_95 : decode cX6_back 95 = .ok (.aload_n 0, 1) := by decide +kernel
theorem dX6_back_96 : decode cX6_back 96 = .ok (.getfield 83, 3) := by decide +kernel
theorem dX6_back_99 : decode cX6_back 99 = .ok (.ireturn, 1) := by decide +kernel
theorem dX6_washed_0 : decode cX6_washed 0 = .ok (.iconst 0, 1) := by decide +kernel
theorem dX6_washed_1 : decode cX6_washed 1 = .ok (.istore_n 1, 1) := by decide +kernel
theorem dX6_washed_2 : decode cX6_washed 2 = .ok (.iconst 0, 1) := by decide +kernel
theorem dX6_washed_3 : decode cX6_washed 3 = .ok (.istore_n 2, 1) := by decide +kernel
theorem dX6_washed_4 : decode cX6_washed 4 = .ok (.iload_n 2, 1) := by decide +kernel
theorem dX6_washed_5 : decode cX6_washed 5 = .ok (.bipush 32, 2) := by decide +kernel
theorem dX6_washed_7 : decode cX6_washed 7 = .ok (.if_icmp .ge 26, 3) := by decide +kernel
theorem dX6_washed_10 : decode cX6_washed 10 = .ok (.iload_n 1, 1) := by decide +kernel
theorem dX6_washed_11 : decode cX6_washed 11 = .ok (.aload_n 0, 1) := by decide +kernel
theorem dX6_washed_12 : decode cX6_washed 12 = .ok (.getfield 35, 3) := by decide +kernel
theorem dX6_washed_15 : decode cX6_washed 15 = .ok (.iload_n 2, 1) := by decide +kernel
theorem dX6_washed_16 : decode cX6_washed 16 = .ok (.iaload, 1) := by decide +kernel
theorem dX6_washed_17 : decode cX6_washed 17 = .ok (.ifCond .ne 7, 3) := by decide +kernel
theorem dX6_washed_20 : decode cX6_washed 20 = .ok (.iconst 1, 1) := by decide +kernel
theorem dX6_washed_21 : decode cX6_washed 21 = .ok (.goto 4, 3) := by decide +kernel
theorem dX6_washed_24 : decode cX6_washed 24 = .ok (.iconst 0, 1) := by decide +kernel
theorem dX6_washed_25 : decode cX6_washed 25 = .ok (.iadd, 1) := by decide +kernel
theorem dX6_washed_26 : decode cX6_washed 26 = .ok (.istore_n 1, 1) := by decide +kernel
theorem dX6_washed_27 : decode cX6_washed 27 = .ok (.iinc 2 1, 3) := by decide +kernel
theorem dX6_washed_30 : decode cX6_washed 30 = .ok (.goto (-26), 3) := by decide +kernel
theorem dX6_washed_33 : decode cX6_washed 33 = .ok (.iload_n 1, 1) := by decide +kernel
theorem dX6_washed_34 : decode cX6_washed 34 = .ok (.ireturn, 1) := by decide +kernel
theorem dX6_count_0 : decode cX6_count 0 = .ok (.iload_n 1, 1) := by decide +kernel
theorem dX6_count_1 : decode cX6_count 1 = .ok (.i2l, 1) := by decide +kernel
theorem dX6_count_2 : decode cX6_count 2 = .ok (.lconst 0, 1) := by decide +kernel
theorem dX6_count_3 : decode cX6_count 3 = .ok (.ldc2_w 123, 3) := by decide +kernel
theorem dX6_count_6 : decode cX6_count 6 = .ok (.invokestatic 86, 3) := by decide +kernel
theorem dX6_count_9 : decode cX6_count 9 = .ok (.ifCond .ne 6, 3) := by decide +kernel
theorem dX6_count_12 : decode cX6_count 12 = .ok (.bipush (-2), 2) := by decide +kernel
theorem dX6_count_14 : decode cX6_count 14 = .ok (.ireturn, 1) := by decide +kernel
theorem dX6_count_15 : decode cX6_count 15 = .ok (.iload_n 1, 1) := by decide +kernel
theorem dX6_count_16 : decode cX6_count 16 = .ok (.ifCond .ne 10, 3) := by decide +kernel
theorem dX6_count_19 : decode cX6_count 19 = .ok (.aload_n 0, 1) := by decide +kernel
theorem dX6_count_20 : decode cX6_count 20 = .ok (.getfield 83, 3) := by decide +kernel
theorem dX6_count_23 : decode cX6_count 23 = .ok (.goto 55, 3) := by decide +kernel
theorem dX6_count_26 : decode cX6_count 26 = .ok (.iload_n 1, 1) := by decide +kernel
theorem dX6_count_27 : decode cX6_count 27 = .ok (.iconst 1, 1) := by decide +kernel
theorem dX6_count_28 : decode cX6_count 28 = .ok (.if_icmp .ne 10, 3) := by decide +kernel
theorem dX6_count_31 : decode cX6_count 31 = .ok (.aload_n 0, 1) := by decide +kernel
theorem dX6_count_32 : decode cX6_count 32 = .ok (.invokevirtual 372, 3) := by decide +kernel
theorem dX6_count_35 : decode cX6_count 35 = .ok (.goto 43, 3) := by decide +kernel
theorem dX6_count_38 : decode cX6_count 38 = .ok (.iload_n 1, 1) := by decide +kernel
theorem dX6_count_39 : decode cX6_count 39 = .ok (.iconst 2, 1) := by decide +kernel
theorem dX6_count_40 : decode cX6_count 40 = .ok (.if_icmp .ne 10, 3) := by decide +kernel
theorem dX6_count_43 : decode cX6_count 43 = .ok (.aload_n 0, 1) := by decide +kernel
theorem dX6_count_44 : decode cX6_count 44 = .ok (.getfield 117, 3) := by decide +kernel
theorem dX6_count_47 : decode cX6_count 47 = .ok (.goto 31, 3) := by decide +kernel
theorem dX6_count_50 : decode cX6_count 50 = .ok (.iload_n 1, 1) := by decide +kernel
theorem dX6_count_51 : decode cX6_count 51 = .ok (.iconst 3, 1) := by decide +kernel
theorem dX6_count_52 : decode cX6_count 52 = .ok (.if_icmp .ne 10, 3) := by decide +kernel
theorem dX6_count_55 : decode cX6_count 55 = .ok (.aload_n 0, 1) := by decide +kernel
theorem dX6_count_56 : decode cX6_count 56 = .ok (.getfield 80, 3) := by decide +kernel
theorem dX6_count_59 : decode cX6_count 59 = .ok (.goto 19, 3) := by decide +kernel
theorem dX6_count_62 : decode cX6_count 62 = .ok (.iload_n 1, 1) := by decide +kernel
theorem dX6_count_63 : decode cX6_count 63 = .ok (.iconst 4, 1) := by decide +kernel
theorem dX6_count_64 : decode cX6_count 64 = .ok (.if_icmp .ne 10, 3) := by decide +kernel
theorem dX6_count_67 : decode cX6_count 67 = .ok (.aload_n 0, 1) := by decide +kernel
theorem dX6_count_68 : decode cX6_count 68 = .ok (.getfield 152, 3) := by decide +kernel
theorem dX6_count_71 : decode cX6_count 71 = .ok (.goto 7, 3) := by decide +kernel
theorem dX6_count_74 : decode cX6_count 74 = .ok (.aload_n 0, 1) := by decide +kernel
theorem dX6_count_75 : decode cX6_count 75 = .ok (.getfield 120, 3) := by decide +kernel
theorem dX6_count_78 : decode cX6_count 78 = .ok (.ireturn, 1) := by decide +kernel
theorem dX6_isSheet_0 : decode cX6_isSheet 0 = .ok (.iload_n 0, 1) := by decide +kernel
theorem dX6_isSheet_1 : decode cX6_isSheet 1 = .ok (.i2l, 1) := by decide +kernel
theorem dX6_isSheet_2 : decode cX6_isSheet 2 = .ok (.lconst 0, 1) := by decide +kernel
theorem dX6_isSheet_3 : decode cX6_isSheet 3 = .ok (.ldc2_w 375, 3) := by decide +kernel
theorem dX6_isSheet_6 : decode cX6_isSheet 6 = .ok (.invokestatic 86, 3) := by decide +kernel
theorem dX6_isSheet_9 : decode cX6_isSheet 9 = .ok (.ireturn, 1) := by decide +kernel
theorem dX6_sheet_0 : decode cX6_sheet 0 = .ok (.iload_n 1, 1) := by decide +kernel
theorem dX6_sheet_1 : decode cX6_sheet 1 = .ok (.invokestatic 346, 3) := by decide +kernel
theorem dX6_sheet_4 : decode cX6_sheet 4 = .ok (.ifCond .eq 27, 3) := by decide +kernel
theorem dX6_sheet_7 : decode cX6_sheet 7 = .ok (.iload_n 2, 1) := by decide +kernel
theorem dX6_sheet_8 : decode cX6_sheet 8 = .ok (.i2l, 1) := by decide +kernel
theorem dX6_sheet_9 : decode cX6_sheet 9 = .ok (.ldc2_w 377, 3) := by decide +kernel
theorem dX6_sheet_12 : decode cX6_sheet 12 = .ok (.ldc2_w 328, 3) := by decide +kernel
theorem dX6_sheet_15 : decode cX6_sheet 15 = .ok (.invokestatic 86, 3) := by decide +kernel
theorem dX6_sheet_18 : decode cX6_sheet 18 = .ok (.ifCond .eq 13, 3) := by decide +kernel
theorem dX6_sheet_21 : decode cX6_sheet 21 = .ok (.iload_n 2, 1) := by decide +kernel
theorem dX6_sheet_22 : decode cX6_sheet 22 = .ok (.ifCond .lt 12, 3) := by decide +kernel
theorem dX6_sheet_25 : decode cX6_sheet 25 = .ok (.iload_n 3, 1) := by decide +kernel
theorem dX6_sheet_26 : decode cX6_sheet 26 = .ok (.bipush 40, 2) := by decide +kernel
theorem dX6_sheet_28 : decode cX6_sheet 28 = .ok (.if_icmp .le 6, 3) := by decide +kernel
theorem dX6_sheet_31 : decode cX6_sheet 31 = .ok (.bipush (-2), 2) := by decide +kernel
theorem dX6_sheet_33 : decode cX6_sheet 33 = .ok (.ireturn, 1) := by decide +kernel
theorem dX6_sheet_34 : decode cX6_sheet 34 = .ok (.iload_n 2, 1) := by decide +kernel
theorem dX6_sheet_35 : decode cX6_sheet 35 = .ok (.ifCond .lt 10, 3) := by decide +kernel
theorem dX6_sheet_38 : decode cX6_sheet 38 = .ok (.iload_n 3, 1) := by decide +kernel
theorem dX6_sheet_39 : decode cX6_sheet 39 = .ok (.ifCond .ge 6, 3) := by decide +kernel
theorem dX6_sheet_42 : decode cX6_sheet 42 = .ok (.bipush (-14), 2) := by decide +kernel
theorem dX6_sheet_44 : decode cX6_sheet 44 = .ok (.ireturn, 1) := by decide +kernel
theorem dX6_sheet_45 : decode cX6_sheet 45 = .ok (.aload_n 0, 1) := by decide +kernel
theorem dX6_sheet_46 : decode cX6_sheet 46 = .ok (.getfield 59, 3) := by decide +kernel
theorem dX6_sheet_49 : decode cX6_sheet 49 = .ok (.iload_n 1, 1) := by decide +kernel
theorem dX6_sheet_50 : decode cX6_sheet 50 = .ok (.iload_n 2, 1) := by decide +kernel
theorem dX6_sheet_51 : decode cX6_sheet 51 = .ok (.ifCond .lt 7, 3) := by decide +kernel
theorem dX6_sheet_54 : decode cX6_sheet 54 = .ok (.iconst 1, 1) := by decide +kernel
theorem dX6_sheet_55 : decode cX6_sheet 55 = .ok (.goto 4, 3) := by decide +kernel
theorem dX6_sheet_58 : decode cX6_sheet 58 = .ok (.iconst 0, 1) := by decide +kernel
theorem dX6_sheet_59 : decode cX6_sheet 59 = .ok (.bastore, 1) := by decide +kernel
theorem dX6_sheet_60 : decode cX6_sheet 60 = .ok (.aload_n 0, 1) := by decide +kernel
theorem dX6_sheet_61 : decode cX6_sheet 61 = .ok (.getfield 63, 3) := by decide +kernel
theorem dX6_sheet_64 : decode cX6_sheet 64 = .ok (.iload_n 1, 1) := by decide +kernel
theorem dX6_sheet_65 : decode cX6_sheet 65 = .ok (.iload_n 2, 1) := by decide +kernel
theorem dX6_sheet_66 : decode cX6_sheet 66 = .ok (.iastore, 1) := by decide +kernel
theorem dX6_sheet_67 : decode cX6_sheet 67 = .ok (.aload_n 0, 1) := by decide +kernel
theorem dX6_sheet_68 : decode cX6_sheet 68 = .ok (.getfield 66, 3) := by decide +kernel
theorem dX6_sheet_71 : decode cX6_sheet 71 = .ok (.iload_n 1, 1) := by decide +kernel
theorem dX6_sheet_72 : decode cX6_sheet 72 = .ok (.iload_n 3, 1) := by decide +kernel
theorem dX6_sheet_73 : decode cX6_sheet 73 = .ok (.iastore, 1) := by decide +kernel
theorem dX6_sheet_74 : decode cX6_sheet 74 = .ok (.iconst 0, 1) := by decide +kernel
theorem dX6_sheet_75 : decode cX6_sheet 75 = .ok (.istore 4, 2) := by decide +kernel
theorem dX6_sheet_77 : decode cX6_sheet 77 = .ok (.iload 4, 2) := by decide +kernel
theorem dX6_sheet_79 : decode cX6_sheet 79 = .ok (.iload_n 3, 1) := by decide +kernel
theorem dX6_sheet_80 : decode cX6_sheet 80 = .ok (.if_icmp .ge 26, 3) := by decide +kernel
theorem dX6_sheet_83 : decode cX6_sheet 83 = .ok (.iload_n 2, 1) := by decide +kernel
theorem dX6_sheet_84 : decode cX6_sheet 84 = .ok (.ifCond .lt 22, 3) := by decide +kernel
theorem dX6_sheet_87 : decode cX6_sheet 87 = .ok (.aload_n 0, 1) := by decide +kernel
theorem dX6_sheet_88 : decode cX6_sheet 88 = .ok (.getfield 69, 3) := by decide +kernel
theorem dX6_sheet_91 : decode cX6_sheet 91 = .ok (.bipush 40, 2) := by decide +kernel
theorem dX6_sheet_93 : decode cX6_sheet 93 = .ok (.iload_n 1, 1) := by decide +kernel
theorem dX6_sheet_94 : decode cX6_sheet 94 = .ok (.imul, 1) := by decide +kernel
theorem dX6_sheet_95 : decode cX6_sheet 95 = .ok (.iload 4, 2) := by decide +kernel
theorem dX6_sheet_97 : decode cX6_sheet 97 = .ok (.iadd, 1) := by decide +kernel
theorem dX6_sheet_98 : decode cX6_sheet 98 = .ok (.iconst 0, 1) := by decide +kernel
theorem dX6_sheet_99 : decode cX6_sheet 99 = .ok (.iastore, 1) := by decide +kernel
theorem dX6_sheet_100 : decode cX6_sheet 100 = .ok (.iinc 4 1, 3) := by decide +kernel
theorem dX6_sheet_103 : decode cX6_sheet 103 = .ok (.goto (-26), 3) := by decide +kernel
theorem dX6_sheet_106 : decode cX6_sheet 106 = .ok (.iconst 1, 1) := by decide +kernel
theorem dX6_sheet_107 : decode cX6_sheet 107 = .ok (.ireturn, 1) := by decide +kernel
theorem dX6_cell_0 : decode cX6_cell 0 = .ok (.iload_n 1, 1) := by decide +kernel
theorem dX6_cell_1 : decode cX6_cell 1 = .ok (.invokestatic 346, 3) := by decide +kernel
theorem dX6_cell_4 : decode cX6_cell 4 = .ok (.ifCond .ne 6, 3) := by decide +kernel
theorem dX6_cell_7 : decode cX6_cell 7 = .ok (.bipush (-2), 2) := by decide +kernel
theorem dX6_cell_9 : decode cX6_cell 9 = .ok (.ireturn, 1) := by decide +kernel
theorem dX6_cell_10 : decode cX6_cell 10 = .ok (.aload_n 0, 1) := by decide +kernel
theorem dX6_cell_11 : decode cX6_cell 11 = .ok (.getfield 59, 3) := by decide +kernel
theorem dX6_cell_14 : decode cX6_cell 14 = .ok (.iload_n 1, 1) := by decide +kernel
theorem dX6_cell_15 : decode cX6_cell 15 = .ok (.baload, 1) := by decide +kernel
theorem dX6_cell_16 : decode cX6_cell 16 = .ok (.ifCond .ne 6, 3) := by decide +kernel
theorem dX6_cell_19 : decode cX6_cell 19 = .ok (.bipush (-11), 2) := by decide +kernel
theorem dX6_cell_21 : decode cX6_cell 21 = .ok (.ireturn, 1) := by decide +kernel
theorem dX6_cell_22 : decode cX6_cell 22 = .ok (.iload_n 2, 1) := by decide +kernel
theorem dX6_cell_23 : decode cX6_cell 23 = .ok (.i2l, 1) := by decide +kernel
theorem dX6_cell_24 : decode cX6_cell 24 = .ok (.lconst 0, 1) := by decide +kernel
theorem dX6_cell_25 : decode cX6_cell 25 = .ok (.aload_n 0, 1) := by decide +kernel
theorem dX6_cell_26 : decode cX6_cell 26 = .ok (.getfield 66, 3) := by decide +kernel
theorem dX6_cell_29 : decode cX6_cell 29 = .ok (.iload_n 1, 1) := by decide +kernel
theorem dX6_cell_30 : decode cX6_cell 30 = .ok (.iaload, 1) := by decide +kernel
theorem dX6_cell_31 : decode cX6_cell 31 = .ok (.iconst 1, 1) := by decide +kernel
theorem dX6_cell_32 : decode cX6_cell 32 = .ok (.isub, 1) := by decide +kernel
theorem dX6_cell_33 : decode cX6_cell 33 = .ok (.i2l, 1) := by decide +kernel
theorem dX6_cell_34 : decode cX6_cell 34 = .ok (.invokestatic 86, 3) := by decide +kernel
theorem dX6_cell_37 : decode cX6_cell 37 = .ok (.ifCond .ne 6, 3) := by decide +kernel
theorem dX6_cell_40 : decode cX6_cell 40 = .ok (.bipush (-12), 2) := by decide +kernel
theorem dX6_cell_42 : decode cX6_cell 42 = .ok (.ireturn, 1) := by decide +kernel
theorem dX6_cell_43 : decode cX6_cell 43 = .ok (.aload_n 0, 1) := by decide +kernel
theorem dX6_cell_44 : decode cX6_cell 44 = .ok (.getfield 69, 3) := by decide +kernel
theorem dX6_cell_47 : decode cX6_cell 47 = .ok (.bipush 40, 2) := by decide +kernel
theorem dX6_cell_49 : decode cX6_cell 49 = .ok (.iload_n 1, 1) := by decide +kernel
theorem dX6_cell_50 : decode cX6_cell 50 = .ok (.imul, 1) := by decide +kernel
theorem dX6_cell_51 : decode cX6_cell 51 = .ok (.iload_n 2, 1) := by decide +kernel
theorem dX6_cell_52 : decode cX6_cell 52 = .ok (.iadd, 1) := by decide +kernel
theorem dX6_cell_53 : decode cX6_cell 53 = .ok (.aload_n 0, 1) := by decide +kernel
theorem dX6_cell_54 : decode cX6_cell 54 = .ok (.getfield 63, 3) := by decide +kernel
theorem dX6_cell_57 : decode cX6_cell 57 = .ok (.iload_n 1, 1) := by decide +kernel
theorem dX6_cell_58 : decode cX6_cell 58 = .ok (.iaload, 1) := by decide +kernel
theorem dX6_cell_59 : decode cX6_cell 59 = .ok (.ifCond .ne 8, 3) := by decide +kernel
theorem dX6_cell_62 : decode cX6_cell 62 = .ok (.iload_n 3, 1) := by decide +kernel
theorem dX6_cell_63 : decode cX6_cell 63 = .ok (.i2b, 1) := by decide +kernel
theorem dX6_cell_64 : decode cX6_cell 64 = .ok (.goto 19, 3) := by decide +kernel
theorem dX6_cell_67 : decode cX6_cell 67 = .ok (.aload_n 0, 1) := by decide +kernel
theorem dX6_cell_68 : decode cX6_cell 68 = .ok (.getfield 63, 3) := by decide +kernel
theorem dX6_cell_71 : decode cX6_cell 71 = .ok (.iload_n 1, 1) := by decide +kernel
theorem dX6_cell_72 : decode cX6_cell 72 = .ok (.iaload, 1) := by decide +kernel
theorem dX6_cell_73 : decode cX6_cell 73 = .ok (.iconst 1, 1) := by decide +kernel
theorem dX6_cell_74 : decode cX6_cell 74 = .ok (.if_icmp .ne 8, 3) := by decide +kernel
theorem dX6_cell_77 : decode cX6_cell 77 = .ok (.iload_n 3, 1) := by decide +kernel
theorem dX6_cell_78 : decode cX6_cell 78 = .ok (.i2s, 1) := by decide +kernel
theorem dX6_cell_79 : decode cX6_cell 79 = .ok (.goto 4, 3) := by decide +kernel
theorem dX6_cell_82 : decode cX6_cell 82 = .ok (.iload_n 3, 1) := by decide +kernel
theorem dX6_cell_83 : decode cX6_cell 83 = .ok (.iastore, 1) := by decide +kernel
theorem dX6_cell_84 : decode cX6_cell 84 = .ok (.iconst 1, 1) := by decide +kernel
theorem dX6_cell_85 : decode cX6_cell 85 = .ok (.ireturn, 1) := by decide +kernel
theorem dX6_copy_0 : decode cX6_copy 0 = .ok (.iload_n 1, 1) := by decide +kernel
theorem dX6_copy_1 : decode cX6_copy 1 = .ok (.invokestatic 346, 3) := by decide +kernel
theorem dX6_copy_4 : decode cX6_copy 4 = .ok (.ifCond .eq 10, 3) := by decide +kernel
theorem dX6_copy_7 : decode cX6_copy 7 = .ok (.iload_n 3, 1) := by decide +kernel
theorem dX6_copy_8 : decode cX6_copy 8 = .ok (.invokestatic 346, 3) := by decide +kernel
theorem dX6_copy_11 : decode cX6_copy 11 = .ok (.ifCond .ne 6, 3) := by decide +kernel
theorem dX6_copy_14 : decode cX6_copy 14 = .ok (.bipush (-2), 2) := by decide +kernel
theorem dX6_copy_16 : decode cX6_copy 16 = .ok (.ireturn, 1) := by decide +kernel
theorem dX6_copy_17 : decode cX6_copy 17 = .ok (.aload_n 0, 1) := by decide +kernel
theorem dX6_copy_18 : decode cX6_copy 18 = .ok (.getfield 59, 3) := by decide +kernel
theorem dX6_copy_21 : decode cX6_copy 21 = .ok (.iload_n 1, 1) := by decide +kernel
theorem dX6_copy_22 : decode cX6_copy 22 = .ok (.baload, 1) := by decide +kernel
theorem dX6_copy_23 : decode cX6_copy 23 = .ok (.ifCond .eq 12, 3) := by decide +kernel
theorem dX6_copy_26 : decode cX6_copy 26 = .ok (.aload_n 0, 1) := by decide +kernel
theorem dX6_copy_27 : decode cX6_copy 27 = .ok (.getfield 59, 3) := by decide +kernel
theorem dX6_copy_30 : decode cX6_copy 30 = .ok (.iload_n 3, 1) := by decide +kernel
theorem dX6_copy_31 : decode cX6_copy 31 = .ok (.baload, 1) := by decide +kernel
theorem dX6_copy_32 : decode cX6_copy 32 = .ok (.ifCond .ne 6, 3) := by decide +kernel
theorem dX6_copy_35 : decode cX6_copy 35 = .ok (.bipush (-11), 2) := by decide +kernel
theorem dX6_copy_37 : decode cX6_copy 37 = .ok (.ireturn, 1) := by decide +kernel
theorem dX6_copy_38 : decode cX6_copy 38 = .ok (.aload_n 0, 1) := by decide +kernel
theorem dX6_copy_39 : decode cX6_copy 39 = .ok (.getfield 63, 3) := by decide +kernel
theorem dX6_copy_42 : decode cX6_copy 42 = .ok (.iload_n 1, 1) := by decide +kernel
theorem dX6_copy_43 : decode cX6_copy 43 = .ok (.iaload, 1) := by decide +kernel
theorem dX6_copy_44 : decode cX6_copy 44 = .ok (.aload_n 0, 1) := by decide +kernel
theorem dX6_copy_45 : decode cX6_copy 45 = .ok (.getfield 63, 3) := by decide +kernel
theorem dX6_copy_48 : decode cX6_copy 48 = .ok (.iload_n 3, 1) := by decide +kernel
theorem dX6_copy_49 : decode cX6_copy 49 = .ok (.iaload, 1) := by decide +kernel
theorem dX6_copy_50 : decode cX6_copy 50 = .ok (.if_icmp .eq 6, 3) := by decide +kernel
theorem dX6_copy_53 : decode cX6_copy 53 = .ok (.bipush (-13), 2) := by decide +kernel
theorem dX6_copy_55 : decode cX6_copy 55 = .ok (.ireturn, 1) := by decide +kernel
theorem dX6_copy_56 : decode cX6_copy 56 = .ok (.iload 5, 2) := by decide +kernel
theorem dX6_copy_58 : decode cX6_copy 58 = .ok (.ifCond .lt 39, 3) := by decide +kernel
theorem dX6_copy_61 : decode cX6_copy 61 = .ok (.iload_n 2, 1) := by decide +kernel
theorem dX6_copy_62 : decode cX6_copy 62 = .ok (.ifCond .lt 35, 3) := by decide +kernel
theorem dX6_copy_65 : decode cX6_copy 65 = .ok (.iload 4, 2) := by decide +kernel
theorem dX6_copy_67 : decode cX6_copy 67 = .ok (.ifCond .lt 30, 3) := by decide +kernel
theorem dX6_copy_70 : decode cX6_copy 70 = .ok (.iload_n 2, 1) := by decide +kernel
theorem dX6_copy_71 : decode cX6_copy 71 = .ok (.aload_n 0, 1) := by decide +kernel
theorem dX6_copy_72 : decode cX6_copy 72 = .ok (.getfield 66, 3) := by decide +kernel
theorem dX6_copy_75 : decode cX6_copy 75 = .ok (.iload_n 1, 1) := by decide +kernel
theorem dX6_copy_76 : decode cX6_copy 76 = .ok (.iaload, 1) := by decide +kernel
theorem dX6_copy_77 : decode cX6_copy 77 = .ok (.iload 5, 2) := by decide +kernel
theorem dX6_copy_79 : decode cX6_copy 79 = .ok (.isub, 1) := by decide +kernel
theorem dX6_copy_80 : decode cX6_copy 80 = .ok (.if_icmp .gt 17, 3) := by decide +kernel
theorem dX6_copy_83 : decode cX6_copy 83 = .ok (.iload 4, 2) := by decide +kernel
theorem dX6_copy_85 : decode cX6_copy 85 = .ok (.aload_n 0, 1) := by decide +kernel
theorem dX6_copy_86 : decode cX6_copy 86 = .ok (.getfield 66, 3) := by decide +kernel
theorem dX6_copy_89 : decode cX6_copy 89 = .ok (.iload_n 3, 1) := by decide +kernel
theorem dX6_copy_90 : decode cX6_copy 90 = .ok (.iaload, 1) := by decide +kernel
theorem dX6_copy_91 : decode cX6_copy 91 = .ok (.iload 5, 2) := by decide +kernel
theorem dX6_copy_93 : decode cX6_copy 93 = .ok (.isub, 1) := by decide +kernel
theorem dX6_copy_94 : decode cX6_copy 94 = .ok (.if_icmp .le 6, 3) := by decide +kernel
theorem dX6_copy_97 : decode cX6_copy 97 = .ok (.bipush (-12), 2) := by decide +kernel
theorem dX6_copy_99 : decode cX6_copy 99 = .ok (.ireturn, 1) := by decide +kernel
theorem dX6_copy_100 : decode cX6_copy 100 = .ok (.iload_n 1, 1) := by decide +kernel
theorem dX6_copy_101 : decode cX6_copy 101 = .ok (.iload_n 3, 1) := by decide +kernel
theorem dX6_copy_102 : decode cX6_copy 102 = .ok (.if_icmp .ne 13, 3) := by decide +kernel
theorem dX6_copy_105 : decode cX6_copy 105 = .ok (.iload_n 2, 1) := by decide +kernel
theorem dX6_copy_106 : decode cX6_copy 106 = .ok (.iload 4, 2) := by decide +kernel
theorem dX6_copy_108 : decode cX6_copy 108 = .ok (.if_icmp .ge 7, 3) := by decide +kernel
theorem dX6_copy_111 : decode cX6_copy 111 = .ok (.iconst 1, 1) := by decide +kernel
theorem dX6_copy_112 : decode cX6_copy 112 = .ok (.goto 4, 3) := by decide +kernel
theorem dX6_copy_115 : decode cX6_copy 115 = .ok (.iconst 0, 1) := by decide +kernel
theorem dX6_copy_116 : decode cX6_copy 116 = .ok (.istore 6, 2) := by decide +kernel
theorem dX6_copy_118 : decode cX6_copy 118 = .ok (.iconst 0, 1) := by decide +kernel
theorem dX6_copy_119 : decode cX6_copy 119 = .ok (.istore 7, 2) := by decide +kernel
theorem dX6_copy_121 : decode cX6_copy 121 = .ok (.iload 7, 2) := by decide +kernel
theorem dX6_copy_123 : decode cX6_copy 123 = .ok (.iload 5, 2) := by decide +kernel
theorem dX6_copy_125 : decode cX6_copy 125 = .ok (.if_icmp .ge 57, 3) := by decide +kernel
theorem dX6_copy_128 : decode cX6_copy 128 = .ok (.iload 6, 2) := by decide +kernel
theorem dX6_copy_130 : decode cX6_copy 130 = .ok (.ifCond .eq 13, 3) := by decide +kernel
theorem dX6_copy_133 : decode cX6_copy 133 = .ok (.iload 5, 2) := by decide +kernel
theorem dX6_copy_135 : decode cX6_copy 135 = .ok (.iconst 1, 1) := by decide +kernel
theorem dX6_copy_136 : decode cX6_copy 136 = .ok (.isub, 1) := by decide +kernel
theorem dX6_copy_137 : decode cX6_copy 137 = .ok (.iload 7, 2) := by decide +kernel
theorem dX6_copy_139 : decode cX6_copy 139 = .ok (.isub, 1) := by decide +kernel
theorem dX6_copy_140 : decode cX6_copy 140 = .ok (.goto 5, 3) := by decide +kernel
theorem dX6_copy_143 : decode cX6_copy 143 = .ok (.iload 7, 2) := by decide +kernel
theorem dX6_copy_145 : decode cX6_copy 145 = .ok (.istore 8, 2) := by decide +kernel
theorem dX6_copy_147 : decode cX6_copy 147 = .ok (.aload_n 0, 1) := by decide +kernel
theorem dX6_copy_148 : decode cX6_copy 148 = .ok (.getfield 69, 3) := by decide +kernel
theorem dX6_copy_151 : decode cX6_copy 151 = .ok (.bipush 40, 2) := by decide +kernel
theorem dX6_copy_153 : decode cX6_copy 153 = .ok (.iload_n 3, 1) := by decide +kernel
theorem dX6_copy_154 : decode cX6_copy 154 = .ok (.imul, 1) := by decide +kernel
theorem dX6_copy_155 : decode cX6_copy 155 = .ok (.iload 4, 2) := by decide +kernel
theorem dX6_copy_157 : decode cX6_copy 157 = .ok (.iadd, 1) := by decide +kernel
theorem dX6_copy_158 : decode cX6_copy 158 = .ok (.iload 8, 2) := by decide +kernel
theorem dX6_copy_160 : decode cX6_copy 160 = .ok (.iadd, 1) := by decide +kernel
theorem dX6_copy_161 : decode cX6_copy 161 = .ok (.aload_n 0, 1) := by decide +kernel
theorem dX6_copy_162 : decode cX6_copy 162 = .ok (.getfield 69, 3) := by decide +kernel
theorem dX6_copy_165 : decode cX6_copy 165 = .ok (.bipush 40, 2) := by decide +kernel
theorem dX6_copy_167 : decode cX6_copy 167 = .ok (.iload_n 1, 1) := by decide +kernel
theorem dX6_copy_168 : decode cX6_copy 168 = .ok (.imul, 1) := by decide +kernel
theorem dX6_copy_169 : decode cX6_copy 169 = .ok (.iload_n 2, 1) := by decide +kernel
theorem dX6_copy_170 : decode cX6_copy 170 = .ok (.iadd, 1) := by decide +kernel
theorem dX6_copy_171 : decode cX6_copy 171 = .ok (.iload 8, 2) := by decide +kernel
theorem dX6_copy_173 : decode cX6_copy 173 = .ok (.iadd, 1) := by decide +kernel
theorem dX6_copy_174 : decode cX6_copy 174 = .ok (.iaload, 1) := by decide +kernel
theorem dX6_copy_175 : decode cX6_copy 175 = .ok (.iastore, 1) := by decide +kernel
theorem dX6_copy_176 : decode cX6_copy 176 = .ok (.iinc 7 1, 3) := by decide +kernel
theorem dX6_copy_179 : decode cX6_copy 179 = .ok (.goto (-58), 3) := by decide +kernel
theorem dX6_copy_182 : decode cX6_copy 182 = .ok (.iload 5, 2) := by decide +kernel
theorem dX6_copy_184 : decode cX6_copy 184 = .ok (.ireturn, 1) := by decide +kernel
theorem dX6_family_0 : decode cX6_family 0 = .ok (.iload_n 1, 1) := by decide +kernel
theorem dX6_family_1 : decode cX6_family 1 = .ok (.invokestatic 346, 3) := by decide +kernel
theorem dX6_family_4 : decode cX6_family 4 = .ok (.ifCond .eq 28, 3) := by decide +kernel
theorem dX6_family_7 : decode cX6_family 7 = .ok (.iload_n 2, 1) := by decide +kernel
theorem dX6_family_8 : decode cX6_family 8 = .ok (.i2l, 1) := by decide +kernel
theorem dX6_family_9 : decode cX6_family 9 = .ok (.lconst 0, 1) := by decide +kernel
theorem dX6_family_10 : decode cX6_family 10 = .ok (.ldc2_w 328, 3) := by decide +kernel
theorem dX6_family_13 : decode cX6_family 13 = .ok (.invokestatic 86, 3) := by decide +kernel
theorem dX6_family_16 : decode cX6_family 16 = .ok (.ifCond .eq 16, 3) := by decide +kernel
theorem dX6_family_19 : decode cX6_family 19 = .ok (.iload 4, 2) := by decide +kernel
theorem dX6_family_21 : decode cX6_family 21 = .ok (.i2l, 1) := by decide +kernel
theorem dX6_family_22 : decode cX6_family 22 = .ok (.lconst 0, 1) := by decide +kernel
theorem dX6_family_23 : decode cX6_family 23 = .ok (.ldc2_w 123, 3) := by decide +kernel
theorem dX6_family_26 : decode cX6_family 26 = .ok (.invokestatic 86, 3) := by decide +kernel
theorem dX6_family_29 : decode cX6_family 29 = .ok (.ifCond .ne 6, 3) := by decide +kernel
theorem dX6_family_32 : decode cX6_family 32 = .ok (.bipush (-2), 2) := by decide +kernel
theorem dX6_family_34 : decode cX6_family 34 = .ok (.ireturn, 1) := by decide +kernel
theorem dX6_family_35 : decode cX6_family 35 = .ok (.aload_n 0, 1) := by decide +kernel
theorem dX6_family_36 : decode cX6_family 36 = .ok (.getfield 59, 3) := by decide +kernel
theorem dX6_family_39 : decode cX6_family 39 = .ok (.iload_n 1, 1) := by decide +kernel
theorem dX6_family_40 : decode cX6_family 40 = .ok (.baload, 1) := by decide +kernel
theorem dX6_family_41 : decode cX6_family 41 = .ok (.ifCond .eq 16, 3) := by decide +kernel
theorem dX6_family_44 : decode cX6_family 44 = .ok (.aload_n 0, 1) := by decide +kernel
theorem dX6_family_45 : decode cX6_family 45 = .ok (.getfield 63, 3) := by decide +kernel
theorem dX6_family_48 : decode cX6_family 48 = .ok (.iload_n 1, 1) := by decide +kernel
theorem dX6_family_49 : decode cX6_family 49 = .ok (.iaload, 1) := by decide +kernel
theorem dX6_family_50 : decode cX6_family 50 = .ok (.iload_n 2, 1) := by decide +kernel
theorem dX6_family_51 : decode cX6_family 51 = .ok (.if_icmp .eq 6, 3) := by decide +kernel
theorem dX6_family_54 : decode cX6_family 54 = .ok (.bipush (-13), 2) := by decide +kernel
theorem dX6_family_56 : decode cX6_family 56 = .ok (.ireturn, 1) := by decide +kernel
theorem dX6_family_57 : decode cX6_family 57 = .ok (.aload_n 0, 1) := by decide +kernel
theorem dX6_family_58 : decode cX6_family 58 = .ok (.getfield 59, 3) := by decide +kernel
theorem dX6_family_61 : decode cX6_family 61 = .ok (.iload_n 1, 1) := by decide +kernel
theorem dX6_family_62 : decode cX6_family 62 = .ok (.baload, 1) := by decide +kernel
theorem dX6_family_63 : decode cX6_family 63 = .ok (.ifCond .ne 6, 3) := by decide +kernel
theorem dX6_family_66 : decode cX6_family 66 = .ok (.bipush (-11), 2) := by decide +kernel
theorem dX6_family_68 : decode cX6_family 68 = .ok (.ireturn, 1) := by decide +kernel
theorem dX6_family_69 : decode cX6_family 69 = .ok (.iconst 0, 1) := by decide +kernel
theorem dX6_family_70 : decode cX6_family 70 = .ok (.istore 5, 2) := by decide +kernel
theorem dX6_family_72 : decode cX6_family 72 = .ok (.iconst 0, 1) := by decide +kernel
theorem dX6_family_73 : decode cX6_family 73 = .ok (.istore 6, 2) := by decide +kernel
theorem dX6_family_75 : decode cX6_family 75 = .ok (.iload 6, 2) := by decide +kernel
theorem dX6_family_77 : decode cX6_family 77 = .ok (.iload 4, 2) := by decide +kernel
theorem dX6_family_79 : decode cX6_family 79 = .ok (.if_icmp .ge 88, 3) := by decide +kernel
theorem dX6_family_82 : decode cX6_family 82 = .ok (.iload_n 3, 1) := by decide +kernel
theorem dX6_family_83 : decode cX6_family 83 = .ok (.ifCond .lt 20, 3) := by decide +kernel
theorem dX6_family_86 : decode cX6_family 86 = .ok (.iload_n 3, 1) := by decide +kernel
theorem dX6_family_87 : decode cX6_family 87 = .ok (.aload_n 0, 1) := by decide +kernel
theorem dX6_family_88 : decode cX6_family 88 = .ok (.getfield 66, 3) := by decide +kernel
theorem dX6_family_91 : decode cX6_family 91 = .ok (.iload_n 1, 1) := by decide +kernel
theorem dX6_family_92 : decode cX6_family 92 = .ok (.iaload, 1) := by decide +kernel
theorem dX6_family_93 : decode cX6_family 93 = .ok (.iconst 3, 1) := by decide +kernel
theorem dX6_family_94 : decode cX6_family 94 = .ok (.iload 6, 2) := by decide +kernel
theorem dX6_family_96 : decode cX6_family 96 = .ok (.imul, 1) := by decide +kernel
theorem dX6_family_97 : decode cX6_family 97 = .ok (.isub, 1) := by decide +kernel
theorem dX6_family_98 : decode cX6_family 98 = .ok (.iconst 3, 1) := by decide +kernel
theorem dX6_family_99 : decode cX6_family 99 = .ok (.isub, 1) := by decide +kernel
theorem dX6_family_100 : decode cX6_family 100 = .ok (.if_icmp .le 6, 3) := by decide +kernel
theorem dX6_family_103 : decode cX6_family 103 = .ok (.bipush (-12), 2) := by decide +kernel
theorem dX6_family_105 : decode cX6_family 105 = .ok (.ireturn, 1) := by decide +kernel
theorem dX6_family_106 : decode cX6_family 106 = .ok (.bipush 40, 2) := by decide +kernel
theorem dX6_family_108 : decode cX6_family 108 = .ok (.iload_n 1, 1) := by decide +kernel
theorem dX6_family_109 : decode cX6_family 109 = .ok (.imul, 1) := by decide +kernel
theorem dX6_family_110 : decode cX6_family 110 = .ok (.iload_n 3, 1) := by decide +kernel
theorem dX6_family_111 : decode cX6_family 111 = .ok (.iadd, 1) := by decide +kernel
theorem dX6_family_112 : decode cX6_family 112 = .ok (.iconst 3, 1) := by decide +kernel
theorem dX6_family_113 : decode cX6_family 113 = .ok (.iload 6, 2) := by decide +kernel
theorem dX6_family_115 : decode cX6_family 115 = .ok (.imul, 1) := by decide +kernel
theorem dX6_family_116 : decode cX6_family 116 = .ok (.iadd, 1) := by decide +kernel
theorem dX6_family_117 : decode cX6_family 117 = .ok (.istore 7, 2) := by decide +kernel
theorem dX6_family_119 : decode cX6_family 119 = .ok (.iload 5, 2) := by decide +kernel
theorem dX6_family_121 : decode cX6_family 121 = .ok (.aload_n 0, 1) := by decide +kernel
theorem dX6_family_122 : decode cX6_family 122 = .ok (.aload_n 0, 1) := by decide +kernel
theorem dX6_family_123 : decode cX6_family 123 = .ok (.getfield 69, 3) := by decide +kernel
theorem dX6_family_126 : decode cX6_family 126 = .ok (.iload 7, 2) := by decide +kernel
theorem dX6_family_128 : decode cX6_family 128 = .ok (.iaload, 1) := by decide +kernel
theorem dX6_family_129 : decode cX6_family 129 = .ok (.aload_n 0, 1) := by decide +kernel
theorem dX6_family_130 : decode cX6_family 130 = .ok (.getfield 69, 3) := by decide +kernel
theorem dX6_family_133 : decode cX6_family 133 = .ok (.iload 7, 2) := by decide +kernel
theorem dX6_family_135 : decode cX6_family 135 = .ok (.iconst 1, 1) := by decide +kernel
theorem dX6_family_136 : decode cX6_family 136 = .ok (.iadd, 1) := by decide +kernel
theorem dX6_family_137 : decode cX6_family 137 = .ok (.iaload, 1) := by decide +kernel
theorem dX6_family_138 : decode cX6_family 138 = .ok (.aload_n 0, 1) := by decide +kernel
theorem dX6_family_139 : decode cX6_family 139 = .ok (.getfield 69, 3) := by decide +kernel
theorem dX6_family_142 : decode cX6_family 142 = .ok (.iload 7, 2) := by decide +kernel
theorem dX6_family_144 : decode cX6_family 144 = .ok (.iconst 2, 1) := by decide +kernel
theorem dX6_family_145 : decode cX6_family 145 = .ok (.iadd, 1) := by decide +kernel
theorem dX6_family_146 : decode cX6_family 146 = .ok (.iaload, 1) := by decide +kernel
theorem dX6_family_147 : decode cX6_family 147 = .ok (.invokevirtual 379, 3) := by decide +kernel
theorem dX6_family_150 : decode cX6_family 150 = .ok (.ifCond .lt 7, 3) := by decide +kernel
theorem dX6_family_153 : decode cX6_family 153 = .ok (.iconst 1, 1) := by decide +kernel
theorem dX6_family_154 : decode cX6_family 154 = .ok (.goto 4, 3) := by decide +kernel
theorem dX6_family_157 : decode cX6_family 157 = .ok (.iconst 0, 1) := by decide +kernel
theorem dX6_family_158 : decode cX6_family 158 = .ok (.iadd, 1) := by decide +kernel
theorem dX6_family_159 : decode cX6_family 159 = .ok (.istore 5, 2) := by decide +kernel
theorem dX6_family_161 : decode cX6_family 161 = .ok (.iinc 6 1, 3) := by decide +kernel
theorem dX6_family_164 : decode cX6_family 164 = .ok (.goto (-89), 3) := by decide +kernel
theorem dX6_family_167 : decode cX6_family 167 = .ok (.iload 5, 2) := by decide +kernel
theorem dX6_family_169 : decode cX6_family 169 = .ok (.ireturn, 1) := by decide +kernel
theorem dX6_above_0 : decode cX6_above 0 = .ok (.iload_n 0, 1) := by decide +kernel
theorem dX6_above_1 : decode cX6_above 1 = .ok (.ifCond .ne 7, 3) := by decide +kernel
theorem dX6_above_4 : decode cX6_above 4 = .ok (.iconst (-1), 1) := by decide +kernel
theorem dX6_above_5 : decode cX6_above 5 = .ok (.goto 22, 3) := by decide +kernel
theorem dX6_above_8 : decode cX6_above 8 = .ok (.iload_n 0, 1) := by decide +kernel
theorem dX6_above_9 : decode cX6_above 9 = .ok (.iconst 3, 1) := by decide +kernel
theorem dX6_above_10 : decode cX6_above 10 = .ok (.if_icmp .ne 7, 3) := by decide +kernel
theorem dX6_above_13 : decode cX6_above 13 = .ok (.iconst 1, 1) := by decide +kernel
theorem dX6_above_14 : decode cX6_above 14 = .ok (.goto 13, 3) := by decide +kernel
theorem dX6_above_17 : decode cX6_above 17 = .ok (.iload_n 0, 1) := by decide +kernel
theorem dX6_above_18 : decode cX6_above 18 = .ok (.iconst 4, 1) := by decide +kernel
theorem dX6_above_19 : decode cX6_above 19 = .ok (.if_icmp .ne 7, 3) := by decide +kernel
theorem dX6_above_22 : decode cX6_above 22 = .ok (.iconst 2, 1) := by decide +kernel
theorem dX6_above_23 : decode cX6_above 23 = .ok (.goto 4, 3) := by decide +kernel
theorem dX6_above_26 : decode cX6_above 26 = .ok (.iconst 0, 1) := by decide +kernel
theorem dX6_above_27 : decode cX6_above 27 = .ok (.ireturn, 1) := by decide +kernel
theorem dX6_taken_0 : decode cX6_taken 0 = .ok (.iload_n 2, 1) := by decide +kernel
theorem dX6_taken_1 : decode cX6_taken 1 = .ok (.i2l, 1) := by decide +kernel
theorem dX6_taken_2 : decode cX6_taken 2 = .ok (.lconst 0, 1) := by decide +kernel
theorem dX6_taken_3 : decode cX6_taken 3 = .ok (.ldc2_w 123, 3) := by decide +kernel
theorem dX6_taken_6 : decode cX6_taken 6 = .ok (.invokestatic 86, 3) := by decide +kernel
theorem dX6_taken_9 : decode cX6_taken 9 = .ok (.ifCond .ne 6, 3) := by decide +kernel
theorem dX6_taken_12 : decode cX6_taken 12 = .ok (.bipush (-2), 2) := by decide +kernel
theorem dX6_taken_14 : decode cX6_taken 14 = .ok (.ireturn, 1) := by decide +kernel
theorem dX6_taken_15 : decode cX6_taken 15 = .ok (.aload_n 0, 1) := by decide +kernel
theorem dX6_taken_16 : decode cX6_taken 16 = .ok (.iload_n 1, 1) := by decide +kernel
theorem dX6_taken_17 : decode cX6_taken 17 = .ok (.invokevirtual 96, 3) := by decide +kernel
theorem dX6_taken_20 : decode cX6_taken 20 = .ok (.ifCond .ne 6, 3) := by decide +kernel
theorem dX6_taken_23 : decode cX6_taken 23 = .ok (.bipush (-11), 2) := by decide +kernel
theorem dX6_taken_25 : decode cX6_taken 25 = .ok (.ireturn, 1) := by decide +kernel
theorem dX6_taken_26 : decode cX6_taken 26 = .ok (.aload_n 0, 1) := by decide +kernel
theorem dX6_taken_27 : decode cX6_taken 27 = .ok (.getfield 38, 3) := by decide +kernel
theorem dX6_taken_30 : decode cX6_taken 30 = .ok (.bipush 6, 2) := by decide +kernel
theorem dX6_taken_32 : decode cX6_taken 32 = .ok (.iload_n 1, 1) := by decide +kernel
theorem dX6_taken_33 : decode cX6_taken 33 = .ok (.imul, 1) := by decide +kernel
theorem dX6_taken_34 : decode cX6_taken 34 = .ok (.iconst 4, 1) := by decide +kernel
theorem dX6_taken_35 : decode cX6_taken 35 = .ok (.iadd, 1) := by decide +kernel
theorem dX6_taken_36 : decode cX6_taken 36 = .ok (.iaload, 1) := by decide +kernel
theorem dX6_taken_37 : decode cX6_taken 37 = .ok (.istore_n 3, 1) := by decide +kernel
theorem dX6_taken_38 : decode cX6_taken 38 = .ok (.iload_n 3, 1) := by decide +kernel
theorem dX6_taken_39 : decode cX6_taken 39 = .ok (.iconst (-1), 1) := by decide +kernel
theorem dX6_taken_40 : decode cX6_taken 40 = .ok (.if_icmp .eq 16, 3) := by decide +kernel
theorem dX6_taken_43 : decode cX6_taken 43 = .ok (.iload_n 3, 1) := by decide +kernel
theorem dX6_taken_44 : decode cX6_taken 44 = .ok (.iload_n 2, 1) := by decide +kernel
theorem dX6_taken_45 : decode cX6_taken 45 = .ok (.if_icmp .eq 11, 3) := by decide +kernel
theorem dX6_taken_48 : decode cX6_taken 48 = .ok (.iload_n 3, 1) := by decide +kernel
theorem dX6_taken_49 : decode cX6_taken 49 = .ok (.invokestatic 382, 3) := by decide +kernel
theorem dX6_taken_52 : decode cX6_taken 52 = .ok (.istore_n 3, 1) := by decide +kernel
theorem dX6_taken_53 : decode cX6_taken 53 = .ok (.goto (-15), 3) := by decide +kernel
theorem dX6_taken_56 : decode cX6_taken 56 = .ok (.iload_n 3, 1) := by decide +kernel
theorem dX6_taken_57 : decode cX6_taken 57 = .ok (.iload_n 2, 1) := by decide +kernel
theorem dX6_taken_58 : decode cX6_taken 58 = .ok (.if_icmp .ne 15, 3) := by decide +kernel
theorem dX6_taken_61 : decode cX6_taken 61 = .ok (.aload_n 0, 1) := by decide +kernel
theorem dX6_taken_62 : decode cX6_taken 62 = .ok (.getfield 38, 3) := by decide +kernel
theorem dX6_taken_65 : decode cX6_taken 65 = .ok (.bipush 6, 2) := by decide +kernel
theorem dX6_taken_67 : decode cX6_taken 67 = .ok (.iload_n 1, 1) := by decide +kernel
theorem dX6_taken_68 : decode cX6_taken 68 = .ok (.imul, 1) := by decide +kernel
theorem dX6_taken_69 : decode cX6_taken 69 = .ok (.iaload, 1) := by decide +kernel
theorem dX6_taken_70 : decode cX6_taken 70 = .ok (.goto 5, 3) := by decide +kernel
theorem dX6_taken_73 : decode cX6_taken 73 = .ok (.bipush (-13), 2) := by decide +kernel
theorem dX6_taken_75 : decode cX6_taken 75 = .ok (.ireturn, 1) := by decide +kernel
