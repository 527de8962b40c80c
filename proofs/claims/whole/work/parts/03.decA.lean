theorem dX0_init_0 : decode cX0_init 0 = .ok (.aload_n 0, 1) := by decide +kernel
theorem dX0_init_1 : decode cX0_init 1 = .ok (.invokespecial 3, 3) := by decide +kernel
theorem dX0_init_4 : decode cX0_init 4 = .ok (.aload_n 0, 1) := by decide +kernel
theorem dX0_init_5 : decode cX0_init 5 = .ok (.sipush 160, 3) := by decide +kernel
theorem dX0_init_8 : decode cX0_init 8 = .ok (.newarray .int, 2) := by decide +kernel
theorem dX0_init_10 : decode cX0_init 10 = .ok (.putfield 9, 3) := by decide +kernel
theorem dX0_init_13 : decode cX0_init 13 = .ok (.aload_n 0, 1) := by decide +kernel
theorem dX0_init_14 : decode cX0_init 14 = .ok (.sipush 160, 3) := by decide +kernel
theorem dX0_init_17 : decode cX0_init 17 = .ok (.newarray .int, 2) := by decide +kernel
theorem dX0_init_19 : decode cX0_init 19 = .ok (.putfield 15, 3) := by decide +kernel
theorem dX0_init_22 : decode cX0_init 22 = .ok (.aload_n 0, 1) := by decide +kernel
theorem dX0_init_23 : decode cX0_init 23 = .ok (.iconst 3, 1) := by decide +kernel
theorem dX0_init_24 : decode cX0_init 24 = .ok (.newarray .int, 2) := by decide +kernel
theorem dX0_init_26 : decode cX0_init 26 = .ok (.putfield 18, 3) := by decide +kernel
theorem dX0_init_29 : decode cX0_init 29 = .ok (.return_, 1) := by decide +kernel
theorem dX0_add_0 : decode cX0_add 0 = .ok (.aload_n 0, 1) := by decide +kernel
theorem dX0_add_1 : decode cX0_add 1 = .ok (.getfield 21, 3) := by decide +kernel
theorem dX0_add_4 : decode cX0_add 4 = .ok (.sipush 160, 3) := by decide +kernel
theorem dX0_add_7 : decode cX0_add 7 = .ok (.if_icmp .lt 5, 3) := by decide +kernel
theorem dX0_add_10 : decode cX0_add 10 = .ok (.iconst 0, 1) := by decide +kernel
theorem dX0_add_11 : decode cX0_add 11 = .ok (.ireturn, 1) := by decide +kernel
theorem dX0_add_12 : decode cX0_add 12 = .ok (.aload_n 0, 1) := by decide +kernel
theorem dX0_add_13 : decode cX0_add 13 = .ok (.getfield 9, 3) := by decide +kernel
theorem dX0_add_16 : decode cX0_add 16 = .ok (.aload_n 0, 1) := by decide +kernel
theorem dX0_add_17 : decode cX0_add 17 = .ok (.getfield 21, 3) := by decide +kernel
theorem dX0_add_20 : decode cX0_add 20 = .ok (.iload_n 1, 1) := by decide +kernel
theorem dX0_add_21 : decode cX0_add 21 = .ok (.iastore, 1) := by decide +kernel
theorem dX0_add_22 : decode cX0_add 22 = .ok (.aload_n 0, 1) := by decide +kernel
theorem dX0_add_23 : decode cX0_add 23 = .ok (.dup, 1) := by decide +kernel
theorem dX0_add_24 : decode cX0_add 24 = .ok (.getfield 21, 3) := by decide +kernel
theorem dX0_add_27 : decode cX0_add 27 = .ok (.iconst 1, 1) := by decide +kernel
theorem dX0_add_28 : decode cX0_add 28 = .ok (.iadd, 1) := by decide +kernel
theorem dX0_add_29 : decode cX0_add 29 = .ok (.putfield 21, 3) := by decide +kernel
theorem dX0_add_32 : decode cX0_add 32 = .ok (.iconst 1, 1) := by decide +kernel
theorem dX0_add_33 : decode cX0_add 33 = .ok (.ireturn, 1) := by decide +kernel
theorem dX0_codeRead_0 : decode cX0_codeRead 0 = .ok (.aload_n 0, 1) := by decide +kernel
theorem dX0_codeRead_1 : decode cX0_codeRead 1 = .ok (.getfield 15, 3) := by decide +kernel
theorem dX0_codeRead_4 : decode cX0_codeRead 4 = .ok (.aload_n 0, 1) := by decide +kernel
theorem dX0_codeRead_5 : decode cX0_codeRead 5 = .ok (.getfield 25, 3) := by decide +kernel
theorem dX0_codeRead_8 : decode cX0_codeRead 8 = .ok (.iconst 0, 1) := by decide +kernel
theorem dX0_codeRead_9 : decode cX0_codeRead 9 = .ok (.sipush 160, 3) := by decide +kernel
theorem dX0_codeRead_12 : decode cX0_codeRead 12 = .ok (.invokestatic 28, 3) := by decide +kernel
theorem dX0_codeRead_15 : decode cX0_codeRead 15 = .ok (.invokestatic 32, 3) := by decide +kernel
theorem dX0_codeRead_18 : decode cX0_codeRead 18 = .ok (.areturn, 1) := by decide +kernel
theorem dX0_readText_0 : decode cX0_readText 0 = .ok (.aload_n 0, 1) := by decide +kernel
theorem dX0_readText_1 : decode cX0_readText 1 = .ok (.iconst 0, 1) := by decide +kernel
theorem dX0_readText_2 : decode cX0_readText 2 = .ok (.putfield 38, 3) := by decide +kernel
theorem dX0_readText_5 : decode cX0_readText 5 = .ok (.aload_n 0, 1) := by decide +kernel
theorem dX0_readText_6 : decode cX0_readText 6 = .ok (.iconst 0, 1) := by decide +kernel
theorem dX0_readText_7 : decode cX0_readText 7 = .ok (.putfield 25, 3) := by decide +kernel
theorem dX0_readText_10 : decode cX0_readText 10 = .ok (.aload_n 0, 1) := by decide +kernel
theorem dX0_readText_11 : decode cX0_readText 11 = .ok (.invokevirtual 41, 3) := by decide +kernel
theorem dX0_readText_14 : decode cX0_readText 14 = .ok (.aload_n 0, 1) := by decide +kernel
theorem dX0_readText_15 : decode cX0_readText 15 = .ok (.iconst 4, 1) := by decide +kernel
theorem dX0_readText_16 : decode cX0_readText 16 = .ok (.iconst 0, 1) := by decide +kernel
theorem dX0_readText_17 : decode cX0_readText 17 = .ok (.invokevirtual 44, 3) := by decide +kernel
theorem dX0_readText_20 : decode cX0_readText 20 = .ok (.ifCond .eq 33, 3) := by decide +kernel
theorem dX0_readText_23 : decode cX0_readText 23 = .ok (.aload_n 0, 1) := by decide +kernel
theorem dX0_readText_24 : decode cX0_readText 24 = .ok (.iconst 5, 1) := by decide +kernel
theorem dX0_readText_25 : decode cX0_readText 25 = .ok (.iconst 1, 1) := by decide +kernel
theorem dX0_readText_26 : decode cX0_readText 26 = .ok (.invokevirtual 44, 3) := by decide +kernel
theorem dX0_readText_29 : decode cX0_readText 29 = .ok (.ifCond .eq 24, 3) := by decide +kernel
theorem dX0_readText_32 : decode cX0_readText 32 = .ok (.aload_n 0, 1) := by decide +kernel
theorem dX0_readText_33 : decode cX0_readText 33 = .ok (.bipush 6, 2) := by decide +kernel
theorem dX0_readText_35 : decode cX0_readText 35 = .ok (.iconst 2, 1) := by decide +kernel
theorem dX0_readText_36 : decode cX0_readText 36 = .ok (.invokevirtual 44, 3) := by decide +kernel
theorem dX0_readText_39 : decode cX0_readText 39 = .ok (.ifCond .eq 14, 3) := by decide +kernel
theorem dX0_readText_42 : decode cX0_readText 42 = .ok (.aload_n 0, 1) := by decide +kernel
theorem dX0_readText_43 : decode cX0_readText 43 = .ok (.getfield 48, 3) := by decide +kernel
theorem dX0_readText_46 : decode cX0_readText 46 = .ok (.ifCond .ne 7, 3) := by decide +kernel
theorem dX0_readText_49 : decode cX0_readText 49 = .ok (.iconst 1, 1) := by decide +kernel
theorem dX0_readText_50 : decode cX0_readText 50 = .ok (.goto 4, 3) := by decide +kernel
theorem dX0_readText_53 : decode cX0_readText 53 = .ok (.iconst 0, 1) := by decide +kernel
theorem dX0_readText_54 : decode cX0_readText 54 = .ok (.ireturn, 1) := by decide +kernel
theorem dX0_readPart_0 : decode cX0_readPart 0 = .ok (.aload_n 0, 1) := by decide +kernel
theorem dX0_readPart_1 : decode cX0_readPart 1 = .ok (.iload_n 1, 1) := by decide +kernel
theorem dX0_readPart_2 : decode cX0_readPart 2 = .ok (.invokevirtual 51, 3) := by decide +kernel
theorem dX0_readPart_5 : decode cX0_readPart 5 = .ok (.ifCond .eq 20, 3) := by decide +kernel
theorem dX0_readPart_8 : decode cX0_readPart 8 = .ok (.aload_n 0, 1) := by decide +kernel
theorem dX0_readPart_9 : decode cX0_readPart 9 = .ok (.iconst 0, 1) := by decide +kernel
theorem dX0_readPart_10 : decode cX0_readPart 10 = .ok (.invokevirtual 55, 3) := by decide +kernel
theorem dX0_readPart_13 : decode cX0_readPart 13 = .ok (.ifCond .eq 12, 3) := by decide +kernel
theorem dX0_readPart_16 : decode cX0_readPart 16 = .ok (.aload_n 0, 1) := by decide +kernel
theorem dX0_readPart_17 : decode cX0_readPart 17 = .ok (.bipush 59, 2) := by decide +kernel
theorem dX0_readPart_19 : decode cX0_readPart 19 = .ok (.invokevirtual 51, 3) := by decide +kernel
theorem dX0_readPart_22 : decode cX0_readPart 22 = .ok (.ifCond .ne 5, 3) := by decide +kernel
theorem dX0_readPart_25 : decode cX0_readPart 25 = .ok (.iconst 0, 1) := by decide +kernel
theorem dX0_readPart_26 : decode cX0_readPart 26 = .ok (.ireturn, 1) := by decide +kernel
theorem dX0_readPart_27 : decode cX0_readPart 27 = .ok (.aload_n 0, 1) := by decide +kernel
theorem dX0_readPart_28 : decode cX0_readPart 28 = .ok (.getfield 18, 3) := by decide +kernel
theorem dX0_readPart_31 : decode cX0_readPart 31 = .ok (.iload_n 2, 1) := by decide +kernel
theorem dX0_readPart_32 : decode cX0_readPart 32 = .ok (.aload_n 0, 1) := by decide +kernel
theorem dX0_readPart_33 : decode cX0_readPart 33 = .ok (.getfield 25, 3) := by decide +kernel
theorem dX0_readPart_36 : decode cX0_readPart 36 = .ok (.iastore, 1) := by decide +kernel
theorem dX0_readPart_37 : decode cX0_readPart 37 = .ok (.iconst 1, 1) := by decide +kernel
theorem dX0_readPart_38 : decode cX0_readPart 38 = .ok (.ireturn, 1) := by decide +kernel
theorem dX0_readOr_0 : decode cX0_readOr 0 = .ok (.aload_n 0, 1) := by decide +kernel
theorem dX0_readOr_1 : decode cX0_readOr 1 = .ok (.iload_n 1, 1) := by decide +kernel
theorem dX0_readOr_2 : decode cX0_readOr 2 = .ok (.invokevirtual 58, 3) := by decide +kernel
theorem dX0_readOr_5 : decode cX0_readOr 5 = .ok (.ifCond .ne 5, 3) := by decide +kernel
theorem dX0_readOr_8 : decode cX0_readOr 8 = .ok (.iconst 0, 1) := by decide +kernel
theorem dX0_readOr_9 : decode cX0_readOr 9 = .ok (.ireturn, 1) := by decide +kernel
theorem dX0_readOr_10 : decode cX0_readOr 10 = .ok (.iconst 0, 1) := by decide +kernel
theorem dX0_readOr_11 : decode cX0_readOr 11 = .ok (.istore_n 2, 1) := by decide +kernel
theorem dX0_readOr_12 : decode cX0_readOr 12 = .ok (.iload_n 2, 1) := by decide +kernel
theorem dX0_readOr_13 : decode cX0_readOr 13 = .ok (.sipush 160, 3) := by decide +kernel
theorem dX0_readOr_16 : decode cX0_readOr 16 = .ok (.if_icmp .ge 39, 3) := by decide +kernel
theorem dX0_readOr_19 : decode cX0_readOr 19 = .ok (.aload_n 0, 1) := by decide +kernel
theorem dX0_readOr_20 : decode cX0_readOr 20 = .ok (.getfield 48, 3) := by decide +kernel
theorem dX0_readOr_23 : decode cX0_readOr 23 = .ok (.bipush 7, 2) := by decide +kernel
theorem dX0_readOr_25 : decode cX0_readOr 25 = .ok (.if_icmp .ne 30, 3) := by decide +kernel
theorem dX0_readOr_28 : decode cX0_readOr 28 = .ok (.aload_n 0, 1) := by decide +kernel
theorem dX0_readOr_29 : decode cX0_readOr 29 = .ok (.invokevirtual 41, 3) := by decide +kernel
theorem dX0_readOr_32 : decode cX0_readOr 32 = .ok (.aload_n 0, 1) := by decide +kernel
theorem dX0_readOr_33 : decode cX0_readOr 33 = .ok (.iload_n 1, 1) := by decide +kernel
theorem dX0_readOr_34 : decode cX0_readOr 34 = .ok (.invokevirtual 58, 3) := by decide +kernel
theorem dX0_readOr_37 : decode cX0_readOr 37 = .ok (.ifCond .ne 5, 3) := by decide +kernel
theorem dX0_readOr_40 : decode cX0_readOr 40 = .ok (.iconst 0, 1) := by decide +kernel
theorem dX0_readOr_41 : decode cX0_readOr 41 = .ok (.ireturn, 1) := by decide +kernel
theorem dX0_readOr_42 : decode cX0_readOr 42 = .ok (.aload_n 0, 1) := by decide +kernel
theorem dX0_readOr_43 : decode cX0_readOr 43 = .ok (.bipush 10, 2) := by decide +kernel
theorem dX0_readOr_45 : decode cX0_readOr 45 = .ok (.iconst 0, 1) := by decide +kernel
theorem dX0_readOr_46 : decode cX0_readOr 46 = .ok (.invokevirtual 63, 3) := by decide +kernel
theorem dX0_readOr_49 : decode cX0_readOr 49 = .ok (.iinc 2 1, 3) := by decide +kernel
theorem dX0_readOr_52 : decode cX0_readOr 52 = .ok (.goto (-40), 3) := by decide +kernel
theorem dX0_readOr_55 : decode cX0_readOr 55 = .ok (.iconst 1, 1) := by decide +kernel
theorem dX0_readOr_56 : decode cX0_readOr 56 = .ok (.ireturn, 1) := by decide +kernel
theorem dX0_readAnd_0 : decode cX0_readAnd 0 = .ok (.aload_n 0, 1) := by decide +kernel
theorem dX0_readAnd_1 : decode cX0_readAnd 1 = .ok (.iload_n 1, 1) := by decide +kernel
theorem dX0_readAnd_2 : decode cX0_readAnd 2 = .ok (.invokevirtual 67, 3) := by decide +kernel
theorem dX0_readAnd_5 : decode cX0_readAnd 5 = .ok (.ifCond .ne 5, 3) := by decide +kernel
theorem dX0_readAnd_8 : decode cX0_readAnd 8 = .ok (.iconst 0, 1) := by decide +kernel
theorem dX0_readAnd_9 : decode cX0_readAnd 9 = .ok (.ireturn, 1) := by decide +kernel
theorem dX0_readAnd_10 : decode cX0_readAnd 10 = .ok (.iconst 0, 1) := by decide +kernel
theorem dX0_readAnd_11 : decode cX0_readAnd 11 = .ok (.istore_n 2, 1) := by decide +kernel
theorem dX0_readAnd_12 : decode cX0_readAnd 12 = .ok (.iload_n 2, 1) := by decide +kernel
theorem dX0_readAnd_13 : decode cX0_readAnd 13 = .ok (.sipush 160, 3) := by decide +kernel
theorem dX0_readAnd_16 : decode cX0_readAnd 16 = .ok (.if_icmp .ge 39, 3) := by decide +kernel
theorem dX0_readAnd_19 : decode cX0_readAnd 19 = .ok (.aload_n 0, 1) := by decide +kernel
theorem dX0_readAnd_20 : decode cX0_readAnd 20 = .ok (.getfield 48, 3) := by decide +kernel
theorem dX0_readAnd_23 : decode cX0_readAnd 23 = .ok (.bipush 8, 2) := by decide +kernel
theorem dX0_readAnd_25 : decode cX0_readAnd 25 = .ok (.if_icmp .ne 30, 3) := by decide +kernel
theorem dX0_readAnd_28 : decode cX0_readAnd 28 = .ok (.aload_n 0, 1) := by decide +kernel
theorem dX0_readAnd_29 : decode cX0_readAnd 29 = .ok (.invokevirtual 41, 3) := by decide +kernel
theorem dX0_readAnd_32 : decode cX0_readAnd 32 = .ok (.aload_n 0, 1) := by decide +kernel
theorem dX0_readAnd_33 : decode cX0_readAnd 33 = .ok (.iload_n 1, 1) := by decide +kernel
theorem dX0_readAnd_34 : decode cX0_readAnd 34 = .ok (.invokevirtual 67, 3) := by decide +kernel
theorem dX0_readAnd_37 : decode cX0_readAnd 37 = .ok (.ifCond .ne 5, 3) := by decide +kernel
theorem dX0_readAnd_40 : decode cX0_readAnd 40 = .ok (.iconst 0, 1) := by decide +kernel
theorem dX0_readAnd_41 : decode cX0_readAnd 41 = .ok (.ireturn, 1) := by decide +kernel
theorem dX0_readAnd_42 : decode cX0_readAnd 42 = .ok (.aload_n 0, 1) := by decide +kernel
theorem dX0_readAnd_43 : decode cX0_readAnd 43 = .ok (.bipush 9, 2) := by decide +kernel
theorem dX0_readAnd_45 : decode cX0_readAnd 45 = .ok (.iconst 0, 1) := by decide +kernel
theorem dX0_readAnd_46 : decode cX0_readAnd 46 = .ok (.invokevirtual 63, 3) := by decide +kernel
theorem dX0_readAnd_49 : decode cX0_readAnd 49 = .ok (.iinc 2 1, 3) := by decide +kernel
theorem dX0_readAnd_52 : decode cX0_readAnd 52 = .ok (.goto (-40), 3) := by decide +kernel
theorem dX0_readAnd_55 : decode cX0_readAnd 55 = .ok (.iconst 1, 1) := by decide +kernel
theorem dX0_readAnd_56 : decode cX0_readAnd 56 = .ok (.ireturn, 1) := by decide +kernel
theorem dX0_readNot_0 : decode cX0_readNot 0 = .ok (.iconst 0, 1) := by decide +kernel
theorem dX0_readNot_1 : decode cX0_readNot 1 = .ok (.istore_n 2, 1) := by decide +kernel
theorem dX0_readNot_2 : decode cX0_readNot 2 = .ok (.aload_n 0, 1) := by decide +kernel
theorem dX0_readNot_3 : decode cX0_readNot 3 = .ok (.getfield 48, 3) := by decide +kernel
theorem dX0_readNot_6 : decode cX0_readNot 6 = .ok (.bipush 9, 2) := by decide +kernel
theorem dX0_readNot_8 : decode cX0_readNot 8 = .ok (.if_icmp .ne 20, 3) := by decide +kernel
theorem dX0_readNot_11 : decode cX0_readNot 11 = .ok (.iload_n 1, 1) := by decide +kernel
theorem dX0_readNot_12 : decode cX0_readNot 12 = .ok (.iload_n 2, 1) := by decide +kernel
theorem dX0_readNot_13 : decode cX0_readNot 13 = .ok (.iadd, 1) := by decide +kernel
theorem dX0_readNot_14 : decode cX0_readNot 14 = .ok (.iconst 5, 1) := by decide +kernel
theorem dX0_readNot_15 : decode cX0_readNot 15 = .ok (.if_icmp .ge 13, 3) := by decide +kernel
theorem dX0_readNot_18 : decode cX0_readNot 18 = .ok (.aload_n 0, 1) := by decide +kernel
theorem dX0_readNot_19 : decode cX0_readNot 19 = .ok (.invokevirtual 41, 3) := by decide +kernel
theorem dX0_readNot_22 : decode cX0_readNot 22 = .ok (.iinc 2 1, 3) := by decide +kernel
theorem dX0_readNot_25 : decode cX0_readNot 25 = .ok (.goto (-23), 3) := by decide +kernel
theorem dX0_readNot_28 : decode cX0_readNot 28 = .ok (.aload_n 0, 1) := by decide +kernel
theorem dX0_readNot_29 : decode cX0_readNot 29 = .ok (.iload_n 1, 1) := by decide +kernel
theorem dX0_readNot_30 : decode cX0_readNot 30 = .ok (.iload_n 2, 1) := by decide +kernel
theorem dX0_readNot_31 : decode cX0_readNot 31 = .ok (.iadd, 1) := by decide +kernel
theorem dX0_readNot_32 : decode cX0_readNot 32 = .ok (.invokevirtual 70, 3) := by decide +kernel
theorem dX0_readNot_35 : decode cX0_readNot 35 = .ok (.ifCond .ne 5, 3) := by decide +kernel
theorem dX0_readNot_38 : decode cX0_readNot 38 = .ok (.iconst 0, 1) := by decide +kernel
theorem dX0_readNot_39 : decode cX0_readNot 39 = .ok (.ireturn, 1) := by decide +kernel
theorem dX0_readNot_40 : decode cX0_readNot 40 = .ok (.aload_n 0, 1) := by decide +kernel
theorem dX0_readNot_41 : decode cX0_readNot 41 = .ok (.iconst 3, 1) := by decide +kernel
theorem dX0_readNot_42 : decode cX0_readNot 42 = .ok (.iload_n 2, 1) := by decide +kernel
theorem dX0_readNot_43 : decode cX0_readNot 43 = .ok (.invokevirtual 73, 3) := by decide +kernel
theorem dX0_readNot_46 : decode cX0_readNot 46 = .ok (.iconst 1, 1) := by decide +kernel
theorem dX0_readNot_47 : decode cX0_readNot 47 = .ok (.ireturn, 1) := by decide +kernel
theorem dX0_readCompared_0 : decode cX0_readCompared 0 = .ok (.aload_n 0, 1) := by decide +kernel
theorem dX0_readCompared_1 : decode cX0_readCompared 1 = .ok (.iload_n 1, 1) := by decide +kernel
theorem dX0_readCompared_2 : decode cX0_readCompared 2 = .ok (.invokevirtual 76, 3) := by decide +kernel
theorem dX0_readCompared_5 : decode cX0_readCompared 5 = .ok (.ifCond .ne 5, 3) := by decide +kernel
theorem dX0_readCompared_8 : decode cX0_readCompared 8 = .ok (.iconst 0, 1) := by decide +kernel
theorem dX0_readCompared_9 : decode cX0_readCompared 9 = .ok (.ireturn, 1) := by decide +kernel
theorem dX0_readCompared_10 : decode cX0_readCompared 10 = .ok (.aload_n 0, 1) := by decide +kernel
theorem dX0_readCompared_11 : decode cX0_readCompared 11 = .ok (.getfield 48, 3) := by decide +kernel
theorem dX0_readCompared_14 : decode cX0_readCompared 14 = .ok (.bipush 60, 2) := by decide +kernel
theorem dX0_readCompared_16 : decode cX0_readCompared 16 = .ok (.if_icmp .eq 14, 3) := by decide +kernel
theorem dX0_readCompared_19 : decode cX0_readCompared 19 = .ok (.aload_n 0, 1) := by decide +kernel
theorem dX0_readCompared_20 : decode cX0_readCompared 20 = .ok (.getfield 48, 3) := by decide +kernel
theorem dX0_readCompared_23 : decode cX0_readCompared 23 = .ok (.bipush 61, 2) := by decide +kernel
theorem dX0_readCompared_25 : decode cX0_readCompared 25 = .ok (.if_icmp .eq 5, 3) := by decide +kernel
theorem dX0_readCompared_28 : decode cX0_readCompared 28 = .ok (.iconst 1, 1) := by decide +kernel
theorem dX0_readCompared_29 : decode cX0_readCompared 29 = .ok (.ireturn, 1) := by decide +kernel
theorem dX0_readCompared_30 : decode cX0_readCompared 30 = .ok (.aload_n 0, 1) := by decide +kernel
theorem dX0_readCompared_31 : decode cX0_readCompared 31 = .ok (.getfield 48, 3) := by decide +kernel
theorem dX0_readCompared_34 : decode cX0_readCompared 34 = .ok (.bipush 60, 2) := by decide +kernel
theorem dX0_readCompared_36 : decode cX0_readCompared 36 = .ok (.if_icmp .ne 8, 3) := by decide +kernel
theorem dX0_readCompared_39 : decode cX0_readCompared 39 = .ok (.bipush 7, 2) := by decide +kernel
theorem dX0_readCompared_41 : decode cX0_readCompared 41 = .ok (.goto 5, 3) := by decide +kernel
theorem dX0_readCompared_44 : decode cX0_readCompared 44 = .ok (.bipush 8, 2) := by decide +kernel
theorem dX0_readCompared_46 : decode cX0_readCompared 46 = .ok (.istore_n 2, 1) := by decide +kernel
theorem dX0_readCompared_47 : decode cX0_readCompared 47 = .ok (.aload_n 0, 1) := by decide +kernel
theorem dX0_readCompared_48 : decode cX0_readCompared 48 = .ok (.invokevirtual 41, 3) := by decide +kernel
theorem dX0_readCompared_51 : decode cX0_readCompared 51 = .ok (.aload_n 0, 1) := by decide +kernel
theorem dX0_readCompared_52 : decode cX0_readCompared 52 = .ok (.iload_n 1, 1) := by decide +kernel
theorem dX0_readCompared_53 : decode cX0_readCompared 53 = .ok (.invokevirtual 76, 3) := by decide +kernel
theorem dX0_readCompared_56 : decode cX0_readCompared 56 = .ok (.istore_n 3, 1) := by decide +kernel
theorem dX0_readCompared_57 : decode cX0_readCompared 57 = .ok (.aload_n 0, 1) := by decide +kernel
theorem dX0_readCompared_58 : decode cX0_readCompared 58 = .ok (.iload_n 2, 1) := by decide +kernel
theorem dX0_readCompared_59 : decode cX0_readCompared 59 = .ok (.iconst 0, 1) := by decide +kernel
theorem dX0_readCompared_60 : decode cX0_readCompared 60 = .ok (.invokevirtual 63, 3) := by decide +kernel
theorem dX0_readCompared_63 : decode cX0_readCompared 63 = .ok (.iload_n 3, 1) := by decide +kernel
theorem dX0_readCompared_64 : decode cX0_readCompared 64 = .ok (.ireturn, 1) := by decide +kernel
theorem dX0_readSum_0 : decode cX0_readSum 0 = .ok (.aload_n 0, 1) := by decide +kernel
theorem dX0_readSum_1 : decode cX0_readSum 1 = .ok (.iload_n 1, 1) := by decide +kernel
theorem dX0_readSum_2 : decode cX0_readSum 2 = .ok (.invokevirtual 79, 3) := by decide +kernel
theorem dX0_readSum_5 : decode cX0_readSum 5 = .ok (.ifCond .ne 5, 3) := by decide +kernel
theorem dX0_readSum_8 : decode cX0_readSum 8 = .ok (.iconst 0, 1) := by decide +kernel
theorem dX0_readSum_9 : decode cX0_readSum 9 = .ok (.ireturn, 1) := by decide +kernel
theorem dX0_readSum_10 : decode cX0_readSum 10 = .ok (.iconst 0, 1) := by decide +kernel
theorem dX0_readSum_11 : decode cX0_readSum 11 = .ok (.istore_n 2, 1) := by decide +kernel
theorem dX0_readSum_12 : decode cX0_readSum 12 = .ok (.iload_n 2, 1) := by decide +kernel
theorem dX0_readSum_13 : decode cX0_readSum 13 = .ok (.sipush 160, 3) := by decide +kernel
theorem dX0_readSum_16 : decode cX0_readSum 16 = .ok (.if_icmp .ge 62, 3) := by decide +kernel
theorem dX0_readSum_19 : decode cX0_readSum 19 = .ok (.aload_n 0, 1) := by decide +kernel
theorem dX0_readSum_20 : decode cX0_readSum 20 = .ok (.getfield 48, 3) := by decide +kernel
theorem dX0_readSum_23 : decode cX0_readSum 23 = .ok (.bipush 43, 2) := by decide +kernel
theorem dX0_readSum_25 : decode cX0_readSum 25 = .ok (.if_icmp .eq 12, 3) := by decide +kernel
theorem dX0_readSum_28 : decode cX0_readSum 28 = .ok (.aload_n 0, 1) := by decide +kernel
theorem dX0_readSum_29 : decode cX0_readSum 29 = .ok (.getfield 48, 3) := by decide +kernel
theorem dX0_readSum_32 : decode cX0_readSum 32 = .ok (.bipush 45, 2) := by decide +kernel
theorem dX0_readSum_34 : decode cX0_readSum 34 = .ok (.if_icmp .ne 44, 3) := by decide +kernel
theorem dX0_readSum_37 : decode cX0_readSum 37 = .ok (.aload_n 0, 1) := by decide +kernel
theorem dX0_readSum_38 : decode cX0_readSum 38 = .ok (.getfield 48, 3) := by decide +kernel
theorem dX0_readSum_41 : decode cX0_readSum 41 = .ok (.bipush 43, 2) := by decide +kernel
theorem dX0_readSum_43 : decode cX0_readSum 43 = .ok (.if_icmp .ne 7, 3) := by decide +kernel
theorem dX0_readSum_46 : decode cX0_readSum 46 = .ok (.iconst 4, 1) := by decide +kernel
theorem dX0_readSum_47 : decode cX0_readSum 47 = .ok (.goto 4, 3) := by decide +kernel
theorem dX0_readSum_50 : decode cX0_readSum 50 = .ok (.iconst 5, 1) := by decide +kernel
theorem dX0_readSum_51 : decode cX0_readSum 51 = .ok (.istore_n 3, 1) := by decide +kernel
theorem dX0_readSum_52 : decode cX0_readSum 52 = .ok (.aload_n 0, 1) := by decide +kernel
theorem dX0_readSum_53 : decode cX0_readSum 53 = .ok (.invokevirtual 41, 3) := by decide +kernel
theorem dX0_readSum_56 : decode cX0_readSum 56 = .ok (.aload_n 0, 1) := by decide +kernel
theorem dX0_readSum_57 : decode cX0_readSum 57 = .ok (.iload_n 1, 1) := by decide +kernel
theorem dX0_readSum_58 : decode cX0_readSum 58 = .ok (.invokevirtual 79, 3) := by decide +kernel
theorem dX0_readSum_61 : decode cX0_readSum 61 = .ok (.ifCond .ne 5, 3) := by decide +kernel
theorem dX0_readSum_64 : decode cX0_readSum 64 = .ok (.iconst 0, 1) := by decide +kernel
theorem dX0_readSum_65 : decode cX0_readSum 65 = .ok (.ireturn, 1) := by decide +kernel
theorem dX0_readSum_66 : decode cX0_readSum 66 = .ok (.aload_n 0, 1) := by decide +kernel
theorem dX0_readSum_67 : decode cX0_readSum 67 = .ok (.iload_n 3, 1) := by decide +kernel
theorem dX0_readSum_68 : decode cX0_readSum 68 = .ok (.iconst 0, 1) := by decide +kernel
theorem dX0_readSum_69 : decode cX0_readSum 69 = .ok (.invokevirtual 63, 3) := by decide +kernel
theorem dX0_readSum_72 : decode cX0_readSum 72 = .ok (.iinc 2 1, 3) := by decide +kernel
theorem dX0_readSum_75 : decode cX0_readSum 75 = .ok (.goto (-63), 3) := by decide +kernel
theorem dX0_readSum_78 : decode cX0_readSum 78 = .ok (.iconst 1, 1) := by decide +kernel
theorem dX0_readSum_79 : decode cX0_readSum 79 = .ok (.ireturn, 1) := by decide +kernel
theorem dX0_readTerm_0 : decode cX0_readTerm 0 = .ok (.aload_n 0, 1) := by decide +kernel
theorem dX0_readTerm_1 : decode cX0_readTerm 1 = .ok (.iload_n 1, 1) := by decide +kernel
theorem dX0_readTerm_2 : decode cX0_readTerm 2 = .ok (.invokevirtual 82, 3) := by decide +kernel
theorem dX0_readTerm_5 : decode cX0_readTerm 5 = .ok (.ifCond .ne 5, 3) := by decide +kernel
theorem dX0_readTerm_8 : decode cX0_readTerm 8 = .ok (.iconst 0, 1) := by decide +kernel
theorem dX0_readTerm_9 : decode cX0_readTerm 9 = .ok (.ireturn, 1) := by decide +kernel
theorem dX0_readTerm_10 : decode cX0_readTerm 10 = .ok (.iconst 0, 1) := by decide +kernel
theorem dX0_readTerm_11 : decode cX0_readTerm 11 = .ok (.istore_n 2, 1) := by decide +kernel
theorem dX0_readTerm_12 : decode cX0_readTerm 12 = .ok (.iload_n 2, 1) := by decide +kernel
theorem dX0_readTerm_13 : decode cX0_readTerm 13 = .ok (.sipush 160, 3) := by decide +kernel
theorem dX0_readTerm_16 : decode cX0_readTerm 16 = .ok (.if_icmp .ge 39, 3) := by decide +kernel
theorem dX0_readTerm_19 : decode cX0_readTerm 19 = .ok (.aload_n 0, 1) := by decide +kernel
theorem dX0_readTerm_20 : decode cX0_readTerm 20 = .ok (.getfield 48, 3) := by decide +kernel
theorem dX0_readTerm_23 : decode cX0_readTerm 23 = .ok (.bipush 42, 2) := by decide +kernel
theorem dX0_readTerm_25 : decode cX0_readTerm 25 = .ok (.if_icmp .ne 30, 3) := by decide +kernel
theorem dX0_readTerm_28 : decode cX0_readTerm 28 = .ok (.aload_n 0, 1) := by decide +kernel
theorem dX0_readTerm_29 : decode cX0_readTerm 29 = .ok (.invokevirtual 41, 3) := by decide +kernel
theorem dX0_readTerm_32 : decode cX0_readTerm 32 = .ok (.aload_n 0, 1) := by decide +kernel
theorem dX0_readTerm_33 : decode cX0_readTerm 33 = .ok (.iload_n 1, 1) := by decide +kernel
theorem dX0_readTerm_34 : decode cX0_readTerm 34 = .ok (.invokevirtual 82, 3) := by decide +kernel
theorem dX0_readTerm_37 : decode cX0_readTerm 37 = .ok (.ifCond .ne 5, 3) := by decide +kernel
theorem dX0_readTerm_40 : decode cX0_readTerm 40 = .ok (.iconst 0, 1) := by decide +kernel
theorem dX0_readTerm_41 : decode cX0_readTerm 41 = .ok (.ireturn, 1) := by decide +kernel
theorem dX0_readTerm_42 : decode cX0_readTerm 42 = .ok (.aload_n 0, 1) := by decide +kernel
theorem dX0_readTerm_43 : decode cX0_readTerm 43 = .ok (.bipush 6, 2) := by decide +kernel
theorem dX0_readTerm_45 : decode cX0_readTerm 45 = .ok (.iconst 0, 1) := by decide +kernel
theorem dX0_readTerm_46 : decode cX0_readTerm 46 = .ok (.invokevirtual 63, 3) := by decide +kernel
theorem dX0_readTerm_49 : decode cX0_readTerm 49 = .ok (.iinc 2 1, 3) := by decide +kernel
theorem dX0_readTerm_52 : decode cX0_readTerm 52 = .ok (.goto (-40), 3) := by decide +kernel
theorem dX0_readTerm_55 : decode cX0_readTerm 55 = .ok (.iconst 1, 1) := by decide +kernel
theorem dX0_readTerm_56 : decode cX0_readTerm 56 = .ok (.ireturn, 1) := by decide +kernel
theorem dX0_readOne_0 : decode cX0_readOne 0 = .ok (.iconst 0, 1) := by decide +kernel
theorem dX0_readOne_1 : decode cX0_readOne 1 = .ok (.istore_n 2, 1) := by decide +kernel
theorem dX0_readOne_2 : decode cX0_readOne 2 = .ok (.aload_n 0, 1) := by decide +kernel
theorem dX0_readOne_3 : decode cX0_readOne 3 = .ok (.getfield 48, 3) := by decide +kernel
theorem dX0_readOne_6 : decode cX0_readOne 6 = .ok (.bipush 45, 2) := by decide +kernel
theorem dX0_readOne_8 : decode cX0_readOne 8 = .ok (.if_icmp .ne 20, 3) := by decide +kernel
theorem dX0_readOne_11 : decode cX0_readOne 11 = .ok (.iload_n 1, 1) := by decide +kernel
theorem dX0_readOne_12 : decode cX0_readOne 12 = .ok (.iload_n 2, 1) := by decide +kernel
theorem dX0_readOne_13 : decode cX0_readOne 13 = .ok (.iadd, 1) := by decide +kernel
theorem dX0_readOne_14 : decode cX0_readOne 14 = .ok (.iconst 5, 1) := by decide +kernel
theorem dX0_readOne_15 : decode cX0_readOne 15 = .ok (.if_icmp .ge 13, 3) := by decide +kernel
theorem dX0_readOne_18 : decode cX0_readOne 18 = .ok (.aload_n 0, 1) := by decide +kernel
theorem dX0_readOne_19 : decode cX0_readOne 19 = .ok (.invokevirtual 41, 3) := by decide +kernel
theorem dX0_readOne_22 : decode cX0_readOne 22 = .ok (.iinc 2 1, 3) := by decide +kernel
theorem dX0_readOne_25 : decode cX0_readOne 25 = .ok (.goto (-23), 3) := by decide +kernel
theorem dX0_readOne_28 : decode cX0_readOne 28 = .ok (.aload_n 0, 1) := by decide +kernel
theorem dX0_readOne_29 : decode cX0_readOne 29 = .ok (.iload_n 1, 1) := by decide +kernel
theorem dX0_readOne_30 : decode cX0_readOne 30 = .ok (.iload_n 2, 1) := by decide +kernel
theorem dX0_readOne_31 : decode cX0_readOne 31 = .ok (.iadd, 1) := by decide +kernel
theorem dX0_readOne_32 : decode cX0_readOne 32 = .ok (.invokevirtual 85, 3) := by decide +kernel
theorem dX0_readOne_35 : decode cX0_readOne 35 = .ok (.ifCond .ne 5, 3) := by decide +kernel
theorem dX0_readOne_38 : decode cX0_readOne 38 = .ok (.iconst 0, 1) := by decide +kernel
theorem dX0_readOne_39 : decode cX0_readOne 39 = .ok (.ireturn, 1) := by decide +kernel
theorem dX0_readOne_40 : decode cX0_readOne 40 = .ok (.aload_n 0, 1) := by decide +kernel
theorem dX0_readOne_41 : decode cX0_readOne 41 = .ok (.iconst 2, 1) := by decide +kernel
theorem dX0_readOne_42 : decode cX0_readOne 42 = .ok (.iload_n 2, 1) := by decide +kernel
theorem dX0_readOne_43 : decode cX0_readOne 43 = .ok (.invokevirtual 73, 3) := by decide +kernel
theorem dX0_readOne_46 : decode cX0_readOne 46 = .ok (.iconst 1, 1) := by decide +kernel
theorem dX0_readOne_47 : decode cX0_readOne 47 = .ok (.ireturn, 1) := by decide +kernel
theorem dX0_readBare_0 : decode cX0_readBare 0 = .ok (.aload_n 0, 1) := by decide +kernel
theorem dX0_readBare_1 : decode cX0_readBare 1 = .ok (.getfield 48, 3) := by decide +kernel
theorem dX0_readBare_4 : decode cX0_readBare 4 = .ok (.iconst 2, 1) := by decide +kernel
theorem dX0_readBare_5 : decode cX0_readBare 5 = .ok (.if_icmp .eq 11, 3) := by decide +kernel
theorem dX0_readBare_8 : decode cX0_readBare 8 = .ok (.aload_n 0, 1) := by decide +kernel
theorem dX0_readBare_9 : decode cX0_readBare 9 = .ok (.getfield 48, 3) := by decide +kernel
theorem dX0_readBare_12 : decode cX0_readBare 12 = .ok (.iconst 3, 1) := by decide +kernel
theorem dX0_readBare_13 : decode cX0_readBare 13 = .ok (.if_icmp .ne 30, 3) := by decide +kernel
theorem dX0_readBare_16 : decode cX0_readBare 16 = .ok (.aload_n 0, 1) := by decide +kernel
theorem dX0_readBare_17 : decode cX0_readBare 17 = .ok (.aload_n 0, 1) := by decide +kernel
theorem dX0_readBare_18 : decode cX0_readBare 18 = .ok (.getfield 48, 3) := by decide +kernel
theorem dX0_readBare_21 : decode cX0_readBare 21 = .ok (.iconst 2, 1) := by decide +kernel
theorem dX0_readBare_22 : decode cX0_readBare 22 = .ok (.if_icmp .ne 7, 3) := by decide +kernel
theorem dX0_readBare_25 : decode cX0_readBare 25 = .ok (.iconst 0, 1) := by decide +kernel
theorem dX0_readBare_26 : decode cX0_readBare 26 = .ok (.goto 4, 3) := by decide +kernel
theorem dX0_readBare_29 : decode cX0_readBare 29 = .ok (.iconst 1, 1) := by decide +kernel
theorem dX0_readBare_30 : decode cX0_readBare 30 = .ok (.aload_n 0, 1) := by decide +kernel
theorem dX0_readBare_31 : decode cX0_readBare 31 = .ok (.getfield 88, 3) := by decide +kernel
theorem dX0_readBare_34 : decode cX0_readBare 34 = .ok (.invokevirtual 63, 3) := by decide +kernel
theorem dX0_readBare_37 : decode cX0_readBare 37 = .ok (.aload_n 0, 1) := by decide +kernel
theorem dX0_readBare_38 : decode cX0_readBare 38 = .ok (.invokevirtual 41, 3) := by decide +kernel
theorem dX0_readBare_41 : decode cX0_readBare 41 = .ok (.iconst 1, 1) := by decide +kernel
theorem dX0_readBare_42 : decode cX0_readBare 42 = .ok (.ireturn, 1) := by decide +kernel
theorem dX0_readBare_43 : decode cX0_readBare 43 = .ok (.aload_n 0, 1) := by decide +kernel
theorem dX0_readBare_44 : decode cX0_readBare 44 = .ok (.getfield 48, 3) := by decide +kernel
theorem dX0_readBare_47 : decode cX0_readBare 47 = .ok (.bipush 40, 2) := by decide +kernel
theorem dX0_readBare_49 : decode cX0_readBare 49 = .ok (.if_icmp .ne 8, 3) := by decide +kernel
theorem dX0_readBare_52 : decode cX0_readBare 52 = .ok (.iload_n 1, 1) := by decide +kernel
theorem dX0_readBare_53 : decode cX0_readBare 53 = .ok (.iconst 5, 1) := by decide +kernel
theorem dX0_readBare_54 : decode cX0_readBare 54 = .ok (.if_icmp .lt 5, 3) := by decide +kernel
theorem dX0_readBare_57 : decode cX0_readBare 57 = .ok (.iconst 0, 1) := by decide +kernel
theorem dX0_readBare_58 : decode cX0_readBare 58 = .ok (.ireturn, 1) := by decide +kernel
theorem dX0_readBare_59 : decode cX0_readBare 59 = .ok (.aload_n 0, 1) := by decide +kernel
theorem dX0_readBare_60 : decode cX0_readBare 60 = .ok (.invokevirtual 41, 3) := by decide +kernel
theorem dX0_readBare_63 : decode cX0_readBare 63 = .ok (.aload_n 0, 1) := by decide +kernel
theorem dX0_readBare_64 : decode cX0_readBare 64 = .ok (.iload_n 1, 1) := by decide +kernel
theorem dX0_readBare_65 : decode cX0_readBare 65 = .ok (.iconst 1, 1) := by decide +kernel
theorem dX0_readBare_66 : decode cX0_readBare 66 = .ok (.iadd, 1) := by decide +kernel
theorem dX0_readBare_67 : decode cX0_readBare 67 = .ok (.invokevirtual 55, 3) := by decide +kernel
theorem dX0_readBare_70 : decode cX0_readBare 70 = .ok (.ifCond .eq 16, 3) := by decide +kernel
theorem dX0_readBare_73 : decode cX0_readBare 73 = .ok (.aload_n 0, 1) := by decide +kernel
theorem dX0_readBare_74 : decode cX0_readBare 74 = .ok (.bipush 41, 2) := by decide +kernel
theorem dX0_readBare_76 : decode cX0_readBare 76 = .ok (.invokevirtual 51, 3) := by decide +kernel
theorem dX0_readBare_79 : decode cX0_readBare 79 = .ok (.ifCond .eq 7, 3) := by decide +kernel
theorem dX0_readBare_82 : decode cX0_readBare 82 = .ok (.iconst 1, 1) := by decide +kernel
theorem dX0_readBare_83 : decode cX0_readBare 83 = .ok (.goto 4, 3) := by decide +kernel
theorem dX0_readBare_86 : decode cX0_readBare 86 = .ok (.iconst 0, 1) := by decide +kernel
theorem dX0_readBare_87 : decode cX0_readBare 87 = .ok (.ireturn, 1) := by decide +kernel
theorem dX0_putSteps_0 : decode cX0_putSteps 0 = .ok (.iconst 0, 1) := by decide +kernel
theorem dX0_putSteps_1 : decode cX0_putSteps 1 = .ok (.istore_n 3, 1) := by decide +kernel
theorem dX0_putSteps_2 : decode cX0_putSteps 2 = .ok (.iload_n 3, 1) := by decide +kernel
theorem dX0_putSteps_3 : decode cX0_putSteps 3 = .ok (.iload_n 2, 1) := by decide +kernel
theorem dX0_putSteps_4 : decode cX0_putSteps 4 = .ok (.if_icmp .ge 15, 3) := by decide +kernel
theorem dX0_putSteps_7 : decode cX0_putSteps 7 = .ok (.aload_n 0, 1) := by decide +kernel
theorem dX0_putSteps_8 : decode cX0_putSteps 8 = .ok (.iload_n 1, 1) := by decide +kernel
theorem dX0_putSteps_9 : decode cX0_putSteps 9 = .ok (.iconst 0, 1) := by decide +kernel
theorem dX0_putSteps_10 : decode cX0_putSteps 10 = .ok (.invokevirtual 63, 3) := by decide +kernel
theorem dX0_putSteps_13 : decode cX0_putSteps 13 = .ok (.iinc 3 1, 3) := by decide +kernel
theorem dX0_putSteps_16 : decode cX0_putSteps 16 = .ok (.goto (-14), 3) := by decide +kernel
theorem dX0_putSteps_19 : decode cX0_putSteps 19 = .ok (.return_, 1) := by decide +kernel
theorem dX0_putStep_0 : decode cX0_putStep 0 = .ok (.aload_n 0, 1) := by decide +kernel
theorem dX0_putStep_1 : decode cX0_putStep 1 = .ok (.getfield 25, 3) := by decide +kernel
theorem dX0_putStep_4 : decode cX0_putStep 4 = .ok (.sipush 160, 3) := by decide +kernel
theorem dX0_putStep_7 : decode cX0_putStep 7 = .ok (.if_icmp .ge 28, 3) := by decide +kernel
theorem dX0_putStep_10 : decode cX0_putStep 10 = .ok (.aload_n 0, 1) := by decide +kernel
theorem dX0_putStep_11 : decode cX0_putStep 11 = .ok (.getfield 15, 3) := by decide +kernel
theorem dX0_putStep_14 : decode cX0_putStep 14 = .ok (.aload_n 0, 1) := by decide +kernel
theorem dX0_putStep_15 : decode cX0_putStep 15 = .ok (.getfield 25, 3) := by decide +kernel
theorem dX0_putStep_18 : decode cX0_putStep 18 = .ok (.iload_n 1, 1) := by decide +kernel
theorem dX0_putStep_19 : decode cX0_putStep 19 = .ok (.bipush 14, 2) := by decide +kernel
theorem dX0_putStep_21 : decode cX0_putStep 21 = .ok (.ishl, 1) := by decide +kernel
theorem dX0_putStep_22 : decode cX0_putStep 22 = .ok (.iload_n 2, 1) := by decide +kernel
theorem dX0_putStep_23 : decode cX0_putStep 23 = .ok (.ior, 1) := by decide +kernel
theorem dX0_putStep_24 : decode cX0_putStep 24 = .ok (.iastore, 1) := by decide +kernel
theorem dX0_putStep_25 : decode cX0_putStep 25 = .ok (.aload_n 0, 1) := by decide +kernel
theorem dX0_putStep_26 : decode cX0_putStep 26 = .ok (.dup, 1) := by decide +kernel
theorem dX0_putStep_27 : decode cX0_putStep 27 = .ok (.getfield 25, 3) := by decide +kernel
theorem dX0_putStep_30 : decode cX0_putStep 30 = .ok (.iconst 1, 1) := by decide +kernel
theorem dX0_putStep_31 : decode cX0_putStep 31 = .ok (.iadd, 1) := by decide +kernel
theorem dX0_putStep_32 : decode cX0_putStep 32 = .ok (.putfield 25, 3) := by decide +kernel
theorem dX0_putStep_35 : decode cX0_putStep 35 = .ok (.return_, 1) := by decide +kernel
theorem dX0_passes_0 : decode cX0_passes 0 = .ok (.aload_n 0, 1) := by decide +kernel
theorem dX0_passes_1 : decode cX0_passes 1 = .ok (.getfield 48, 3) := by decide +kernel
theorem dX0_passes_4 : decode cX0_passes 4 = .ok (.iload_n 1, 1) := by decide +kernel
theorem dX0_passes_5 : decode cX0_passes 5 = .ok (.if_icmp .eq 5, 3) := by decide +kernel
theorem dX0_passes_8 : decode cX0_passes 8 = .ok (.iconst 0, 1) := by decide +kernel
theorem dX0_passes_9 : decode cX0_passes 9 = .ok (.ireturn, 1) := by decide +kernel
theorem dX0_passes_10 : decode cX0_passes 10 = .ok (.aload_n 0, 1) := by decide +kernel
theorem dX0_passes_11 : decode cX0_passes 11 = .ok (.invokevirtual 41, 3) := by decide +kernel
theorem dX0_passes_14 : decode cX0_passes 14 = .ok (.iconst 1, 1) := by decide +kernel
theorem dX0_passes_15 : decode cX0_passes 15 = .ok (.ireturn, 1) := by decide +kernel
theorem dX0_lookAtNext_0 : decode cX0_lookAtNext 0 = .ok (.aload_n 0, 1) := by decide +kernel
theorem dX0_lookAtNext_1 : decode cX0_lookAtNext 1 = .ok (.getfield 38, 3) := by decide +kernel
theorem dX0_lookAtNext_4 : decode cX0_lookAtNext 4 = .ok (.aload_n 0, 1) := by decide +kernel
theorem dX0_lookAtNext_5 : decode cX0_lookAtNext 5 = .ok (.getfield 21, 3) := by decide +kernel
theorem dX0_lookAtNext_8 : decode cX0_lookAtNext 8 = .ok (.if_icmp .ge 44, 3) := by decide +kernel
theorem dX0_lookAtNext_11 : decode cX0_lookAtNext 11 = .ok (.aload_n 0, 1) := by decide +kernel
theorem dX0_lookAtNext_12 : decode cX0_lookAtNext 12 = .ok (.getfield 9, 3) := by decide +kernel
theorem dX0_lookAtNext_15 : decode cX0_lookAtNext 15 = .ok (.aload_n 0, 1) := by decide +kernel
theorem dX0_lookAtNext_16 : decode cX0_lookAtNext 16 = .ok (.getfield 38, 3) := by decide +kernel
theorem dX0_lookAtNext_19 : decode cX0_lookAtNext 19 = .ok (.iaload, 1) := by decide +kernel
theorem dX0_lookAtNext_20 : decode cX0_lookAtNext 20 = .ok (.bipush 32, 2) := by decide +kernel
theorem dX0_lookAtNext_22 : decode cX0_lookAtNext 22 = .ok (.if_icmp .eq 17, 3) := by decide +kernel
theorem dX0_lookAtNext_25 : decode cX0_lookAtNext 25 = .ok (.aload_n 0, 1) := by decide +kernel
theorem dX0_lookAtNext_26 : decode cX0_lookAtNext 26 = .ok (.getfield 9, 3) := by decide +kernel
theorem dX0_lookAtNext_29 : decode cX0_lookAtNext 29 = .ok (.aload_n 0, 1) := by decide +kernel
theorem dX0_lookAtNext_30 : decode cX0_lookAtNext 30 = .ok (.getfield 38, 3) := by decide +kernel
theorem dX0_lookAtNext_33 : decode cX0_lookAtNext 33 = .ok (.iaload, 1) := by decide +kernel
theorem dX0_lookAtNext_34 : decode cX0_lookAtNext 34 = .ok (.bipush 10, 2) := by decide +kernel
theorem dX0_lookAtNext_36 : decode cX0_lookAtNext 36 = .ok (.if_icmp .ne 16, 3) := by decide +kernel
theorem dX0_lookAtNext_39 : decode cX0_lookAtNext 39 = .ok (.aload_n 0, 1) := by decide +kernel
theorem dX0_lookAtNext_40 : decode cX0_lookAtNext 40 = .ok (.dup, 1) := by decide +kernel
theorem dX0_lookAtNext_41 : decode cX0_lookAtNext 41 = .ok (.getfield 38, 3) := by decide +kernel
theorem dX0_lookAtNext_44 : decode cX0_lookAtNext 44 = .ok (.iconst 1, 1) := by decide +kernel
theorem dX0_lookAtNext_45 : decode cX0_lookAtNext 45 = .ok (.iadd, 1) := by decide +kernel
theorem dX0_lookAtNext_46 : decode cX0_lookAtNext 46 = .ok (.putfield 38, 3) := by decide +kernel
theorem dX0_lookAtNext_49 : decode cX0_lookAtNext 49 = .ok (.goto (-49), 3) := by decide +kernel
theorem dX0_lookAtNext_52 : decode cX0_lookAtNext 52 = .ok (.aload_n 0, 1) := by decide +kernel
theorem dX0_lookAtNext_53 : decode cX0_lookAtNext 53 = .ok (.aload_n 0, 1) := by decide +kernel
theorem dX0_lookAtNext_54 : decode cX0_lookAtNext 54 = .ok (.getfield 38, 3) := by decide +kernel
theorem dX0_lookAtNext_57 : decode cX0_lookAtNext 57 = .ok (.putfield 91, 3) := by decide +kernel
theorem dX0_lookAtNext_60 : decode cX0_lookAtNext 60 = .ok (.aload_n 0, 1) := by decide +kernel
theorem dX0_lookAtNext_61 : decode cX0_lookAtNext 61 = .ok (.getfield 38, 3) := by decide +kernel
theorem dX0_lookAtNext_64 : decode cX0_lookAtNext 64 = .ok (.aload_n 0, 1) := by decide +kernel
theorem dX0_lookAtNext_65 : decode cX0_lookAtNext 65 = .ok (.getfield 21, 3) := by decide +kernel
theorem dX0_lookAtNext_68 : decode cX0_lookAtNext 68 = .ok (.if_icmp .lt 11, 3) := by decide +kernel
theorem dX0_lookAtNext_71 : decode cX0_lookAtNext 71 = .ok (.aload_n 0, 1) := by decide +kernel
theorem dX0_lookAtNext_72 : decode cX0_lookAtNext 72 = .ok (.iconst 0, 1) := by decide +kernel
theorem dX0_lookAtNext_73 : decode cX0_lookAtNext 73 = .ok (.putfield 48, 3) := by decide +kernel
theorem dX0_lookAtNext_76 : decode cX0_lookAtNext 76 = .ok (.goto 89, 3) := by decide +kernel
theorem dX0_lookAtNext_79 : decode cX0_lookAtNext 79 = .ok (.aload_n 0, 1) := by decide +kernel
theorem dX0_lookAtNext_80 : decode cX0_lookAtNext 80 = .ok (.getfield 9, 3) := by decide +kernel
theorem dX0_lookAtNext_83 : decode cX0_lookAtNext 83 = .ok (.aload_n 0, 1) := by decide +kernel
theorem dX0_lookAtNext_84 : decode cX0_lookAtNext 84 = .ok (.getfield 38, 3) := by decide +kernel
theorem dX0_lookAtNext_87 : decode cX0_lookAtNext 87 = .ok (.iaload, 1) := by decide +kernel
theorem dX0_lookAtNext_88 : decode cX0_lookAtNext 88 = .ok (.invokestatic 94, 3) := by decide +kernel
theorem dX0_lookAtNext_91 : decode cX0_lookAtNext 91 = .ok (.ifCond .eq 10, 3) := by decide +kernel
theorem dX0_lookAtNext_94 : decode cX0_lookAtNext 94 = .ok (.aload_n 0, 1) := by decide +kernel
theorem dX0_lookAtNext_95 : decode cX0_lookAtNext 95 = .ok (.invokevirtual 97, 3) := by decide +kernel
theorem dX0_lookAtNext_98 : decode cX0_lookAtNext 98 = .ok (.goto 67, 3) := by decide +kernel
theorem dX0_lookAtNext_101 : decode cX0_lookAtNext 101 = .ok (.aload_n 0, 1) := by decide +kernel
theorem dX0_lookAtNext_102 : decode cX0_lookAtNext 102 = .ok (.getfield 9, 3) := by decide +kernel
theorem dX0_lookAtNext_105 : decode cX0_lookAtNext 105 = .ok (.aload_n 0, 1) := by decide +kernel
theorem dX0_lookAtNext_106 : decode cX0_lookAtNext 106 = .ok (.getfield 38, 3) := by decide +kernel
theorem dX0_lookAtNext_109 : decode cX0_lookAtNext 109 = .ok (.iaload, 1) := by decide +kernel
theorem dX0_lookAtNext_110 : decode cX0_lookAtNext 110 = .ok (.invokestatic 100, 3) := by decide +kernel
theorem dX0_lookAtNext_113 : decode cX0_lookAtNext 113 = .ok (.ifCond .eq 10, 3) := by decide +kernel
theorem dX0_lookAtNext_116 : decode cX0_lookAtNext 116 = .ok (.aload_n 0, 1) := by decide +kernel
theorem dX0_lookAtNext_117 : decode cX0_lookAtNext 117 = .ok (.invokevirtual 103, 3) := by decide +kernel
theorem dX0_lookAtNext_120 : decode cX0_lookAtNext 120 = .ok (.goto 45, 3) := by decide +kernel
theorem dX0_lookAtNext_123 : decode cX0_lookAtNext 123 = .ok (.aload_n 0, 1) := by decide +kernel
theorem dX0_lookAtNext_124 : decode cX0_lookAtNext 124 = .ok (.aload_n 0, 1) := by decide +kernel
theorem dX0_lookAtNext_125 : decode cX0_lookAtNext 125 = .ok (.getfield 9, 3) := by decide +kernel
theorem dX0_lookAtNext_128 : decode cX0_lookAtNext 128 = .ok (.aload_n 0, 1) := by decide +kernel
theorem dX0_lookAtNext_129 : decode cX0_lookAtNext 129 = .ok (.getfield 38, 3) := by decide +kernel
theorem dX0_lookAtNext_132 : decode cX0_lookAtNext 132 = .ok (.iaload, 1) := by decide +kernel
theorem dX0_lookAtNext_133 : decode cX0_lookAtNext 133 = .ok (.invokestatic 106, 3) := by decide +kernel
theorem dX0_lookAtNext_136 : decode cX0_lookAtNext 136 = .ok (.ifCond .eq 15, 3) := by decide +kernel
theorem dX0_lookAtNext_139 : decode cX0_lookAtNext 139 = .ok (.aload_n 0, 1) := by decide +kernel
theorem dX0_lookAtNext_140 : decode cX0_lookAtNext 140 = .ok (.getfield 9, 3) := by decide +kernel
theorem dX0_lookAtNext_143 : decode cX0_lookAtNext 143 = .ok (.aload_n 0, 1) := by decide +kernel
theorem dX0_lookAtNext_144 : decode cX0_lookAtNext 144 = .ok (.getfield 38, 3) := by decide +kernel
theorem dX0_lookAtNext_147 : decode cX0_lookAtNext 147 = .ok (.iaload, 1) := by decide +kernel
theorem dX0_lookAtNext_148 : decode cX0_lookAtNext 148 = .ok (.goto 4, 3) := by decide +kernel
theorem dX0_lookAtNext_151 : decode cX0_lookAtNext 151 = .ok (.iconst 1, 1) := by decide +kernel
theorem dX0_lookAtNext_152 : decode cX0_lookAtNext 152 = .ok (.putfield 48, 3) := by decide +kernel
theorem dX0_lookAtNext_155 : decode cX0_lookAtNext 155 = .ok (.aload_n 0, 1) := by decide +kernel
theorem dX0_lookAtNext_156 : decode cX0_lookAtNext 156 = .ok (.dup, 1) := by decide +kernel
theorem dX0_lookAtNext_157 : decode cX0_lookAtNext 157 = .ok (.getfield 38, 3) := by decide +kernel
theorem dX0_lookAtNext_160 : decode cX0_lookAtNext 160 = .ok (.iconst 1, 1) := by decide +kernel
theorem dX0_lookAtNext_161 : decode cX0_lookAtNext 161 = .ok (.iadd, 1) := by decide +kernel
theorem dX0_lookAtNext_162 : decode cX0_lookAtNext 162 = .ok (.putfield 38, 3) := by decide +kernel
theorem dX0_lookAtNext_165 : decode cX0_lookAtNext 165 = .ok (.return_, 1) := by decide +kernel
theorem dX0_lookAtNumber_0 : decode cX0_lookAtNumber 0 = .ok (.aload_n 0, 1) := by decide +kernel
theorem dX0_lookAtNumber_1 : decode cX0_lookAtNumber 1 = .ok (.iconst 0, 1) := by decide +kernel
theorem dX0_lookAtNumber_2 : decode cX0_lookAtNumber 2 = .ok (.putfield 88, 3) := by decide +kernel
theorem dX0_lookAtNumber_5 : decode cX0_lookAtNumber 5 = .ok (.aload_n 0, 1) := by decide +kernel
theorem dX0_lookAtNumber_6 : decode cX0_lookAtNumber 6 = .ok (.getfield 38, 3) := by decide +kernel
theorem dX0_lookAtNumber_9 : decode cX0_lookAtNumber 9 = .ok (.aload_n 0, 1) := by decide +kernel
theorem dX0_lookAtNumber_10 : decode cX0_lookAtNumber 10 = .ok (.getfield 21, 3) := by decide +kernel
theorem dX0_lookAtNumber_13 : decode cX0_lookAtNumber 13 = .ok (.if_icmp .ge 68, 3) := by decide +kernel
theorem dX0_lookAtNumber_16 : decode cX0_lookAtNumber 16 = .ok (.aload_n 0, 1) := by decide +kernel
theorem dX0_lookAtNumber_17 : decode cX0_lookAtNumber 17 = .ok (.getfield 9, 3) := by decide +kernel
theorem dX0_lookAtNumber_20 : decode cX0_lookAtNumber 20 = .ok (.aload_n 0, 1) := by decide +kernel
theorem dX0_lookAtNumber_21 : decode cX0_lookAtNumber 21 = .ok (.getfield 38, 3) := by decide +kernel
theorem dX0_lookAtNumber_24 : decode cX0_lookAtNumber 24 = .ok (.iaload, 1) := by decide +kernel
theorem dX0_lookAtNumber_25 : decode cX0_lookAtNumber 25 = .ok (.invokestatic 94, 3) := by decide +kernel
theorem dX0_lookAtNumber_28 : decode cX0_lookAtNumber 28 = .ok (.ifCond .eq 53, 3) := by decide +kernel
theorem dX0_lookAtNumber_31 : decode cX0_lookAtNumber 31 = .ok (.aload_n 0, 1) := by decide +kernel
theorem dX0_lookAtNumber_32 : decode cX0_lookAtNumber 32 = .ok (.getfield 38, 3) := by decide +kernel
theorem dX0_lookAtNumber_35 : decode cX0_lookAtNumber 35 = .ok (.aload_n 0, 1) := by decide +kernel
theorem dX0_lookAtNumber_36 : decode cX0_lookAtNumber 36 = .ok (.getfield 91, 3) := by decide +kernel
theorem dX0_lookAtNumber_39 : decode cX0_lookAtNumber 39 = .ok (.isub, 1) := by decide +kernel
theorem dX0_lookAtNumber_40 : decode cX0_lookAtNumber 40 = .ok (.iconst 4, 1) := by decide +kernel
theorem dX0_lookAtNumber_41 : decode cX0_lookAtNumber 41 = .ok (.if_icmp .ge 27, 3) := by decide +kernel
theorem dX0_lookAtNumber_44 : decode cX0_lookAtNumber 44 = .ok (.aload_n 0, 1) := by decide +kernel
theorem dX0_lookAtNumber_45 : decode cX0_lookAtNumber 45 = .ok (.aload_n 0, 1) := by decide +kernel
theorem dX0_lookAtNumber_46 : decode cX0_lookAtNumber 46 = .ok (.getfield 88, 3) := by decide +kernel
theorem dX0_lookAtNumber_49 : decode cX0_lookAtNumber 49 = .ok (.bipush 10, 2) := by decide +kernel
theorem dX0_lookAtNumber_51 : decode cX0_lookAtNumber 51 = .ok (.imul, 1) := by decide +kernel
theorem dX0_lookAtNumber_52 : decode cX0_lookAtNumber 52 = .ok (.aload_n 0, 1) := by decide +kernel
theorem dX0_lookAtNumber_53 : decode cX0_lookAtNumber 53 = .ok (.getfield 9, 3) := by decide +kernel
theorem dX0_lookAtNumber_56 : decode cX0_lookAtNumber 56 = .ok (.aload_n 0, 1) := by decide +kernel
theorem dX0_lookAtNumber_57 : decode cX0_lookAtNumber 57 = .ok (.getfield 38, 3) := by decide +kernel
theorem dX0_lookAtNumber_60 : decode cX0_lookAtNumber 60 = .ok (.iaload, 1) := by decide +kernel
theorem dX0_lookAtNumber_61 : decode cX0_lookAtNumber 61 = .ok (.iadd, 1) := by decide +kernel
theorem dX0_lookAtNumber_62 : decode cX0_lookAtNumber 62 = .ok (.bipush 48, 2) := by decide +kernel
theorem dX0_lookAtNumber_64 : decode cX0_lookAtNumber 64 = .ok (.isub, 1) := by decide +kernel
theorem dX0_lookAtNumber_65 : decode cX0_lookAtNumber 65 = .ok (.putfield 88, 3) := by decide +kernel
theorem dX0_lookAtNumber_68 : decode cX0_lookAtNumber 68 = .ok (.aload_n 0, 1) := by decide +kernel
theorem dX0_lookAtNumber_69 : decode cX0_lookAtNumber 69 = .ok (.dup, 1) := by decide +kernel
theorem dX0_lookAtNumber_70 : decode cX0_lookAtNumber 70 = .ok (.getfield 38, 3) := by decide +kernel
theorem dX0_lookAtNumber_73 : decode cX0_lookAtNumber 73 = .ok (.iconst 1, 1) := by decide +kernel
theorem dX0_lookAtNumber_74 : decode cX0_lookAtNumber 74 = .ok (.iadd, 1) := by decide +kernel
theorem dX0_lookAtNumber_75 : decode cX0_lookAtNumber 75 = .ok (.putfield 38, 3) := by decide +kernel
theorem dX0_lookAtNumber_78 : decode cX0_lookAtNumber 78 = .ok (.goto (-73), 3) := by decide +kernel
theorem dX0_lookAtNumber_81 : decode cX0_lookAtNumber 81 = .ok (.aload_n 0, 1) := by decide +kernel
theorem dX0_lookAtNumber_82 : decode cX0_lookAtNumber 82 = .ok (.aload_n 0, 1) := by decide +kernel
theorem dX0_lookAtNumber_83 : decode cX0_lookAtNumber 83 = .ok (.getfield 38, 3) := by decide +kernel
theorem dX0_lookAtNumber_86 : decode cX0_lookAtNumber 86 = .ok (.aload_n 0, 1) := by decide +kernel
theorem dX0_lookAtNumber_87 : decode cX0_lookAtNumber 87 = .ok (.getfield 91, 3) := by decide +kernel
theorem dX0_lookAtNumber_90 : decode cX0_lookAtNumber 90 = .ok (.isub, 1) := by decide +kernel
theorem dX0_lookAtNumber_91 : decode cX0_lookAtNumber 91 = .ok (.iconst 4, 1) := by decide +kernel
theorem dX0_lookAtNumber_92 : decode cX0_lookAtNumber 92 = .ok (.if_icmp .gt 7, 3) := by decide +kernel
theorem dX0_lookAtNumber_95 : decode cX0_lookAtNumber 95 = .ok (.iconst 2, 1) := by decide +kernel
theorem dX0_lookAtNumber_96 : decode cX0_lookAtNumber 96 = .ok (.goto 4, 3) := by decide +kernel
theorem dX0_lookAtNumber_99 : decode cX0_lookAtNumber 99 = .ok (.iconst 1, 1) := by decide +kernel
theorem dX0_lookAtNumber_100 : decode cX0_lookAtNumber 100 = .ok (.putfield 48, 3) := by decide +kernel
theorem dX0_lookAtNumber_103 : decode cX0_lookAtNumber 103 = .ok (.return_, 1) := by decide +kernel
theorem dX0_lookAtWord_0 : decode cX0_lookAtWord 0 = .ok (.aload_n 0, 1) := by decide +kernel
theorem dX0_lookAtWord_1 : decode cX0_lookAtWord 1 = .ok (.getfield 38, 3) := by decide +kernel
theorem dX0_lookAtWord_4 : decode cX0_lookAtWord 4 = .ok (.aload_n 0, 1) := by decide +kernel
theorem dX0_lookAtWord_5 : decode cX0_lookAtWord 5 = .ok (.getfield 21, 3) := by decide +kernel
theorem dX0_lookAtWord_8 : decode cX0_lookAtWord 8 = .ok (.if_icmp .ge 31, 3) := by decide +kernel
theorem dX0_lookAtWord_11 : decode cX0_lookAtWord 11 = .ok (.aload_n 0, 1) := by decide +kernel
theorem dX0_lookAtWord_12 : decode cX0_lookAtWord 12 = .ok (.getfield 9, 3) := by decide +kernel
theorem dX0_lookAtWord_15 : decode cX0_lookAtWord 15 = .ok (.aload_n 0, 1) := by decide +kernel
theorem dX0_lookAtWord_16 : decode cX0_lookAtWord 16 = .ok (.getfield 38, 3) := by decide +kernel
theorem dX0_lookAtWord_19 : decode cX0_lookAtWord 19 = .ok (.iaload, 1) := by decide +kernel
theorem dX0_lookAtWord_20 : decode cX0_lookAtWord 20 = .ok (.invokestatic 100, 3) := by decide +kernel
theorem dX0_lookAtWord_23 : decode cX0_lookAtWord 23 = .ok (.ifCond .eq 16, 3) := by decide +kernel
theorem dX0_lookAtWord_26 : decode cX0_lookAtWord 26 = .ok (.aload_n 0, 1) := by decide +kernel
theorem dX0_lookAtWord_27 : decode cX0_lookAtWord 27 = .ok (.dup, 1) := by decide +kernel
theorem dX0_lookAtWord_28 : decode cX0_lookAtWord 28 = .ok (.getfield 38, 3) := by decide +kernel
theorem dX0_lookAtWord_31 : decode cX0_lookAtWord 31 = .ok (.iconst 1, 1) := by decide +kernel
theorem dX0_lookAtWord_32 : decode cX0_lookAtWord 32 = .ok (.iadd, 1) := by decide +kernel
theorem dX0_lookAtWord_33 : decode cX0_lookAtWord 33 = .ok (.putfield 38, 3) := by decide +kernel
theorem dX0_lookAtWord_36 : decode cX0_lookAtWord 36 = .ok (.goto (-36), 3) := by decide +kernel
theorem dX0_lookAtWord_39 : decode cX0_lookAtWord 39 = .ok (.aload_n 0, 1) := by decide +kernel
theorem dX0_lookAtWord_40 : decode cX0_lookAtWord 40 = .ok (.aload_n 0, 1) := by decide +kernel
theorem dX0_lookAtWord_41 : decode cX0_lookAtWord 41 = .ok (.ldc 109, 2) := by decide +kernel
theorem dX0_lookAtWord_43 : decode cX0_lookAtWord 43 = .ok (.invokevirtual 111, 3) := by decide +kernel
theorem dX0_lookAtWord_46 : decode cX0_lookAtWord 46 = .ok (.ifCond .eq 7, 3) := by decide +kernel
theorem dX0_lookAtWord_49 : decode cX0_lookAtWord 49 = .ok (.iconst 0, 1) := by decide +kernel
theorem dX0_lookAtWord_50 : decode cX0_lookAtWord 50 = .ok (.goto 69, 3) := by decide +kernel
theorem dX0_lookAtWord_53 : decode cX0_lookAtWord 53 = .ok (.aload_n 0, 1) := by decide +kernel
theorem dX0_lookAtWord_54 : decode cX0_lookAtWord 54 = .ok (.ldc 115, 2) := by decide +kernel
theorem dX0_lookAtWord_56 : decode cX0_lookAtWord 56 = .ok (.invokevirtual 111, 3) := by decide +kernel
theorem dX0_lookAtWord_59 : decode cX0_lookAtWord 59 = .ok (.ifCond .eq 7, 3) := by decide +kernel
theorem dX0_lookAtWord_62 : decode cX0_lookAtWord 62 = .ok (.iconst 1, 1) := by decide +kernel
theorem dX0_lookAtWord_63 : decode cX0_lookAtWord 63 = .ok (.goto 56, 3) := by decide +kernel
theorem dX0_lookAtWord_66 : decode cX0_lookAtWord 66 = .ok (.aload_n 0, 1) := by decide +kernel
theorem dX0_lookAtWord_67 : decode cX0_lookAtWord 67 = .ok (.ldc 117, 2) := by decide +kernel
theorem dX0_lookAtWord_69 : decode cX0_lookAtWord 69 = .ok (.invokevirtual 111, 3) := by decide +kernel
theorem dX0_lookAtWord_72 : decode cX0_lookAtWord 72 = .ok (.ifCond .eq 7, 3) := by decide +kernel
theorem dX0_lookAtWord_75 : decode cX0_lookAtWord 75 = .ok (.iconst 2, 1) := by decide +kernel
theorem dX0_lookAtWord_76 : decode cX0_lookAtWord 76 = .ok (.goto 43, 3) := by decide +kernel
theorem dX0_lookAtWord_79 : decode cX0_lookAtWord 79 = .ok (.aload_n 0, 1) := by decide +kernel
theorem dX0_lookAtWord_80 : decode cX0_lookAtWord 80 = .ok (.ldc 119, 2) := by decide +kernel
theorem dX0_lookAtWord_82 : decode cX0_lookAtWord 82 = .ok (.invokevirtual 111, 3) := by decide +kernel
theorem dX0_lookAtWord_85 : decode cX0_lookAtWord 85 = .ok (.ifCond .eq 7, 3) := by decide +kernel
theorem dX0_lookAtWord_88 : decode cX0_lookAtWord 88 = .ok (.iconst 3, 1) := by decide +kernel
theorem dX0_lookAtWord_89 : decode cX0_lookAtWord 89 = .ok (.goto 30, 3) := by decide +kernel
theorem dX0_lookAtWord_92 : decode cX0_lookAtWord 92 = .ok (.aload_n 0, 1) := by decide +kernel
theorem dX0_lookAtWord_93 : decode cX0_lookAtWord 93 = .ok (.ldc 121, 2) := by decide +kernel
theorem dX0_lookAtWord_95 : decode cX0_lookAtWord 95 = .ok (.invokevirtual 111, 3) := by decide +kernel
theorem dX0_lookAtWord_98 : decode cX0_lookAtWord 98 = .ok (.ifCond .eq 7, 3) := by decide +kernel
theorem dX0_lookAtWord_101 : decode cX0_lookAtWord 101 = .ok (.iconst 4, 1) := by decide +kernel
theorem dX0_lookAtWord_102 : decode cX0_lookAtWord 102 = .ok (.goto 17, 3) := by decide +kernel
theorem dX0_lookAtWord_105 : decode cX0_lookAtWord 105 = .ok (.aload_n 0, 1) := by decide +kernel
theorem dX0_lookAtWord_106 : decode cX0_lookAtWord 106 = .ok (.ldc 123, 2) := by decide +kernel
theorem dX0_lookAtWord_108 : decode cX0_lookAtWord 108 = .ok (.invokevirtual 111, 3) := by decide +kernel
theorem dX0_lookAtWord_111 : decode cX0_lookAtWord 111 = .ok (.ifCond .eq 7, 3) := by decide +kernel
theorem dX0_lookAtWord_114 : decode cX0_lookAtWord 114 = .ok (.iconst 5, 1) := by decide +kernel
theorem dX0_lookAtWord_115 : decode cX0_lookAtWord 115 = .ok (.goto 4, 3) := by decide +kernel
theorem dX0_lookAtWord_118 : decode cX0_lookAtWord 118 = .ok (.iconst (-1), 1) := by decide +kernel
theorem dX0_lookAtWord_119 : decode cX0_lookAtWord 119 = .ok (.putfield 88, 3) := by decide +kernel
theorem dX0_lookAtWord_122 : decode cX0_lookAtWord 122 = .ok (.aload_n 0, 1) := by decide +kernel
theorem dX0_lookAtWord_123 : decode cX0_lookAtWord 123 = .ok (.aload_n 0, 1) := by decide +kernel
theorem dX0_lookAtWord_124 : decode cX0_lookAtWord 124 = .ok (.getfield 88, 3) := by decide +kernel
theorem dX0_lookAtWord_127 : decode cX0_lookAtWord 127 = .ok (.iconst (-1), 1) := by decide +kernel
theorem dX0_lookAtWord_128 : decode cX0_lookAtWord 128 = .ok (.if_icmp .eq 7, 3) := by decide +kernel
theorem dX0_lookAtWord_131 : decode cX0_lookAtWord 131 = .ok (.iconst 3, 1) := by decide +kernel
theorem dX0_lookAtWord_132 : decode cX0_lookAtWord 132 = .ok (.goto 86, 3) := by decide +kernel
theorem dX0_lookAtWord_135 : decode cX0_lookAtWord 135 = .ok (.aload_n 0, 1) := by decide +kernel
theorem dX0_lookAtWord_136 : decode cX0_lookAtWord 136 = .ok (.ldc 125, 2) := by decide +kernel
theorem dX0_lookAtWord_138 : decode cX0_lookAtWord 138 = .ok (.invokevirtual 111, 3) := by decide +kernel
theorem dX0_lookAtWord_141 : decode cX0_lookAtWord 141 = .ok (.ifCond .eq 7, 3) := by decide +kernel
theorem dX0_lookAtWord_144 : decode cX0_lookAtWord 144 = .ok (.iconst 4, 1) := by decide +kernel
theorem dX0_lookAtWord_145 : decode cX0_lookAtWord 145 = .ok (.goto 73, 3) := by decide +kernel
theorem dX0_lookAtWord_148 : decode cX0_lookAtWord 148 = .ok (.aload_n 0, 1) := by decide +kernel
theorem dX0_lookAtWord_149 : decode cX0_lookAtWord 149 = .ok (.ldc 127, 2) := by decide +kernel
theorem dX0_lookAtWord_151 : decode cX0_lookAtWord 151 = .ok (.invokevirtual 111, 3) := by decide +kernel
theorem dX0_lookAtWord_154 : decode cX0_lookAtWord 154 = .ok (.ifCond .eq 7, 3) := by decide +kernel
theorem dX0_lookAtWord_157 : decode cX0_lookAtWord 157 = .ok (.iconst 5, 1) := by decide +kernel
theorem dX0_lookAtWord_158 : decode cX0_lookAtWord 158 = .ok (.goto 60, 3) := by decide +kernel
theorem dX0_lookAtWord_161 : decode cX0_lookAtWord 161 = .ok (.aload_n 0, 1) := by decide +kernel
theorem dX0_lookAtWord_162 : decode cX0_lookAtWord 162 = .ok (.ldc 129, 2) := by decide +kernel
theorem dX0_lookAtWord_164 : decode cX0_lookAtWord 164 = .ok (.invokevirtual 111, 3) := by decide +kernel
theorem dX0_lookAtWord_167 : decode cX0_lookAtWord 167 = .ok (.ifCond .eq 8, 3) := by decide +kernel
theorem dX0_lookAtWord_170 : decode cX0_lookAtWord 170 = .ok (.bipush 6, 2) := by decide +kernel
theorem dX0_lookAtWord_172 : decode cX0_lookAtWord 172 = .ok (.goto 46, 3) := by decide +kernel
theorem dX0_lookAtWord_175 : decode cX0_lookAtWord 175 = .ok (.aload_n 0, 1) := by decide +kernel
theorem dX0_lookAtWord_176 : decode cX0_lookAtWord 176 = .ok (.ldc 131, 2) := by decide +kernel
theorem dX0_lookAtWord_178 : decode cX0_lookAtWord 178 = .ok (.invokevirtual 111, 3) := by decide +kernel
theorem dX0_lookAtWord_181 : decode cX0_lookAtWord 181 = .ok (.ifCond .eq 8, 3) := by decide +kernel
theorem dX0_lookAtWord_184 : decode cX0_lookAtWord 184 = .ok (.bipush 7, 2) := by decide +kernel
theorem dX0_lookAtWord_186 : decode cX0_lookAtWord 186 = .ok (.goto 32, 3) := by decide +kernel
theorem dX0_lookAtWord_189 : decode cX0_lookAtWord 189 = .ok (.aload_n 0, 1) := by decide +kernel
theorem dX0_lookAtWord_190 : decode cX0_lookAtWord 190 = .ok (.ldc 133, 2) := by decide +kernel
theorem dX0_lookAtWord_192 : decode cX0_lookAtWord 192 = .ok (.invokevirtual 111, 3) := by decide +kernel
theorem dX0_lookAtWord_195 : decode cX0_lookAtWord 195 = .ok (.ifCond .eq 8, 3) := by decide +kernel
theorem dX0_lookAtWord_198 : decode cX0_lookAtWord 198 = .ok (.bipush 8, 2) := by decide +kernel
theorem dX0_lookAtWord_200 : decode cX0_lookAtWord 200 = .ok (.goto 18, 3) := by decide +kernel
theorem dX0_lookAtWord_203 : decode cX0_lookAtWord 203 = .ok (.aload_n 0, 1) := by decide +kernel
theorem dX0_lookAtWord_204 : decode cX0_lookAtWord 204 = .ok (.ldc 135, 2) := by decide +kernel
theorem dX0_lookAtWord_206 : decode cX0_lookAtWord 206 = .ok (.invokevirtual 111, 3) := by decide +kernel
theorem dX0_lookAtWord_209 : decode cX0_lookAtWord 209 = .ok (.ifCond .eq 8, 3) := by decide +kernel
theorem dX0_lookAtWord_212 : decode cX0_lookAtWord 212 = .ok (.bipush 9, 2) := by decide +kernel
theorem dX0_lookAtWord_214 : decode cX0_lookAtWord 214 = .ok (.goto 4, 3) := by decide +kernel
theorem dX0_lookAtWord_217 : decode cX0_lookAtWord 217 = .ok (.iconst 1, 1) := by decide +kernel
theorem dX0_lookAtWord_218 : decode cX0_lookAtWord 218 = .ok (.putfield 48, 3) := by decide +kernel
theorem dX0_lookAtWord_221 : decode cX0_lookAtWord 221 = .ok (.return_, 1) := by decide +kernel
theorem dX0_isWord_0 : decode cX0_isWord 0 = .ok (.aload_n 0, 1) := by decide +kernel
theorem dX0_isWord_1 : decode cX0_isWord 1 = .ok (.getfield 38, 3) := by decide +kernel
theorem dX0_isWord_4 : decode cX0_isWord 4 = .ok (.aload_n 0, 1) := by decide +kernel
theorem dX0_isWord_5 : decode cX0_isWord 5 = .ok (.getfield 91, 3) := by decide +kernel
theorem dX0_isWord_8 : decode cX0_isWord 8 = .ok (.isub, 1) := by decide +kernel
theorem dX0_isWord_9 : decode cX0_isWord 9 = .ok (.aload_n 1, 1) := by decide +kernel
theorem dX0_isWord_10 : decode cX0_isWord 10 = .ok (.invokevirtual 137, 3) := by decide +kernel
theorem dX0_isWord_13 : decode cX0_isWord 13 = .ok (.if_icmp .ne 14, 3) := by decide +kernel
theorem dX0_isWord_16 : decode cX0_isWord 16 = .ok (.aload_n 0, 1) := by decide +kernel
theorem dX0_isWord_17 : decode cX0_isWord 17 = .ok (.getfield 38, 3) := by decide +kernel
theorem dX0_isWord_20 : decode cX0_isWord 20 = .ok (.aload_n 0, 1) := by decide +kernel
theorem dX0_isWord_21 : decode cX0_isWord 21 = .ok (.getfield 21, 3) := by decide +kernel
theorem dX0_isWord_24 : decode cX0_isWord 24 = .ok (.if_icmp .le 5, 3) := by decide +kernel
theorem dX0_isWord_27 : decode cX0_isWord 27 = .ok (.iconst 0, 1) := by decide +kernel
theorem dX0_isWord_28 : decode cX0_isWord 28 = .ok (.ireturn, 1) := by decide +kernel
theorem dX0_isWord_29 : decode cX0_isWord 29 = .ok (.iconst 0, 1) := by decide +kernel
theorem dX0_isWord_30 : decode cX0_isWord 30 = .ok (.istore_n 2, 1) := by decide +kernel
theorem dX0_isWord_31 : decode cX0_isWord 31 = .ok (.iload_n 2, 1) := by decide +kernel
theorem dX0_isWord_32 : decode cX0_isWord 32 = .ok (.aload_n 1, 1) := by decide +kernel
theorem dX0_isWord_33 : decode cX0_isWord 33 = .ok (.invokevirtual 137, 3) := by decide +kernel
theorem dX0_isWord_36 : decode cX0_isWord 36 = .ok (.if_icmp .ge 30, 3) := by decide +kernel
theorem dX0_isWord_39 : decode cX0_isWord 39 = .ok (.aload_n 0, 1) := by decide +kernel
theorem dX0_isWord_40 : decode cX0_isWord 40 = .ok (.getfield 9, 3) := by decide +kernel
theorem dX0_isWord_43 : decode cX0_isWord 43 = .ok (.aload_n 0, 1) := by decide +kernel
theorem dX0_isWord_44 : decode cX0_isWord 44 = .ok (.getfield 91, 3) := by decide +kernel
theorem dX0_isWord_47 : decode cX0_isWord 47 = .ok (.iload_n 2, 1) := by decide +kernel
theorem dX0_isWord_48 : decode cX0_isWord 48 = .ok (.iadd, 1) := by decide +kernel
theorem dX0_isWord_49 : decode cX0_isWord 49 = .ok (.iaload, 1) := by decide +kernel
theorem dX0_isWord_50 : decode cX0_isWord 50 = .ok (.aload_n 1, 1) := by decide +kernel
theorem dX0_isWord_51 : decode cX0_isWord 51 = .ok (.iload_n 2, 1) := by decide +kernel
theorem dX0_isWord_52 : decode cX0_isWord 52 = .ok (.invokevirtual 143, 3) := by decide +kernel
theorem dX0_isWord_55 : decode cX0_isWord 55 = .ok (.if_icmp .eq 5, 3) := by decide +kernel
theorem dX0_isWord_58 : decode cX0_isWord 58 = .ok (.iconst 0, 1) := by decide +kernel
theorem dX0_isWord_59 : decode cX0_isWord 59 = .ok (.ireturn, 1) := by decide +kernel
theorem dX0_isWord_60 : decode cX0_isWord 60 = .ok (.iinc 2 1, 3) := by decide +kernel
theorem dX0_isWord_63 : decode cX0_isWord 63 = .ok (.goto (-32), 3) := by decide +kernel
theorem dX0_isWord_66 : decode cX0_isWord 66 = .ok (.iconst 1, 1) := by decide +kernel
theorem dX0_isWord_67 : decode cX0_isWord 67 = .ok (.ireturn, 1) := by decide +kernel
theorem dX0_isDigit_0 : decode cX0_isDigit 0 = .ok (.iload_n 0, 1) := by decide +kernel
theorem dX0_isDigit_1 : decode cX0_isDigit 1 = .ok (.bipush 48, 2) := by decide +kernel
theorem dX0_isDigit_3 : decode cX0_isDigit 3 = .ok (.if_icmp .lt 13, 3) := by decide +kernel
theorem dX0_isDigit_6 : decode cX0_isDigit 6 = .ok (.iload_n 0, 1) := by decide +kernel
theorem dX0_isDigit_7 : decode cX0_isDigit 7 = .ok (.bipush 57, 2) := by decide +kernel
theorem dX0_isDigit_9 : decode cX0_isDigit 9 = .ok (.if_icmp .gt 7, 3) := by decide +kernel
theorem dX0_isDigit_12 : decode cX0_isDigit 12 = .ok (.iconst 1, 1) := by decide +kernel
theorem dX0_isDigit_13 : decode cX0_isDigit 13 = .ok (.goto 4, 3) := by decide +kernel
theorem dX0_isDigit_16 : decode cX0_isDigit 16 = .ok (.iconst 0, 1) := by decide +kernel
theorem dX0_isDigit_17 : decode cX0_isDigit 17 = .ok (.ireturn, 1) := by decide +kernel
theorem dX0_isSmall_0 : decode cX0_isSmall 0 = .ok (.iload_n 0, 1) := by decide +kernel
theorem dX0_isSmall_1 : decode cX0_isSmall 1 = .ok (.bipush 97, 2) := by decide +kernel
theorem dX0_isSmall_3 : decode cX0_isSmall 3 = .ok (.if_icmp .lt 13, 3) := by decide +kernel
theorem dX0_isSmall_6 : decode cX0_isSmall 6 = .ok (.iload_n 0, 1) := by decide +kernel
theorem dX0_isSmall_7 : decode cX0_isSmall 7 = .ok (.bipush 122, 2) := by decide +kernel
theorem dX0_isSmall_9 : decode cX0_isSmall 9 = .ok (.if_icmp .gt 7, 3) := by decide +kernel
theorem dX0_isSmall_12 : decode cX0_isSmall 12 = .ok (.iconst 1, 1) := by decide +kernel
theorem dX0_isSmall_13 : decode cX0_isSmall 13 = .ok (.goto 4, 3) := by decide +kernel
theorem dX0_isSmall_16 : decode cX0_isSmall 16 = .ok (.iconst 0, 1) := by decide +kernel
theorem dX0_isSmall_17 : decode cX0_isSmall 17 = .ok (.ireturn, 1) := by decide +kernel
theorem dX0_isSign_0 : decode cX0_isSign 0 = .ok (.iload_n 0, 1) := by decide +kernel
theorem dX0_isSign_1 : decode cX0_isSign 1 = .ok (.bipush 40, 2) := by decide +kernel
theorem dX0_isSign_3 : decode cX0_isSign 3 = .ok (.if_icmp .eq 45, 3) := by decide +kernel
theorem dX0_isSign_6 : decode cX0_isSign 6 = .ok (.iload_n 0, 1) := by decide +kernel
theorem dX0_isSign_7 : decode cX0_isSign 7 = .ok (.bipush 41, 2) := by decide +kernel
theorem dX0_isSign_9 : decode cX0_isSign 9 = .ok (.if_icmp .eq 39, 3) := by decide +kernel
theorem dX0_isSign_12 : decode cX0_isSign 12 = .ok (.iload_n 0, 1) := by decide +kernel
theorem dX0_isSign_13 : decode cX0_isSign 13 = .ok (.bipush 59, 2) := by decide +kernel
theorem dX0_isSign_15 : decode cX0_isSign 15 = .ok (.if_icmp .eq 33, 3) := by decide +kernel
theorem dX0_isSign_18 : decode cX0_isSign 18 = .ok (.iload_n 0, 1) := by decide +kernel
theorem dX0_isSign_19 : decode cX0_isSign 19 = .ok (.bipush 43, 2) := by decide +kernel
theorem dX0_isSign_21 : decode cX0_isSign 21 = .ok (.if_icmp .eq 27, 3) := by decide +kernel
theorem dX0_isSign_24 : decode cX0_isSign 24 = .ok (.iload_n 0, 1) := by decide +kernel
theorem dX0_isSign_25 : decode cX0_isSign 25 = .ok (.bipush 45, 2) := by decide +kernel
theorem dX0_isSign_27 : decode cX0_isSign 27 = .ok (.if_icmp .eq 21, 3) := by decide +kernel
theorem dX0_isSign_30 : decode cX0_isSign 30 = .ok (.iload_n 0, 1) := by decide +kernel
theorem dX0_isSign_31 : decode cX0_isSign 31 = .ok (.bipush 42, 2) := by decide +kernel
theorem dX0_isSign_33 : decode cX0_isSign 33 = .ok (.if_icmp .eq 15, 3) := by decide +kernel
theorem dX0_isSign_36 : decode cX0_isSign 36 = .ok (.iload_n 0, 1) := by decide +kernel
theorem dX0_isSign_37 : decode cX0_isSign 37 = .ok (.bipush 60, 2) := by decide +kernel
theorem dX0_isSign_39 : decode cX0_isSign 39 = .ok (.if_icmp .eq 9, 3) := by decide +kernel
theorem dX0_isSign_42 : decode cX0_isSign 42 = .ok (.iload_n 0, 1) := by decide +kernel
theorem dX0_isSign_43 : decode cX0_isSign 43 = .ok (.bipush 61, 2) := by decide +kernel
theorem dX0_isSign_45 : decode cX0_isSign 45 = .ok (.if_icmp .ne 7, 3) := by decide +kernel
theorem dX0_isSign_48 : decode cX0_isSign 48 = .ok (.iconst 1, 1) := by decide +kernel
theorem dX0_isSign_49 : decode cX0_isSign 49 = .ok (.goto 4, 3) := by decide +kernel
theorem dX0_isSign_52 : decode cX0_isSign 52 = .ok (.iconst 0, 1) := by decide +kernel
theorem dX0_isSign_53 : decode cX0_isSign 53 = .ok (.ireturn, 1) := by decide +kernel
theorem dX1_init_0 : decode cX1_init 0 = .ok (.aload_n 0, 1) := by decide +kernel
theorem dX1_init_1 : decode cX1_init 1 = .ok (.invokespecial 3, 3) := by decide +kernel
theorem dX1_init_4 : decode cX1_init 4 = .ok (.aload_n 0, 1) := by decide +kernel
theorem dX1_init_5 : decode cX1_init 5 = .ok (.bipush 40, 2) := by decide +kernel
theorem dX1_init_7 : decode cX1_init 7 = .ok (.newarray .int, 2) := by decide +kernel
theorem dX1_init_9 : decode cX1_init 9 = .ok (.putfield 9, 3) := by decide +kernel
theorem dX1_init_12 : decode cX1_init 12 = .ok (.aload_n 0, 1) := by decide +kernel
theorem dX1_init_13 : decode cX1_init 13 = .ok (.iconst (-1), 1) := by decide +kernel
theorem dX1_init_14 : decode cX1_init 14 = .ok (.putfield 15, 3) := by decide +kernel
theorem dX1_init_17 : decode cX1_init 17 = .ok (.return_, 1) := by decide +kernel
theorem dX1_become_0 : decode cX1_become 0 = .ok (.aload_n 0, 1) := by decide +kernel
theorem dX1_become_1 : decode cX1_become 1 = .ok (.iload_n 1, 1) := by decide +kernel
theorem dX1_become_2 : decode cX1_become 2 = .ok (.putfield 15, 3) := by decide +kernel
theorem dX1_become_5 : decode cX1_become 5 = .ok (.aload_n 0, 1) := by decide +kernel
theorem dX1_become_6 : decode cX1_become 6 = .ok (.iload_n 1, 1) := by decide +kernel
theorem dX1_become_7 : decode cX1_become 7 = .ok (.iconst (-1), 1) := by decide +kernel
theorem dX1_become_8 : decode cX1_become 8 = .ok (.if_icmp .ne 7, 3) := by decide +kernel
theorem dX1_become_11 : decode cX1_become 11 = .ok (.iconst 0, 1) := by decide +kernel
theorem dX1_become_12 : decode cX1_become 12 = .ok (.goto 10, 3) := by decide +kernel
theorem dX1_become_15 : decode cX1_become 15 = .ok (.iload_n 2, 1) := by decide +kernel
theorem dX1_become_16 : decode cX1_become 16 = .ok (.iconst 0, 1) := by decide +kernel
theorem dX1_become_17 : decode cX1_become 17 = .ok (.bipush 40, 2) := by decide +kernel
theorem dX1_become_19 : decode cX1_become 19 = .ok (.invokestatic 19, 3) := by decide +kernel
theorem dX1_become_22 : decode cX1_become 22 = .ok (.putfield 23, 3) := by decide +kernel
theorem dX1_become_25 : decode cX1_become 25 = .ok (.aload_n 0, 1) := by decide +kernel
theorem dX1_become_26 : decode cX1_become 26 = .ok (.getfield 9, 3) := by decide +kernel
theorem dX1_become_29 : decode cX1_become 29 = .ok (.iconst 0, 1) := by decide +kernel
theorem dX1_become_30 : decode cX1_become 30 = .ok (.invokestatic 26, 3) := by decide +kernel
theorem dX1_become_33 : decode cX1_become 33 = .ok (.return_, 1) := by decide +kernel
theorem dX1_has_0 : decode cX1_has 0 = .ok (.iload_n 1, 1) := by decide +kernel
theorem dX1_has_1 : decode cX1_has 1 = .ok (.ifCond .lt 15, 3) := by decide +kernel
theorem dX1_has_4 : decode cX1_has 4 = .ok (.iload_n 1, 1) := by decide +kernel
theorem dX1_has_5 : decode cX1_has 5 = .ok (.aload_n 0, 1) := by decide +kernel
theorem dX1_has_6 : decode cX1_has 6 = .ok (.getfield 23, 3) := by decide +kernel
theorem dX1_has_9 : decode cX1_has 9 = .ok (.if_icmp .ge 7, 3) := by decide +kernel
theorem dX1_has_12 : decode cX1_has 12 = .ok (.iconst 1, 1) := by decide +kernel
theorem dX1_has_13 : decode cX1_has 13 = .ok (.goto 4, 3) := by decide +kernel
theorem dX1_has_16 : decode cX1_has 16 = .ok (.iconst 0, 1) := by decide +kernel
theorem dX1_has_17 : decode cX1_has 17 = .ok (.ireturn, 1) := by decide +kernel
theorem dX1_holds_0 : decode cX1_holds 0 = .ok (.iload_n 1, 1) := by decide +kernel
theorem dX1_holds_1 : decode cX1_holds 1 = .ok (.ifCond .lt 29, 3) := by decide +kernel
theorem dX1_holds_4 : decode cX1_holds 4 = .ok (.iload_n 2, 1) := by decide +kernel
theorem dX1_holds_5 : decode cX1_holds 5 = .ok (.ifCond .lt 25, 3) := by decide +kernel
theorem dX1_holds_8 : decode cX1_holds 8 = .ok (.iload_n 2, 1) := by decide +kernel
theorem dX1_holds_9 : decode cX1_holds 9 = .ok (.aload_n 0, 1) := by decide +kernel
theorem dX1_holds_10 : decode cX1_holds 10 = .ok (.getfield 23, 3) := by decide +kernel
theorem dX1_holds_13 : decode cX1_holds 13 = .ok (.if_icmp .gt 17, 3) := by decide +kernel
theorem dX1_holds_16 : decode cX1_holds 16 = .ok (.iload_n 1, 1) := by decide +kernel
theorem dX1_holds_17 : decode cX1_holds 17 = .ok (.aload_n 0, 1) := by decide +kernel
theorem dX1_holds_18 : decode cX1_holds 18 = .ok (.getfield 23, 3) := by decide +kernel
theorem dX1_holds_21 : decode cX1_holds 21 = .ok (.iload_n 2, 1) := by decide +kernel
theorem dX1_holds_22 : decode cX1_holds 22 = .ok (.isub, 1) := by decide +kernel
theorem dX1_holds_23 : decode cX1_holds 23 = .ok (.if_icmp .gt 7, 3) := by decide +kernel
theorem dX1_holds_26 : decode cX1_holds 26 = .ok (.iconst 1, 1) := by decide +kernel
theorem dX1_holds_27 : decode cX1_holds 27 = .ok (.goto 4, 3) := by decide +kernel
theorem dX1_holds_30 : decode cX1_holds 30 = .ok (.iconst 0, 1) := by decide +kernel
theorem dX1_holds_31 : decode cX1_holds 31 = .ok (.ireturn, 1) := by decide +kernel
theorem dX1_put_0 : decode cX1_put 0 = .ok (.aload_n 0, 1) := by decide +kernel
theorem dX1_put_1 : decode cX1_put 1 = .ok (.iload_n 1, 1) := by decide +kernel
theorem dX1_put_2 : decode cX1_put 2 = .ok (.invokevirtual 32, 3) := by decide +kernel
theorem dX1_put_5 : decode cX1_put 5 = .ok (.ifCond .eq 35, 3) := by decide +kernel
theorem dX1_put_8 : decode cX1_put 8 = .ok (.aload_n 0, 1) := by decide +kernel
theorem dX1_put_9 : decode cX1_put 9 = .ok (.getfield 9, 3) := by decide +kernel
theorem dX1_put_12 : decode cX1_put 12 = .ok (.iload_n 1, 1) := by decide +kernel
theorem dX1_put_13 : decode cX1_put 13 = .ok (.aload_n 0, 1) := by decide +kernel
theorem dX1_put_14 : decode cX1_put 14 = .ok (.getfield 15, 3) := by decide +kernel
theorem dX1_put_17 : decode cX1_put 17 = .ok (.ifCond .ne 8, 3) := by decide +kernel
theorem dX1_put_20 : decode cX1_put 20 = .ok (.iload_n 2, 1) := by decide +kernel
theorem dX1_put_21 : decode cX1_put 21 = .ok (.i2b, 1) := by decide +kernel
theorem dX1_put_22 : decode cX1_put 22 = .ok (.goto 17, 3) := by decide +kernel
theorem dX1_put_25 : decode cX1_put 25 = .ok (.aload_n 0, 1) := by decide +kernel
theorem dX1_put_26 : decode cX1_put 26 = .ok (.getfield 15, 3) := by decide +kernel
theorem dX1_put_29 : decode cX1_put 29 = .ok (.iconst 1, 1) := by decide +kernel
theorem dX1_put_30 : decode cX1_put 30 = .ok (.if_icmp .ne 8, 3) := by decide +kernel
theorem dX1_put_33 : decode cX1_put 33 = .ok (.iload_n 2, 1) := by decide +kernel
theorem dX1_put_34 : decode cX1_put 34 = .ok (.i2s, 1) := by decide +kernel
theorem dX1_put_35 : decode cX1_put 35 = .ok (.goto 4, 3) := by decide +kernel
theorem dX1_put_38 : decode cX1_put 38 = .ok (.iload_n 2, 1) := by decide +kernel
theorem dX1_put_39 : decode cX1_put 39 = .ok (.iastore, 1) := by decide +kernel
theorem dX1_put_40 : decode cX1_put 40 = .ok (.return_, 1) := by decide +kernel
theorem dX2_init_0 : decode cX2_init 0 = .ok (.aload_n 0, 1) := by decide +kernel
theorem dX2_init_1 : decode cX2_init 1 = .ok (.invokespecial 5, 3) := by decide +kernel
theorem dX2_init_4 : decode cX2_init 4 = .ok (.aload_n 0, 1) := by decide +kernel
theorem dX2_init_5 : decode cX2_init 5 = .ok (.iconst 3, 1) := by decide +kernel
theorem dX2_init_6 : decode cX2_init 6 = .ok (.newarray .int, 2) := by decide +kernel
theorem dX2_init_8 : decode cX2_init 8 = .ok (.putfield 11, 3) := by decide +kernel
theorem dX2_init_11 : decode cX2_init 11 = .ok (.aload_n 0, 1) := by decide +kernel
theorem dX2_init_12 : decode cX2_init 12 = .ok (.bipush 36, 2) := by decide +kernel
theorem dX2_init_14 : decode cX2_init 14 = .ok (.newarray .int, 2) := by decide +kernel
theorem dX2_init_16 : decode cX2_init 16 = .ok (.putfield 15, 3) := by decide +kernel
theorem dX2_init_19 : decode cX2_init 19 = .ok (.aload_n 0, 1) := by decide +kernel
theorem dX2_init_20 : decode cX2_init 20 = .ok (.aload_n 1, 1) := by decide +kernel
theorem dX2_init_21 : decode cX2_init 21 = .ok (.putfield 18, 3) := by decide +kernel
theorem dX2_init_24 : decode cX2_init 24 = .ok (.iconst 0, 1) := by decide +kernel
theorem dX2_init_25 : decode cX2_init 25 = .ok (.istore_n 3, 1) := by decide +kernel
theorem dX2_init_26 : decode cX2_init 26 = .ok (.iload_n 3, 1) := by decide +kernel
theorem dX2_init_27 : decode cX2_init 27 = .ok (.iconst 3, 1) := by decide +kernel
theorem dX2_init_28 : decode cX2_init 28 = .ok (.if_icmp .ge 29, 3) := by decide +kernel
theorem dX2_init_31 : decode cX2_init 31 = .ok (.iload_n 3, 1) := by decide +kernel
theorem dX2_init_32 : decode cX2_init 32 = .ok (.aload_n 2, 1) := by decide +kernel
theorem dX2_init_33 : decode cX2_init 33 = .ok (.arraylength, 1) := by decide +kernel
theorem dX2_init_34 : decode cX2_init 34 = .ok (.if_icmp .ge 23, 3) := by decide +kernel
theorem dX2_init_37 : decode cX2_init 37 = .ok (.aload_n 0, 1) := by decide +kernel
theorem dX2_init_38 : decode cX2_init 38 = .ok (.getfield 11, 3) := by decide +kernel
theorem dX2_init_41 : decode cX2_init 41 = .ok (.iload_n 3, 1) := by decide +kernel
theorem dX2_init_42 : decode cX2_init 42 = .ok (.aload_n 2, 1) := by decide +kernel
theorem dX2_init_43 : decode cX2_init 43 = .ok (.iload_n 3, 1) := by decide +kernel
theorem dX2_init_44 : decode cX2_init 44 = .ok (.iaload, 1) := by decide +kernel
theorem dX2_init_45 : decode cX2_init 45 = .ok (.aload_n 1, 1) := by decide +kernel
theorem dX2_init_46 : decode cX2_init 46 = .ok (.arraylength, 1) := by decide +kernel
theorem dX2_init_47 : decode cX2_init 47 = .ok (.invokestatic 21, 3) := by decide +kernel
theorem dX2_init_50 : decode cX2_init 50 = .ok (.iastore, 1) := by decide +kernel
theorem dX2_init_51 : decode cX2_init 51 = .ok (.iinc 3 1, 3) := by decide +kernel
theorem dX2_init_54 : decode cX2_init 54 = .ok (.goto (-28), 3) := by decide +kernel
theorem dX2_init_57 : decode cX2_init 57 = .ok (.return_, 1) := by decide +kernel
theorem dX2_valueOf_0 : decode cX2_valueOf 0 = .ok (.iconst 0, 1) := by decide +kernel
theorem dX2_valueOf_1 : decode cX2_valueOf 1 = .ok (.istore_n 3, 1) := by decide +kernel
theorem dX2_valueOf_2 : decode cX2_valueOf 2 = .ok (.iload_n 1, 1) := by decide +kernel
theorem dX2_valueOf_3 : decode cX2_valueOf 3 = .ok (.ifCond .le 14, 3) := by decide +kernel
theorem dX2_valueOf_6 : decode cX2_valueOf 6 = .ok (.aload_n 0, 1) := by decide +kernel
theorem dX2_valueOf_7 : decode cX2_valueOf 7 = .ok (.getfield 11, 3) := by decide +kernel
theorem dX2_valueOf_10 : decode cX2_valueOf 10 = .ok (.iload_n 1, 1) := by decide +kernel
theorem dX2_valueOf_11 : decode cX2_valueOf 11 = .ok (.iconst 1, 1) := by decide +kernel
theorem dX2_valueOf_12 : decode cX2_valueOf 12 = .ok (.isub, 1) := by decide +kernel
theorem dX2_valueOf_13 : decode cX2_valueOf 13 = .ok (.iaload, 1) := by decide +kernel
theorem dX2_valueOf_14 : decode cX2_valueOf 14 = .ok (.goto 4, 3) := by decide +kernel
theorem dX2_valueOf_17 : decode cX2_valueOf 17 = .ok (.iconst 0, 1) := by decide +kernel
theorem dX2_valueOf_18 : decode cX2_valueOf 18 = .ok (.istore 4, 2) := by decide +kernel
theorem dX2_valueOf_20 : decode cX2_valueOf 20 = .ok (.iload 4, 2) := by decide +kernel
theorem dX2_valueOf_22 : decode cX2_valueOf 22 = .ok (.aload_n 0, 1) := by decide +kernel
theorem dX2_valueOf_23 : decode cX2_valueOf 23 = .ok (.getfield 11, 3) := by decide +kernel
theorem dX2_valueOf_26 : decode cX2_valueOf 26 = .ok (.iload_n 1, 1) := by decide +kernel
theorem dX2_valueOf_27 : decode cX2_valueOf 27 = .ok (.iaload, 1) := by decide +kernel
theorem dX2_valueOf_28 : decode cX2_valueOf 28 = .ok (.if_icmp .ge 183, 3) := by decide +kernel
theorem dX2_valueOf_31 : decode cX2_valueOf 31 = .ok (.aload_n 0, 1) := by decide +kernel
theorem dX2_valueOf_32 : decode cX2_valueOf 32 = .ok (.getfield 18, 3) := by decide +kernel
theorem dX2_valueOf_35 : decode cX2_valueOf 35 = .ok (.iload 4, 2) := by decide +kernel
theorem dX2_valueOf_37 : decode cX2_valueOf 37 = .ok (.iaload, 1) := by decide +kernel
theorem dX2_valueOf_38 : decode cX2_valueOf 38 = .ok (.bipush 14, 2) := by decide +kernel
theorem dX2_valueOf_40 : decode cX2_valueOf 40 = .ok (.ishr, 1) := by decide +kernel
theorem dX2_valueOf_41 : decode cX2_valueOf 41 = .ok (.istore 5, 2) := by decide +kernel
theorem dX2_valueOf_43 : decode cX2_valueOf 43 = .ok (.aload_n 0, 1) := by decide +kernel
theorem dX2_valueOf_44 : decode cX2_valueOf 44 = .ok (.getfield 18, 3) := by decide +kernel
theorem dX2_valueOf_47 : decode cX2_valueOf 47 = .ok (.iload 4, 2) := by decide +kernel
theorem dX2_valueOf_49 : decode cX2_valueOf 49 = .ok (.iaload, 1) := by decide +kernel
theorem dX2_valueOf_50 : decode cX2_valueOf 50 = .ok (.sipush 16383, 3) := by decide +kernel
theorem dX2_valueOf_53 : decode cX2_valueOf 53 = .ok (.iand, 1) := by decide +kernel
theorem dX2_valueOf_54 : decode cX2_valueOf 54 = .ok (.istore 6, 2) := by decide +kernel
theorem dX2_valueOf_56 : decode cX2_valueOf 56 = .ok (.iload 5, 2) := by decide +kernel
theorem dX2_valueOf_58 : decode cX2_valueOf 58 = .ok (.ifCond .eq 9, 3) := by decide +kernel
theorem dX2_valueOf_61 : decode cX2_valueOf 61 = .ok (.iload 5, 2) := by decide +kernel
theorem dX2_valueOf_63 : decode cX2_valueOf 63 = .ok (.iconst 1, 1) := by decide +kernel
theorem dX2_valueOf_64 : decode cX2_valueOf 64 = .ok (.if_icmp .ne 47, 3) := by decide +kernel
theorem dX2_valueOf_67 : decode cX2_valueOf 67 = .ok (.iload_n 3, 1) := by decide +kernel
theorem dX2_valueOf_68 : decode cX2_valueOf 68 = .ok (.bipush 36, 2) := by decide +kernel
theorem dX2_valueOf_70 : decode cX2_valueOf 70 = .ok (.if_icmp .ge 135, 3) := by decide +kernel
theorem dX2_valueOf_73 : decode cX2_valueOf 73 = .ok (.iload 5, 2) := by decide +kernel
theorem dX2_valueOf_75 : decode cX2_valueOf 75 = .ok (.ifCond .eq 10, 3) := by decide +kernel
theorem dX2_valueOf_78 : decode cX2_valueOf 78 = .ok (.iload 6, 2) := by decide +kernel
theorem dX2_valueOf_80 : decode cX2_valueOf 80 = .ok (.aload_n 2, 1) := by decide +kernel
theorem dX2_valueOf_81 : decode cX2_valueOf 81 = .ok (.arraylength, 1) := by decide +kernel
theorem dX2_valueOf_82 : decode cX2_valueOf 82 = .ok (.if_icmp .ge 123, 3) := by decide +kernel
theorem dX2_valueOf_85 : decode cX2_valueOf 85 = .ok (.aload_n 0, 1) := by decide +kernel
theorem dX2_valueOf_86 : decode cX2_valueOf 86 = .ok (.getfield 15, 3) := by decide +kernel
theorem dX2_valueOf_89 : decode cX2_valueOf 89 = .ok (.iload_n 3, 1) := by decide +kernel
theorem dX2_valueOf_90 : decode cX2_valueOf 90 = .ok (.iload 5, 2) := by decide +kernel
theorem dX2_valueOf_92 : decode cX2_valueOf 92 = .ok (.ifCond .ne 8, 3) := by decide +kernel
theorem dX2_valueOf_95 : decode cX2_valueOf 95 = .ok (.iload 6, 2) := by decide +kernel
theorem dX2_valueOf_97 : decode cX2_valueOf 97 = .ok (.goto 7, 3) := by decide +kernel
theorem dX2_valueOf_100 : decode cX2_valueOf 100 = .ok (.aload_n 2, 1) := by decide +kernel
theorem dX2_valueOf_101 : decode cX2_valueOf 101 = .ok (.iload 6, 2) := by decide +kernel
theorem dX2_valueOf_103 : decode cX2_valueOf 103 = .ok (.iaload, 1) := by decide +kernel
theorem dX2_valueOf_104 : decode cX2_valueOf 104 = .ok (.iastore, 1) := by decide +kernel
theorem dX2_valueOf_105 : decode cX2_valueOf 105 = .ok (.iinc 3 1, 3) := by decide +kernel
theorem dX2_valueOf_108 : decode cX2_valueOf 108 = .ok (.goto 97, 3) := by decide +kernel
theorem dX2_valueOf_111 : decode cX2_valueOf 111 = .ok (.iload 5, 2) := by decide +kernel
theorem dX2_valueOf_113 : decode cX2_valueOf 113 = .ok (.iconst 2, 1) := by decide +kernel
theorem dX2_valueOf_114 : decode cX2_valueOf 114 = .ok (.if_icmp .eq 9, 3) := by decide +kernel
theorem dX2_valueOf_117 : decode cX2_valueOf 117 = .ok (.iload 5, 2) := by decide +kernel
theorem dX2_valueOf_119 : decode cX2_valueOf 119 = .ok (.iconst 3, 1) := by decide +kernel
theorem dX2_valueOf_120 : decode cX2_valueOf 120 = .ok (.if_icmp .ne 50, 3) := by decide +kernel
theorem dX2_valueOf_123 : decode cX2_valueOf 123 = .ok (.iload_n 3, 1) := by decide +kernel
theorem dX2_valueOf_124 : decode cX2_valueOf 124 = .ok (.ifCond .le 81, 3) := by decide +kernel
theorem dX2_valueOf_127 : decode cX2_valueOf 127 = .ok (.aload_n 0, 1) := by decide +kernel
theorem dX2_valueOf_128 : decode cX2_valueOf 128 = .ok (.getfield 15, 3) := by decide +kernel
theorem dX2_valueOf_131 : decode cX2_valueOf 131 = .ok (.iload_n 3, 1) := by decide +kernel
theorem dX2_valueOf_132 : decode cX2_valueOf 132 = .ok (.iconst 1, 1) := by decide +kernel
theorem dX2_valueOf_133 : decode cX2_valueOf 133 = .ok (.isub, 1) := by decide +kernel
theorem dX2_valueOf_134 : decode cX2_valueOf 134 = .ok (.iaload, 1) := by decide +kernel
theorem dX2_valueOf_135 : decode cX2_valueOf 135 = .ok (.istore 7, 2) := by decide +kernel
theorem dX2_valueOf_137 : decode cX2_valueOf 137 = .ok (.aload_n 0, 1) := by decide +kernel
theorem dX2_valueOf_138 : decode cX2_valueOf 138 = .ok (.getfield 15, 3) := by decide +kernel
theorem dX2_valueOf_141 : decode cX2_valueOf 141 = .ok (.iload_n 3, 1) := by decide +kernel
theorem dX2_valueOf_142 : decode cX2_valueOf 142 = .ok (.iconst 1, 1) := by decide +kernel
theorem dX2_valueOf_143 : decode cX2_valueOf 143 = .ok (.isub, 1) := by decide +kernel
theorem dX2_valueOf_144 : decode cX2_valueOf 144 = .ok (.iload 5, 2) := by decide +kernel
theorem dX2_valueOf_146 : decode cX2_valueOf 146 = .ok (.iconst 2, 1) := by decide +kernel
theorem dX2_valueOf_147 : decode cX2_valueOf 147 = .ok (.if_icmp .ne 9, 3) := by decide +kernel
theorem dX2_valueOf_150 : decode cX2_valueOf 150 = .ok (.iload 7, 2) := by decide +kernel
theorem dX2_valueOf_152 : decode cX2_valueOf 152 = .ok (.ineg, 1) := by decide +kernel
theorem dX2_valueOf_153 : decode cX2_valueOf 153 = .ok (.goto 13, 3) := by decide +kernel
theorem dX2_valueOf_156 : decode cX2_valueOf 156 = .ok (.iload 7, 2) := by decide +kernel
theorem dX2_valueOf_158 : decode cX2_valueOf 158 = .ok (.ifCond .ne 7, 3) := by decide +kernel
theorem dX2_valueOf_161 : decode cX2_valueOf 161 = .ok (.iconst 1, 1) := by decide +kernel
theorem dX2_valueOf_162 : decode cX2_valueOf 162 = .ok (.goto 4, 3) := by decide +kernel
theorem dX2_valueOf_165 : decode cX2_valueOf 165 = .ok (.iconst 0, 1) := by decide +kernel
theorem dX2_valueOf_166 : decode cX2_valueOf 166 = .ok (.iastore, 1) := by decide +kernel
theorem dX2_valueOf_167 : decode cX2_valueOf 167 = .ok (.goto 38, 3) := by decide +kernel
theorem dX2_valueOf_170 : decode cX2_valueOf 170 = .ok (.iload_n 3, 1) := by decide +kernel
theorem dX2_valueOf_171 : decode cX2_valueOf 171 = .ok (.iconst 1, 1) := by decide +kernel
theorem dX2_valueOf_172 : decode cX2_valueOf 172 = .ok (.if_icmp .le 33, 3) := by decide +kernel
theorem dX2_valueOf_175 : decode cX2_valueOf 175 = .ok (.iinc 3 (-1), 3) := by decide +kernel
theorem dX2_valueOf_178 : decode cX2_valueOf 178 = .ok (.aload_n 0, 1) := by decide +kernel
theorem dX2_valueOf_179 : decode cX2_valueOf 179 = .ok (.getfield 15, 3) := by decide +kernel
theorem dX2_valueOf_182 : decode cX2_valueOf 182 = .ok (.iload_n 3, 1) := by decide +kernel
theorem dX2_valueOf_183 : decode cX2_valueOf 183 = .ok (.iconst 1, 1) := by decide +kernel
theorem dX2_valueOf_184 : decode cX2_valueOf 184 = .ok (.isub, 1) := by decide +kernel
theorem dX2_valueOf_185 : decode cX2_valueOf 185 = .ok (.iload 5, 2) := by decide +kernel
theorem dX2_valueOf_187 : decode cX2_valueOf 187 = .ok (.aload_n 0, 1) := by decide +kernel
theorem dX2_valueOf_188 : decode cX2_valueOf 188 = .ok (.getfield 15, 3) := by decide +kernel
theorem dX2_valueOf_191 : decode cX2_valueOf 191 = .ok (.iload_n 3, 1) := by decide +kernel
theorem dX2_valueOf_192 : decode cX2_valueOf 192 = .ok (.iconst 1, 1) := by decide +kernel
theorem dX2_valueOf_193 : decode cX2_valueOf 193 = .ok (.isub, 1) := by decide +kernel
theorem dX2_valueOf_194 : decode cX2_valueOf 194 = .ok (.iaload, 1) := by decide +kernel
theorem dX2_valueOf_195 : decode cX2_valueOf 195 = .ok (.aload_n 0, 1) := by decide +kernel
theorem dX2_valueOf_196 : decode cX2_valueOf 196 = .ok (.getfield 15, 3) := by decide +kernel
theorem dX2_valueOf_199 : decode cX2_valueOf 199 = .ok (.iload_n 3, 1) := by decide +kernel
theorem dX2_valueOf_200 : decode cX2_valueOf 200 = .ok (.iaload, 1) := by decide +kernel
theorem dX2_valueOf_201 : decode cX2_valueOf 201 = .ok (.invokestatic 27, 3) := by decide +kernel
theorem dX2_valueOf_204 : decode cX2_valueOf 204 = .ok (.iastore, 1) := by decide +kernel
theorem dX2_valueOf_205 : decode cX2_valueOf 205 = .ok (.iinc 4 1, 3) := by decide +kernel
theorem dX2_valueOf_208 : decode cX2_valueOf 208 = .ok (.goto (-188), 3) := by decide +kernel
theorem dX2_valueOf_211 : decode cX2_valueOf 211 = .ok (.iload_n 3, 1) := by decide +kernel
theorem dX2_valueOf_212 : decode cX2_valueOf 212 = .ok (.ifCond .le 12, 3) := by decide +kernel
theorem dX2_valueOf_215 : decode cX2_valueOf 215 = .ok (.aload_n 0, 1) := by decide +kernel
theorem dX2_valueOf_216 : decode cX2_valueOf 216 = .ok (.getfield 15, 3) := by decide +kernel
theorem dX2_valueOf_219 : decode cX2_valueOf 219 = .ok (.iconst 0, 1) := by decide +kernel
theorem dX2_valueOf_220 : decode cX2_valueOf 220 = .ok (.iaload, 1) := by decide +kernel
theorem dX2_valueOf_221 : decode cX2_valueOf 221 = .ok (.goto 4, 3) := by decide +kernel
theorem dX2_valueOf_224 : decode cX2_valueOf 224 = .ok (.iconst 0, 1) := by decide +kernel
theorem dX2_valueOf_225 : decode cX2_valueOf 225 = .ok (.ireturn, 1) := by decide +kernel
theorem dX2_joined_0 : decode cX2_joined 0 = .ok (.iload_n 0, 1) := by decide +kernel
theorem dX2_joined_1 : decode cX2_joined 1 = .ok (.tableswitch 87 4 9 #[39, 43, 47, 51, 62, 73], 39) := by decide +kernel
theorem dX2_joined_40 : decode cX2_joined 40 = .ok (.iload_n 1, 1) := by decide +kernel
theorem dX2_joined_41 : decode cX2_joined 41 = .ok (.iload_n 2, 1) := by decide +kernel
theorem dX2_joined_42 : decode cX2_joined 42 = .ok (.iadd, 1) := by decide +kernel
theorem dX2_joined_43 : decode cX2_joined 43 = .ok (.ireturn, 1) := by decide +kernel
theorem dX2_joined_44 : decode cX2_joined 44 = .ok (.iload_n 1, 1) := by decide +kernel
theorem dX2_joined_45 : decode cX2_joined 45 = .ok (.iload_n 2, 1) := by decide +kernel
theorem dX2_joined_46 : decode cX2_joined 46 = .ok (.isub, 1) := by decide +kernel
theorem dX2_joined_47 : decode cX2_joined 47 = .ok (.ireturn, 1) := by decide +kernel
theorem dX2_joined_48 : decode cX2_joined 48 = .ok (.iload_n 1, 1) := by decide +kernel
theorem dX2_joined_49 : decode cX2_joined 49 = .ok (.iload_n 2, 1) := by decide +kernel
theorem dX2_joined_50 : decode cX2_joined 50 = .ok (.imul, 1) := by decide +kernel
theorem dX2_joined_51 : decode cX2_joined 51 = .ok (.ireturn, 1) := by decide +kernel
theorem dX2_joined_52 : decode cX2_joined 52 = .ok (.iload_n 1, 1) := by decide +kernel
theorem dX2_joined_53 : decode cX2_joined 53 = .ok (.iload_n 2, 1) := by decide +kernel
theorem dX2_joined_54 : decode cX2_joined 54 = .ok (.if_icmp .ge 7, 3) := by decide +kernel
theorem dX2_joined_57 : decode cX2_joined 57 = .ok (.iconst 1, 1) := by decide +kernel
theorem dX2_joined_58 : decode cX2_joined 58 = .ok (.goto 4, 3) := by decide +kernel
theorem dX2_joined_61 : decode cX2_joined 61 = .ok (.iconst 0, 1) := by decide +kernel
theorem dX2_joined_62 : decode cX2_joined 62 = .ok (.ireturn, 1) := by decide +kernel
theorem dX2_joined_63 : decode cX2_joined 63 = .ok (.iload_n 1, 1) := by decide +kernel
theorem dX2_joined_64 : decode cX2_joined 64 = .ok (.iload_n 2, 1) := by decide +kernel
theorem dX2_joined_65 : decode cX2_joined 65 = .ok (.if_icmp .ne 7, 3) := by decide +kernel
theorem dX2_joined_68 : decode cX2_joined 68 = .ok (.iconst 1, 1) := by decide +kernel
theorem dX2_joined_69 : decode cX2_joined 69 = .ok (.goto 4, 3) := by decide +kernel
theorem dX2_joined_72 : decode cX2_joined 72 = .ok (.iconst 0, 1) := by decide +kernel
theorem dX2_joined_73 : decode cX2_joined 73 = .ok (.ireturn, 1) := by decide +kernel
theorem dX2_joined_74 : decode cX2_joined 74 = .ok (.iload_n 1, 1) := by decide +kernel
theorem dX2_joined_75 : decode cX2_joined 75 = .ok (.ifCond .eq 11, 3) := by decide +kernel
theorem dX2_joined_78 : decode cX2_joined 78 = .ok (.iload_n 2, 1) := by decide +kernel
theorem dX2_joined_79 : decode cX2_joined 79 = .ok (.ifCond .eq 7, 3) := by decide +kernel
theorem dX2_joined_82 : decode cX2_joined 82 = .ok (.iconst 1, 1) := by decide +kernel
theorem dX2_joined_83 : decode cX2_joined 83 = .ok (.goto 4, 3) := by decide +kernel
theorem dX2_joined_86 : decode cX2_joined 86 = .ok (.iconst 0, 1) := by decide +kernel
theorem dX2_joined_87 : decode cX2_joined 87 = .ok (.ireturn, 1) := by decide +kernel
theorem dX2_joined_88 : decode cX2_joined 88 = .ok (.iload_n 1, 1) := by decide +kernel
theorem dX2_joined_89 : decode cX2_joined 89 = .ok (.ifCond .ne 7, 3) := by decide +kernel
theorem dX2_joined_92 : decode cX2_joined 92 = .ok (.iload_n 2, 1) := by decide +kernel
theorem dX2_joined_93 : decode cX2_joined 93 = .ok (.ifCond .eq 7, 3) := by decide +kernel
theorem dX2_joined_96 : decode cX2_joined 96 = .ok (.iconst 1, 1) := by decide +kernel
theorem dX2_joined_97 : decode cX2_joined 97 = .ok (.goto 4, 3) := by decide +kernel
theorem dX2_joined_100 : decode cX2_joined 100 = .ok (.iconst 0, 1) := by decide +kernel
theorem dX2_joined_101 : decode cX2_joined 101 = .ok (.ireturn, 1) := by decide +kernel
theorem dX3_init_0 : decode cX3_init 0 = .ok (.aload_n 0, 1) := by decide +kernel
theorem dX3_init_1 : decode cX3_init 1 = .ok (.invokespecial 3, 3) := by decide +kernel
theorem dX3_init_4 : decode cX3_init 4 = .ok (.aload_n 0, 1) := by decide +kernel
theorem dX3_init_5 : decode cX3_init 5 = .ok (.bipush 6, 2) := by decide +kernel
theorem dX3_init_7 : decode cX3_init 7 = .ok (.anewarray 9, 3) := by decide +kernel
theorem dX3_init_10 : decode cX3_init 10 = .ok (.putfield 11, 3) := by decide +kernel
theorem dX3_init_13 : decode cX3_init 13 = .ok (.aload_n 0, 1) := by decide +kernel
theorem dX3_init_14 : decode cX3_init 14 = .ok (.getfield 11, 3) := by decide +kernel
theorem dX3_init_17 : decode cX3_init 17 = .ok (.iconst 0, 1) := by decide +kernel
theorem dX3_init_18 : decode cX3_init 18 = .ok (.new 9, 3) := by decide +kernel
theorem dX3_init_21 : decode cX3_init 21 = .ok (.dup, 1) := by decide +kernel
theorem dX3_init_22 : decode cX3_init 22 = .ok (.iconst 3, 1) := by decide +kernel
theorem dX3_init_23 : decode cX3_init 23 = .ok (.newarray .int, 2) := by decide +kernel
theorem dX3_init_25 : decode cX3_init 25 = .ok (.dup, 1) := by decide +kernel
theorem dX3_init_26 : decode cX3_init 26 = .ok (.iconst 0, 1) := by decide +kernel
theorem dX3_init_27 : decode cX3_init 27 = .ok (.iconst 3, 1) := by decide +kernel
theorem dX3_init_28 : decode cX3_init 28 = .ok (.iastore, 1) := by decide +kernel
theorem dX3_init_29 : decode cX3_init 29 = .ok (.dup, 1) := by decide +kernel
theorem dX3_init_30 : decode cX3_init 30 = .ok (.iconst 1, 1) := by decide +kernel
theorem dX3_init_31 : decode cX3_init 31 = .ok (.iconst 5, 1) := by decide +kernel
theorem dX3_init_32 : decode cX3_init 32 = .ok (.iastore, 1) := by decide +kernel
theorem dX3_init_33 : decode cX3_init 33 = .ok (.dup, 1) := by decide +kernel
theorem dX3_init_34 : decode cX3_init 34 = .ok (.iconst 2, 1) := by decide +kernel
theorem dX3_init_35 : decode cX3_init 35 = .ok (.iconst 2, 1) := by decide +kernel
theorem dX3_init_36 : decode cX3_init 36 = .ok (.iastore, 1) := by decide +kernel
theorem dX3_init_37 : decode cX3_init 37 = .ok (.iconst 3, 1) := by decide +kernel
theorem dX3_init_38 : decode cX3_init 38 = .ok (.newarray .int, 2) := by decide +kernel
theorem dX3_init_40 : decode cX3_init 40 = .ok (.dup, 1) := by decide +kernel
theorem dX3_init_41 : decode cX3_init 41 = .ok (.iconst 0, 1) := by decide +kernel
theorem dX3_init_42 : decode cX3_init 42 = .ok (.iconst 1, 1) := by decide +kernel
theorem dX3_init_43 : decode cX3_init 43 = .ok (.iastore, 1) := by decide +kernel
theorem dX3_init_44 : decode cX3_init 44 = .ok (.dup, 1) := by decide +kernel
theorem dX3_init_45 : decode cX3_init 45 = .ok (.iconst 1, 1) := by decide +kernel
theorem dX3_init_46 : decode cX3_init 46 = .ok (.iconst 2, 1) := by decide +kernel
theorem dX3_init_47 : decode cX3_init 47 = .ok (.iastore, 1) := by decide +kernel
theorem dX3_init_48 : decode cX3_init 48 = .ok (.dup, 1) := by decide +kernel
theorem dX3_init_49 : decode cX3_init 49 = .ok (.iconst 2, 1) := by decide +kernel
theorem dX3_init_50 : decode cX3_init 50 = .ok (.iconst 3, 1) := by decide +kernel
theorem dX3_init_51 : decode cX3_init 51 = .ok (.iastore, 1) := by decide +kernel
theorem dX3_init_52 : decode cX3_init 52 = .ok (.invokespecial 17, 3) := by decide +kernel
theorem dX3_init_55 : decode cX3_init 55 = .ok (.aastore, 1) := by decide +kernel
theorem dX3_init_56 : decode cX3_init 56 = .ok (.aload_n 0, 1) := by decide +kernel
theorem dX3_init_57 : decode cX3_init 57 = .ok (.iconst 1, 1) := by decide +kernel
theorem dX3_init_58 : decode cX3_init 58 = .ok (.putfield 20, 3) := by decide +kernel
theorem dX3_init_61 : decode cX3_init 61 = .ok (.return_, 1) := by decide +kernel
theorem dX3_isFull_0 : decode cX3_isFull 0 = .ok (.aload_n 0, 1) := by decide +kernel
theorem dX3_isFull_1 : decode cX3_isFull 1 = .ok (.getfield 20, 3) := by decide +kernel
theorem dX3_isFull_4 : decode cX3_isFull 4 = .ok (.bipush 6, 2) := by decide +kernel
theorem dX3_isFull_6 : decode cX3_isFull 6 = .ok (.if_icmp .lt 7, 3) := by decide +kernel
theorem dX3_isFull_9 : decode cX3_isFull 9 = .ok (.iconst 1, 1) := by decide +kernel
theorem dX3_isFull_10 : decode cX3_isFull 10 = .ok (.goto 4, 3) := by decide +kernel
theorem dX3_isFull_13 : decode cX3_isFull 13 = .ok (.iconst 0, 1) := by decide +kernel
theorem dX3_isFull_14 : decode cX3_isFull 14 = .ok (.ireturn, 1) := by decide +kernel
theorem dX3_add_0 : decode cX3_add 0 = .ok (.aload_n 0, 1) := by decide +kernel
theorem dX3_add_1 : decode cX3_add 1 = .ok (.invokevirtual 24, 3) := by decide +kernel
theorem dX3_add_4 : decode cX3_add 4 = .ok (.ifCond .eq 6, 3) := by decide +kernel
theorem dX3_add_7 : decode cX3_add 7 = .ok (.bipush (-4), 2) := by decide +kernel
theorem dX3_add_9 : decode cX3_add 9 = .ok (.ireturn, 1) := by decide +kernel
theorem dX3_add_10 : decode cX3_add 10 = .ok (.aload_n 0, 1) := by decide +kernel
theorem dX3_add_11 : decode cX3_add 11 = .ok (.getfield 11, 3) := by decide +kernel
theorem dX3_add_14 : decode cX3_add 14 = .ok (.aload_n 0, 1) := by decide +kernel
theorem dX3_add_15 : decode cX3_add 15 = .ok (.getfield 20, 3) := by decide +kernel
theorem dX3_add_18 : decode cX3_add 18 = .ok (.new 9, 3) := by decide +kernel
theorem dX3_add_21 : decode cX3_add 21 = .ok (.dup, 1) := by decide +kernel
theorem dX3_add_22 : decode cX3_add 22 = .ok (.aload_n 1, 1) := by decide +kernel
theorem dX3_add_23 : decode cX3_add 23 = .ok (.aload_n 2, 1) := by decide +kernel
theorem dX3_add_24 : decode cX3_add 24 = .ok (.invokespecial 17, 3) := by decide +kernel
theorem dX3_add_27 : decode cX3_add 27 = .ok (.aastore, 1) := by decide +kernel
theorem dX3_add_28 : decode cX3_add 28 = .ok (.aload_n 0, 1) := by decide +kernel
theorem dX3_add_29 : decode cX3_add 29 = .ok (.dup, 1) := by decide +kernel
theorem dX3_add_30 : decode cX3_add 30 = .ok (.getfield 20, 3) := by decide +kernel
theorem dX3_add_33 : decode cX3_add 33 = .ok (.iconst 1, 1) := by decide +kernel
theorem dX3_add_34 : decode cX3_add 34 = .ok (.iadd, 1) := by decide +kernel
theorem dX3_add_35 : decode cX3_add 35 = .ok (.putfield 20, 3) := by decide +kernel
theorem dX3_add_38 : decode cX3_add 38 = .ok (.aload_n 0, 1) := by decide +kernel
theorem dX3_add_39 : decode cX3_add 39 = .ok (.getfield 20, 3) := by decide +kernel
theorem dX3_add_42 : decode cX3_add 42 = .ok (.iconst 1, 1) := by decide +kernel
theorem dX3_add_43 : decode cX3_add 43 = .ok (.isub, 1) := by decide +kernel
theorem dX3_add_44 : decode cX3_add 44 = .ok (.ireturn, 1) := by decide +kernel
theorem dX3_numbered_0 : decode cX3_numbered 0 = .ok (.iload_n 1, 1) := by decide +kernel
theorem dX3_numbered_1 : decode cX3_numbered 1 = .ok (.ifCond .lt 20, 3) := by decide +kernel
theorem dX3_numbered_4 : decode cX3_numbered 4 = .ok (.iload_n 1, 1) := by decide +kernel
theorem dX3_numbered_5 : decode cX3_numbered 5 = .ok (.aload_n 0, 1) := by decide +kernel
theorem dX3_numbered_6 : decode cX3_numbered 6 = .ok (.getfield 20, 3) := by decide +kernel
theorem dX3_numbered_9 : decode cX3_numbered 9 = .ok (.if_icmp .ge 12, 3) := by decide +kernel
theorem dX3_numbered_12 : decode cX3_numbered 12 = .ok (.aload_n 0, 1) := by decide +kernel
theorem dX3_numbered_13 : decode cX3_numbered 13 = .ok (.getfield 11, 3) := by decide +kernel
theorem dX3_numbered_16 : decode cX3_numbered 16 = .ok (.iload_n 1, 1) := by decide +kernel
theorem dX3_numbered_17 : decode cX3_numbered 17 = .ok (.aaload, 1) := by decide +kernel
theorem dX3_numbered_18 : decode cX3_numbered 18 = .ok (.goto 9, 3) := by decide +kernel
theorem dX3_numbered_21 : decode cX3_numbered 21 = .ok (.aload_n 0, 1) := by decide +kernel
theorem dX3_numbered_22 : decode cX3_numbered 22 = .ok (.getfield 11, 3) := by decide +kernel
theorem dX3_numbered_25 : decode cX3_numbered 25 = .ok (.iconst 0, 1) := by decide +kernel
theorem dX3_numbered_26 : decode cX3_numbered 26 = .ok (.aaload, 1) := by decide +kernel
theorem dX3_numbered_27 : decode cX3_numbered 27 = .ok (.areturn, 1) := by decide +kernel
theorem dX4_init_0 : decode cX4_init 0 = .ok (.aload_n 0, 1) := by decide +kernel
theorem dX4_init_1 : decode cX4_init 1 = .ok (.invokespecial 3, 3) := by decide +kernel
theorem dX4_init_4 : decode cX4_init 4 = .ok (.aload_n 0, 1) := by decide +kernel
theorem dX4_init_5 : decode cX4_init 5 = .ok (.bipush 32, 2) := by decide +kernel
theorem dX4_init_7 : decode cX4_init 7 = .ok (.newarray .int, 2) := by decide +kernel
theorem dX4_init_9 : decode cX4_init 9 = .ok (.putfield 9, 3) := by decide +kernel
theorem dX4_init_12 : decode cX4_init 12 = .ok (.aload_n 0, 1) := by decide +kernel
theorem dX4_init_13 : decode cX4_init 13 = .ok (.iconst 5, 1) := by decide +kernel
theorem dX4_init_14 : decode cX4_init 14 = .ok (.newarray .int, 2) := by decide +kernel
theorem dX4_init_16 : decode cX4_init 16 = .ok (.putfield 15, 3) := by decide +kernel
theorem dX4_init_19 : decode cX4_init 19 = .ok (.aload_n 0, 1) := by decide +kernel
theorem dX4_init_20 : decode cX4_init 20 = .ok (.iconst 5, 1) := by decide +kernel
theorem dX4_init_21 : decode cX4_init 21 = .ok (.newarray .int, 2) := by decide +kernel
theorem dX4_init_23 : decode cX4_init 23 = .ok (.putfield 18, 3) := by decide +kernel
theorem dX4_init_26 : decode cX4_init 26 = .ok (.aload_n 0, 1) := by decide +kernel
theorem dX4_init_27 : decode cX4_init 27 = .ok (.iconst 5, 1) := by decide +kernel
theorem dX4_init_28 : decode cX4_init 28 = .ok (.newarray .int, 2) := by decide +kernel
theorem dX4_init_30 : decode cX4_init 30 = .ok (.putfield 21, 3) := by decide +kernel
theorem dX4_init_33 : decode cX4_init 33 = .ok (.aload_n 0, 1) := by decide +kernel
theorem dX4_init_34 : decode cX4_init 34 = .ok (.iconst 5, 1) := by decide +kernel
theorem dX4_init_35 : decode cX4_init 35 = .ok (.newarray .int, 2) := by decide +kernel
theorem dX4_init_37 : decode cX4_init 37 = .ok (.putfield 24, 3) := by decide +kernel
theorem dX4_init_40 : decode cX4_init 40 = .ok (.aload_n 0, 1) := by decide +kernel
theorem dX4_init_41 : decode cX4_init 41 = .ok (.iconst 5, 1) := by decide +kernel
theorem dX4_init_42 : decode cX4_init 42 = .ok (.newarray .int, 2) := by decide +kernel
theorem dX4_init_44 : decode cX4_init 44 = .ok (.putfield 27, 3) := by decide +kernel
theorem dX4_init_47 : decode cX4_init 47 = .ok (.aload_n 0, 1) := by decide +kernel
theorem dX4_init_48 : decode cX4_init 48 = .ok (.iconst 5, 1) := by decide +kernel
theorem dX4_init_49 : decode cX4_init 49 = .ok (.newarray .int, 2) := by decide +kernel
theorem dX4_init_51 : decode cX4_init 51 = .ok (.putfield 30, 3) := by decide +kernel
theorem dX4_init_54 : decode cX4_init 54 = .ok (.aload_n 0, 1) := by decide +kernel
theorem dX4_init_55 : decode cX4_init 55 = .ok (.bipush 6, 2) := by decide +kernel
theorem dX4_init_57 : decode cX4_init 57 = .ok (.newarray .int, 2) := by decide +kernel
theorem dX4_init_59 : decode cX4_init 59 = .ok (.putfield 33, 3) := by decide +kernel
theorem dX4_init_62 : decode cX4_init 62 = .ok (.aload_n 0, 1) := by decide +kernel
theorem dX4_init_63 : decode cX4_init 63 = .ok (.bipush 10, 2) := by decide +kernel
theorem dX4_init_65 : decode cX4_init 65 = .ok (.putfield 36, 3) := by decide +kernel
theorem dX4_init_68 : decode cX4_init 68 = .ok (.aload_n 0, 1) := by decide +kernel
theorem dX4_init_69 : decode cX4_init 69 = .ok (.getfield 9, 3) := by decide +kernel
theorem dX4_init_72 : decode cX4_init 72 = .ok (.bipush 30, 2) := by decide +kernel
theorem dX4_init_74 : decode cX4_init 74 = .ok (.invokestatic 40, 3) := by decide +kernel
theorem dX4_init_77 : decode cX4_init 77 = .ok (.return_, 1) := by decide +kernel
theorem dX4_become_0 : decode cX4_become 0 = .ok (.aload_n 1, 1) := by decide +kernel
theorem dX4_become_1 : decode cX4_become 1 = .ok (.getfield 9, 3) := by decide +kernel
theorem dX4_become_4 : decode cX4_become 4 = .ok (.iconst 0, 1) := by decide +kernel
theorem dX4_become_5 : decode cX4_become 5 = .ok (.aload_n 0, 1) := by decide +kernel
theorem dX4_become_6 : decode cX4_become 6 = .ok (.getfield 9, 3) := by decide +kernel
theorem dX4_become_9 : decode cX4_become 9 = .ok (.iconst 0, 1) := by decide +kernel
theorem dX4_become_10 : decode cX4_become 10 = .ok (.bipush 32, 2) := by decide +kernel
theorem dX4_become_12 : decode cX4_become 12 = .ok (.invokestatic 46, 3) := by decide +kernel
theorem dX4_become_15 : decode cX4_become 15 = .ok (.aload_n 1, 1) := by decide +kernel
theorem dX4_become_16 : decode cX4_become 16 = .ok (.getfield 15, 3) := by decide +kernel
theorem dX4_become_19 : decode cX4_become 19 = .ok (.iconst 0, 1) := by decide +kernel
theorem dX4_become_20 : decode cX4_become 20 = .ok (.aload_n 0, 1) := by decide +kernel
theorem dX4_become_21 : decode cX4_become 21 = .ok (.getfield 15, 3) := by decide +kernel
theorem dX4_become_24 : decode cX4_become 24 = .ok (.iconst 0, 1) := by decide +kernel
theorem dX4_become_25 : decode cX4_become 25 = .ok (.iconst 5, 1) := by decide +kernel
theorem dX4_become_26 : decode cX4_become 26 = .ok (.invokestatic 46, 3) := by decide +kernel
theorem dX4_become_29 : decode cX4_become 29 = .ok (.aload_n 1, 1) := by decide +kernel
theorem dX4_become_30 : decode cX4_become 30 = .ok (.getfield 18, 3) := by decide +kernel
theorem dX4_become_33 : decode cX4_become 33 = .ok (.iconst 0, 1) := by decide +kernel
theorem dX4_become_34 : decode cX4_become 34 = .ok (.aload_n 0, 1) := by decide +kernel
theorem dX4_become_35 : decode cX4_become 35 = .ok (.getfield 18, 3) := by decide +kernel
theorem dX4_become_38 : decode cX4_become 38 = .ok (.iconst 0, 1) := by decide +kernel
theorem dX4_become_39 : decode cX4_become 39 = .ok (.iconst 5, 1) := by decide +kernel
theorem dX4_become_40 : decode cX4_become 40 = .ok (.invokestatic 46, 3) := by decide +kernel
theorem dX4_become_43 : decode cX4_become 43 = .ok (.aload_n 1, 1) := by decide +kernel
theorem dX4_become_44 : decode cX4_become 44 = .ok (.getfield 21, 3) := by decide +kernel
theorem dX4_become_47 : decode cX4_become 47 = .ok (.iconst 0, 1) := by decide +kernel
theorem dX4_become_48 : decode cX4_become 48 = .ok (.aload_n 0, 1) := by decide +kernel
theorem dX4_become_49 : decode cX4_become 49 = .ok (.getfield 21, 3) := by decide +kernel
theorem dX4_become_52 : decode cX4_become 52 = .ok (.iconst 0, 1) := by decide +kernel
theorem dX4_become_53 : decode cX4_become 53 = .ok (.iconst 5, 1) := by decide +kernel
theorem dX4_become_54 : decode cX4_become 54 = .ok (.invokestatic 46, 3) := by decide +kernel
theorem dX4_become_57 : decode cX4_become 57 = .ok (.aload_n 1, 1) := by decide +kernel
theorem dX4_become_58 : decode cX4_become 58 = .ok (.getfield 24, 3) := by decide +kernel
theorem dX4_become_61 : decode cX4_become 61 = .ok (.iconst 0, 1) := by decide +kernel
theorem dX4_become_62 : decode cX4_become 62 = .ok (.aload_n 0, 1) := by decide +kernel
theorem dX4_become_63 : decode cX4_become 63 = .ok (.getfield 24, 3) := by decide +kernel
theorem dX4_become_66 : decode cX4_become 66 = .ok (.iconst 0, 1) := by decide +kernel
theorem dX4_become_67 : decode cX4_become 67 = .ok (.iconst 5, 1) := by decide +kernel
theorem dX4_become_68 : decode cX4_become 68 = .ok (.invokestatic 46, 3) := by decide +kernel
theorem dX4_become_71 : decode cX4_become 71 = .ok (.aload_n 1, 1) := by decide +kernel
theorem dX4_become_72 : decode cX4_become 72 = .ok (.getfield 27, 3) := by decide +kernel
theorem dX4_become_75 : decode cX4_become 75 = .ok (.iconst 0, 1) := by decide +kernel
theorem dX4_become_76 : decode cX4_become 76 = .ok (.aload_n 0, 1) := by decide +kernel
theorem dX4_become_77 : decode cX4_become 77 = .ok (.getfield 27, 3) := by decide +kernel
theorem dX4_become_80 : decode cX4_become 80 = .ok (.iconst 0, 1) := by decide +kernel
theorem dX4_become_81 : decode cX4_become 81 = .ok (.iconst 5, 1) := by decide +kernel
theorem dX4_become_82 : decode cX4_become 82 = .ok (.invokestatic 46, 3) := by decide +kernel
theorem dX4_become_85 : decode cX4_become 85 = .ok (.aload_n 1, 1) := by decide +kernel
theorem dX4_become_86 : decode cX4_become 86 = .ok (.getfield 30, 3) := by decide +kernel
theorem dX4_become_89 : decode cX4_become 89 = .ok (.iconst 0, 1) := by decide +kernel
theorem dX4_become_90 : decode cX4_become 90 = .ok (.aload_n 0, 1) := by decide +kernel
theorem dX4_become_91 : decode cX4_become 91 = .ok (.getfield 30, 3) := by decide +kernel
theorem dX4_become_94 : decode cX4_become 94 = .ok (.iconst 0, 1) := by decide +kernel
theorem dX4_become_95 : decode cX4_become 95 = .ok (.iconst 5, 1) := by decide +kernel
theorem dX4_become_96 : decode cX4_become 96 = .ok (.invokestatic 46, 3) := by decide +kernel
theorem dX4_become_99 : decode cX4_become 99 = .ok (.aload_n 0, 1) := by decide +kernel
theorem dX4_become_100 : decode cX4_become 100 = .ok (.aload_n 1, 1) := by decide +kernel
theorem dX4_become_101 : decode cX4_become 101 = .ok (.getfield 52, 3) := by decide +kernel
theorem dX4_become_104 : decode cX4_become 104 = .ok (.putfield 52, 3) := by decide +kernel
theorem dX4_become_107 : decode cX4_become 107 = .ok (.aload_n 0, 1) := by decide +kernel
theorem dX4_become_108 : decode cX4_become 108 = .ok (.aload_n 1, 1) := by decide +kernel
theorem dX4_become_109 : decode cX4_become 109 = .ok (.getfield 55, 3) := by decide +kernel
theorem dX4_become_112 : decode cX4_become 112 = .ok (.putfield 55, 3) := by decide +kernel
theorem dX4_become_115 : decode cX4_become 115 = .ok (.aload_n 0, 1) := by decide +kernel
theorem dX4_become_116 : decode cX4_become 116 = .ok (.aload_n 1, 1) := by decide +kernel
theorem dX4_become_117 : decode cX4_become 117 = .ok (.getfield 36, 3) := by decide +kernel
theorem dX4_become_120 : decode cX4_become 120 = .ok (.putfield 36, 3) := by decide +kernel
theorem dX4_become_123 : decode cX4_become 123 = .ok (.aload_n 0, 1) := by decide +kernel
theorem dX4_become_124 : decode cX4_become 124 = .ok (.aload_n 1, 1) := by decide +kernel
theorem dX4_become_125 : decode cX4_become 125 = .ok (.getfield 58, 3) := by decide +kernel
theorem dX4_become_128 : decode cX4_become 128 = .ok (.putfield 58, 3) := by decide +kernel
theorem dX4_become_131 : decode cX4_become 131 = .ok (.return_, 1) := by decide +kernel
theorem dX4_add_0 : decode cX4_add 0 = .ok (.aload_n 0, 1) := by decide +kernel
theorem dX4_add_1 : decode cX4_add 1 = .ok (.getfield 52, 3) := by decide +kernel
theorem dX4_add_4 : decode cX4_add 4 = .ok (.iconst 5, 1) := by decide +kernel
theorem dX4_add_5 : decode cX4_add 5 = .ok (.if_icmp .lt 6, 3) := by decide +kernel
theorem dX4_add_8 : decode cX4_add 8 = .ok (.bipush (-4), 2) := by decide +kernel
theorem dX4_add_10 : decode cX4_add 10 = .ok (.ireturn, 1) := by decide +kernel
theorem dX4_add_11 : decode cX4_add 11 = .ok (.aload_n 0, 1) := by decide +kernel
theorem dX4_add_12 : decode cX4_add 12 = .ok (.getfield 52, 3) := by decide +kernel
theorem dX4_add_15 : decode cX4_add 15 = .ok (.istore 4, 2) := by decide +kernel
theorem dX4_add_17 : decode cX4_add 17 = .ok (.aload_n 0, 1) := by decide +kernel
theorem dX4_add_18 : decode cX4_add 18 = .ok (.getfield 15, 3) := by decide +kernel
theorem dX4_add_21 : decode cX4_add 21 = .ok (.iload 4, 2) := by decide +kernel
theorem dX4_add_23 : decode cX4_add 23 = .ok (.iload_n 1, 1) := by decide +kernel
theorem dX4_add_24 : decode cX4_add 24 = .ok (.iastore, 1) := by decide +kernel
theorem dX4_add_25 : decode cX4_add 25 = .ok (.aload_n 0, 1) := by decide +kernel
theorem dX4_add_26 : decode cX4_add 26 = .ok (.getfield 18, 3) := by decide +kernel
theorem dX4_add_29 : decode cX4_add 29 = .ok (.iload 4, 2) := by decide +kernel
theorem dX4_add_31 : decode cX4_add 31 = .ok (.iload_n 2, 1) := by decide +kernel
theorem dX4_add_32 : decode cX4_add 32 = .ok (.iastore, 1) := by decide +kernel
theorem dX4_add_33 : decode cX4_add 33 = .ok (.aload_n 0, 1) := by decide +kernel
theorem dX4_add_34 : decode cX4_add 34 = .ok (.getfield 21, 3) := by decide +kernel
theorem dX4_add_37 : decode cX4_add 37 = .ok (.iload 4, 2) := by decide +kernel
theorem dX4_add_39 : decode cX4_add 39 = .ok (.iload_n 3, 1) := by decide +kernel
theorem dX4_add_40 : decode cX4_add 40 = .ok (.iastore, 1) := by decide +kernel
theorem dX4_add_41 : decode cX4_add 41 = .ok (.aload_n 0, 1) := by decide +kernel
theorem dX4_add_42 : decode cX4_add 42 = .ok (.getfield 24, 3) := by decide +kernel
theorem dX4_add_45 : decode cX4_add 45 = .ok (.iload 4, 2) := by decide +kernel
theorem dX4_add_47 : decode cX4_add 47 = .ok (.iconst 0, 1) := by decide +kernel
theorem dX4_add_48 : decode cX4_add 48 = .ok (.iastore, 1) := by decide +kernel
theorem dX4_add_49 : decode cX4_add 49 = .ok (.aload_n 0, 1) := by decide +kernel
theorem dX4_add_50 : decode cX4_add 50 = .ok (.getfield 27, 3) := by decide +kernel
theorem dX4_add_53 : decode cX4_add 53 = .ok (.iload 4, 2) := by decide +kernel
theorem dX4_add_55 : decode cX4_add 55 = .ok (.iload_n 3, 1) := by decide +kernel
theorem dX4_add_56 : decode cX4_add 56 = .ok (.ifCond .le 7, 3) := by decide +kernel
theorem dX4_add_59 : decode cX4_add 59 = .ok (.iconst 0, 1) := by decide +kernel
theorem dX4_add_60 : decode cX4_add 60 = .ok (.goto 5, 3) := by decide +kernel
theorem dX4_add_63 : decode cX4_add 63 = .ok (.bipush 31, 2) := by decide +kernel
theorem dX4_add_65 : decode cX4_add 65 = .ok (.iastore, 1) := by decide +kernel
theorem dX4_add_66 : decode cX4_add 66 = .ok (.aload_n 0, 1) := by decide +kernel
theorem dX4_add_67 : decode cX4_add 67 = .ok (.getfield 30, 3) := by decide +kernel
theorem dX4_add_70 : decode cX4_add 70 = .ok (.iload 4, 2) := by decide +kernel
theorem dX4_add_72 : decode cX4_add 72 = .ok (.iconst 0, 1) := by decide +kernel
theorem dX4_add_73 : decode cX4_add 73 = .ok (.iastore, 1) := by decide +kernel
theorem dX4_add_74 : decode cX4_add 74 = .ok (.aload_n 0, 1) := by decide +kernel
theorem dX4_add_75 : decode cX4_add 75 = .ok (.dup, 1) := by decide +kernel
theorem dX4_add_76 : decode cX4_add 76 = .ok (.getfield 52, 3) := by decide +kernel
theorem dX4_add_79 : decode cX4_add 79 = .ok (.iconst 1, 1) := by decide +kernel
theorem dX4_add_80 : decode cX4_add 80 = .ok (.iadd, 1) := by decide +kernel
theorem dX4_add_81 : decode cX4_add 81 = .ok (.putfield 52, 3) := by decide +kernel
theorem dX4_add_84 : decode cX4_add 84 = .ok (.iload 4, 2) := by decide +kernel
theorem dX4_add_86 : decode cX4_add 86 = .ok (.ireturn, 1) := by decide +kernel
theorem dX4_howMany_0 : decode cX4_howMany 0 = .ok (.iconst 0, 1) := by decide +kernel
theorem dX4_howMany_1 : decode cX4_howMany 1 = .ok (.istore_n 2, 1) := by decide +kernel
theorem dX4_howMany_2 : decode cX4_howMany 2 = .ok (.iconst 0, 1) := by decide +kernel
theorem dX4_howMany_3 : decode cX4_howMany 3 = .ok (.istore_n 3, 1) := by decide +kernel
theorem dX4_howMany_4 : decode cX4_howMany 4 = .ok (.iload_n 3, 1) := by decide +kernel
theorem dX4_howMany_5 : decode cX4_howMany 5 = .ok (.aload_n 0, 1) := by decide +kernel
theorem dX4_howMany_6 : decode cX4_howMany 6 = .ok (.getfield 52, 3) := by decide +kernel
theorem dX4_howMany_9 : decode cX4_howMany 9 = .ok (.if_icmp .ge 22, 3) := by decide +kernel
theorem dX4_howMany_12 : decode cX4_howMany 12 = .ok (.aload_n 0, 1) := by decide +kernel
theorem dX4_howMany_13 : decode cX4_howMany 13 = .ok (.getfield 30, 3) := by decide +kernel
theorem dX4_howMany_16 : decode cX4_howMany 16 = .ok (.iload_n 3, 1) := by decide +kernel
theorem dX4_howMany_17 : decode cX4_howMany 17 = .ok (.iaload, 1) := by decide +kernel
theorem dX4_howMany_18 : decode cX4_howMany 18 = .ok (.iload_n 1, 1) := by decide +kernel
theorem dX4_howMany_19 : decode cX4_howMany 19 = .ok (.if_icmp .ne 6, 3) := by decide +kernel
theorem dX4_howMany_22 : decode cX4_howMany 22 = .ok (.iinc 2 1, 3) := by decide +kernel
theorem dX4_howMany_25 : decode cX4_howMany 25 = .ok (.iinc 3 1, 3) := by decide +kernel
theorem dX4_howMany_28 : decode cX4_howMany 28 = .ok (.goto (-24), 3) := by decide +kernel
theorem dX4_howMany_31 : decode cX4_howMany 31 = .ok (.iload_n 2, 1) := by decide +kernel
theorem dX4_howMany_32 : decode cX4_howMany 32 = .ok (.ireturn, 1) := by decide +kernel
theorem dX4_isOut_0 : decode cX4_isOut 0 = .ok (.aload_n 0, 1) := by decide +kernel
theorem dX4_isOut_1 : decode cX4_isOut 1 = .ok (.getfield 30, 3) := by decide +kernel
theorem dX4_isOut_4 : decode cX4_isOut 4 = .ok (.iload_n 1, 1) := by decide +kernel
theorem dX4_isOut_5 : decode cX4_isOut 5 = .ok (.iaload, 1) := by decide +kernel
theorem dX4_isOut_6 : decode cX4_isOut 6 = .ok (.iconst 1, 1) := by decide +kernel
theorem dX4_isOut_7 : decode cX4_isOut 7 = .ok (.if_icmp .eq 13, 3) := by decide +kernel
theorem dX4_isOut_10 : decode cX4_isOut 10 = .ok (.aload_n 0, 1) := by decide +kernel
theorem dX4_isOut_11 : decode cX4_isOut 11 = .ok (.getfield 30, 3) := by decide +kernel
theorem dX4_isOut_14 : decode cX4_isOut 14 = .ok (.iload_n 1, 1) := by decide +kernel
theorem dX4_isOut_15 : decode cX4_isOut 15 = .ok (.iaload, 1) := by decide +kernel
theorem dX4_isOut_16 : decode cX4_isOut 16 = .ok (.iconst 2, 1) := by decide +kernel
theorem dX4_isOut_17 : decode cX4_isOut 17 = .ok (.if_icmp .ne 7, 3) := by decide +kernel
theorem dX4_isOut_20 : decode cX4_isOut 20 = .ok (.iconst 1, 1) := by decide +kernel
theorem dX4_isOut_21 : decode cX4_isOut 21 = .ok (.goto 4, 3) := by decide +kernel
theorem dX4_isOut_24 : decode cX4_isOut 24 = .ok (.iconst 0, 1) := by decide +kernel
theorem dX4_isOut_25 : decode cX4_isOut 25 = .ok (.ireturn, 1) := by decide +kernel
theorem dX4_bitsAt_0 : decode cX4_bitsAt 0 = .ok (.iconst 0, 1) := by decide +kernel
theorem dX4_bitsAt_1 : decode cX4_bitsAt 1 = .ok (.istore_n 2, 1) := by decide +kernel
theorem dX4_bitsAt_2 : decode cX4_bitsAt 2 = .ok (.iconst 0, 1) := by decide +kernel
theorem dX4_bitsAt_3 : decode cX4_bitsAt 3 = .ok (.istore_n 3, 1) := by decide +kernel
theorem dX4_bitsAt_4 : decode cX4_bitsAt 4 = .ok (.iload_n 3, 1) := by decide +kernel
theorem dX4_bitsAt_5 : decode cX4_bitsAt 5 = .ok (.aload_n 0, 1) := by decide +kernel
theorem dX4_bitsAt_6 : decode cX4_bitsAt 6 = .ok (.getfield 52, 3) := by decide +kernel
theorem dX4_bitsAt_9 : decode cX4_bitsAt 9 = .ok (.if_icmp .ge 33, 3) := by decide +kernel
theorem dX4_bitsAt_12 : decode cX4_bitsAt 12 = .ok (.aload_n 0, 1) := by decide +kernel
theorem dX4_bitsAt_13 : decode cX4_bitsAt 13 = .ok (.getfield 27, 3) := by decide +kernel
theorem dX4_bitsAt_16 : decode cX4_bitsAt 16 = .ok (.iload_n 3, 1) := by decide +kernel
theorem dX4_bitsAt_17 : decode cX4_bitsAt 17 = .ok (.iaload, 1) := by decide +kernel
theorem dX4_bitsAt_18 : decode cX4_bitsAt 18 = .ok (.iload_n 1, 1) := by decide +kernel
theorem dX4_bitsAt_19 : decode cX4_bitsAt 19 = .ok (.if_icmp .ne 17, 3) := by decide +kernel
theorem dX4_bitsAt_22 : decode cX4_bitsAt 22 = .ok (.aload_n 0, 1) := by decide +kernel
theorem dX4_bitsAt_23 : decode cX4_bitsAt 23 = .ok (.iload_n 3, 1) := by decide +kernel
theorem dX4_bitsAt_24 : decode cX4_bitsAt 24 = .ok (.invokevirtual 61, 3) := by decide +kernel
theorem dX4_bitsAt_27 : decode cX4_bitsAt 27 = .ok (.ifCond .eq 9, 3) := by decide +kernel
theorem dX4_bitsAt_30 : decode cX4_bitsAt 30 = .ok (.iload_n 2, 1) := by decide +kernel
theorem dX4_bitsAt_31 : decode cX4_bitsAt 31 = .ok (.iconst 1, 1) := by decide +kernel
theorem dX4_bitsAt_32 : decode cX4_bitsAt 32 = .ok (.iload_n 3, 1) := by decide +kernel
theorem dX4_bitsAt_33 : decode cX4_bitsAt 33 = .ok (.ishl, 1) := by decide +kernel
theorem dX4_bitsAt_34 : decode cX4_bitsAt 34 = .ok (.ior, 1) := by decide +kernel
theorem dX4_bitsAt_35 : decode cX4_bitsAt 35 = .ok (.istore_n 2, 1) := by decide +kernel
theorem dX4_bitsAt_36 : decode cX4_bitsAt 36 = .ok (.iinc 3 1, 3) := by decide +kernel
theorem dX4_bitsAt_39 : decode cX4_bitsAt 39 = .ok (.goto (-35), 3) := by decide +kernel
theorem dX4_bitsAt_42 : decode cX4_bitsAt 42 = .ok (.iload_n 2, 1) := by decide +kernel
theorem dX4_bitsAt_43 : decode cX4_bitsAt 43 = .ok (.ireturn, 1) := by decide +kernel
theorem dX4_metBy_0 : decode cX4_metBy 0 = .ok (.iconst 0, 1) := by decide +kernel
theorem dX4_metBy_1 : decode cX4_metBy 1 = .ok (.istore_n 2, 1) := by decide +kernel
theorem dX4_metBy_2 : decode cX4_metBy 2 = .ok (.iconst 0, 1) := by decide +kernel
theorem dX4_metBy_3 : decode cX4_metBy 3 = .ok (.istore_n 3, 1) := by decide +kernel
theorem dX4_metBy_4 : decode cX4_metBy 4 = .ok (.iload_n 3, 1) := by decide +kernel
theorem dX4_metBy_5 : decode cX4_metBy 5 = .ok (.aload_n 0, 1) := by decide +kernel
theorem dX4_metBy_6 : decode cX4_metBy 6 = .ok (.getfield 52, 3) := by decide +kernel
theorem dX4_metBy_9 : decode cX4_metBy 9 = .ok (.if_icmp .ge 40, 3) := by decide +kernel
theorem dX4_metBy_12 : decode cX4_metBy 12 = .ok (.iload_n 3, 1) := by decide +kernel
theorem dX4_metBy_13 : decode cX4_metBy 13 = .ok (.iload_n 1, 1) := by decide +kernel
theorem dX4_metBy_14 : decode cX4_metBy 14 = .ok (.if_icmp .eq 29, 3) := by decide +kernel
theorem dX4_metBy_17 : decode cX4_metBy 17 = .ok (.aload_n 0, 1) := by decide +kernel
theorem dX4_metBy_18 : decode cX4_metBy 18 = .ok (.getfield 27, 3) := by decide +kernel
theorem dX4_metBy_21 : decode cX4_metBy 21 = .ok (.iload_n 3, 1) := by decide +kernel
theorem dX4_metBy_22 : decode cX4_metBy 22 = .ok (.iaload, 1) := by decide +kernel
theorem dX4_metBy_23 : decode cX4_metBy 23 = .ok (.aload_n 0, 1) := by decide +kernel
theorem dX4_metBy_24 : decode cX4_metBy 24 = .ok (.getfield 27, 3) := by decide +kernel
theorem dX4_metBy_27 : decode cX4_metBy 27 = .ok (.iload_n 1, 1) := by decide +kernel
theorem dX4_metBy_28 : decode cX4_metBy 28 = .ok (.iaload, 1) := by decide +kernel
theorem dX4_metBy_29 : decode cX4_metBy 29 = .ok (.if_icmp .ne 14, 3) := by decide +kernel
theorem dX4_metBy_32 : decode cX4_metBy 32 = .ok (.aload_n 0, 1) := by decide +kernel
theorem dX4_metBy_33 : decode cX4_metBy 33 = .ok (.iload_n 3, 1) := by decide +kernel
theorem dX4_metBy_34 : decode cX4_metBy 34 = .ok (.invokevirtual 61, 3) := by decide +kernel
theorem dX4_metBy_37 : decode cX4_metBy 37 = .ok (.ifCond .eq 6, 3) := by decide +kernel
theorem dX4_metBy_40 : decode cX4_metBy 40 = .ok (.iinc 2 1, 3) := by decide +kernel
theorem dX4_metBy_43 : decode cX4_metBy 43 = .ok (.iinc 3 1, 3) := by decide +kernel
theorem dX4_metBy_46 : decode cX4_metBy 46 = .ok (.goto (-42), 3) := by decide +kernel
theorem dX4_metBy_49 : decode cX4_metBy 49 = .ok (.aload_n 0, 1) := by decide +kernel
theorem dX4_metBy_50 : decode cX4_metBy 50 = .ok (.iload_n 1, 1) := by decide +kernel
theorem dX4_metBy_51 : decode cX4_metBy 51 = .ok (.invokevirtual 61, 3) := by decide +kernel
theorem dX4_metBy_54 : decode cX4_metBy 54 = .ok (.ifCond .eq 7, 3) := by decide +kernel
theorem dX4_metBy_57 : decode cX4_metBy 57 = .ok (.iload_n 2, 1) := by decide +kernel
theorem dX4_metBy_58 : decode cX4_metBy 58 = .ok (.goto 4, 3) := by decide +kernel
theorem dX4_metBy_61 : decode cX4_metBy 61 = .ok (.iconst 0, 1) := by decide +kernel
theorem dX4_metBy_62 : decode cX4_metBy 62 = .ok (.ireturn, 1) := by decide +kernel
theorem dX4_leastFirm_0 : decode cX4_leastFirm 0 = .ok (.iconst 0, 1) := by decide +kernel
theorem dX4_leastFirm_1 : decode cX4_leastFirm 1 = .ok (.istore_n 1, 1) := by decide +kernel
theorem dX4_leastFirm_2 : decode cX4_leastFirm 2 = .ok (.iconst 1, 1) := by decide +kernel
theorem dX4_leastFirm_3 : decode cX4_leastFirm 3 = .ok (.istore_n 2, 1) := by decide +kernel
theorem dX4_leastFirm_4 : decode cX4_leastFirm 4 = .ok (.iload_n 2, 1) := by decide +kernel
theorem dX4_leastFirm_5 : decode cX4_leastFirm 5 = .ok (.bipush 32, 2) := by decide +kernel
theorem dX4_leastFirm_7 : decode cX4_leastFirm 7 = .ok (.if_icmp .ge 26, 3) := by decide +kernel
theorem dX4_leastFirm_10 : decode cX4_leastFirm 10 = .ok (.aload_n 0, 1) := by decide +kernel
theorem dX4_leastFirm_11 : decode cX4_leastFirm 11 = .ok (.getfield 9, 3) := by decide +kernel
theorem dX4_leastFirm_14 : decode cX4_leastFirm 14 = .ok (.iload_n 2, 1) := by decide +kernel
theorem dX4_leastFirm_15 : decode cX4_leastFirm 15 = .ok (.iaload, 1) := by decide +kernel
theorem dX4_leastFirm_16 : decode cX4_leastFirm 16 = .ok (.aload_n 0, 1) := by decide +kernel
theorem dX4_leastFirm_17 : decode cX4_leastFirm 17 = .ok (.getfield 9, 3) := by decide +kernel
theorem dX4_leastFirm_20 : decode cX4_leastFirm 20 = .ok (.iload_n 1, 1) := by decide +kernel
theorem dX4_leastFirm_21 : decode cX4_leastFirm 21 = .ok (.iaload, 1) := by decide +kernel
theorem dX4_leastFirm_22 : decode cX4_leastFirm 22 = .ok (.if_icmp .ge 5, 3) := by decide +kernel
theorem dX4_leastFirm_25 : decode cX4_leastFirm 25 = .ok (.iload_n 2, 1) := by decide +kernel
theorem dX4_leastFirm_26 : decode cX4_leastFirm 26 = .ok (.istore_n 1, 1) := by decide +kernel
theorem dX4_leastFirm_27 : decode cX4_leastFirm 27 = .ok (.iinc 2 1, 3) := by decide +kernel
theorem dX4_leastFirm_30 : decode cX4_leastFirm 30 = .ok (.goto (-26), 3) := by decide +kernel
theorem dX4_leastFirm_33 : decode cX4_leastFirm 33 = .ok (.iload_n 1, 1) := by decide +kernel
theorem dX4_leastFirm_34 : decode cX4_leastFirm 34 = .ok (.ireturn, 1) := by decide +kernel
theorem dX4_firmTogether_0 : decode cX4_firmTogether 0 = .ok (.iconst 0, 1) := by decide +kernel
theorem dX4_firmTogether_1 : decode cX4_firmTogether 1 = .ok (.istore_n 1, 1) := by decide +kernel
theorem dX4_firmTogether_2 : decode cX4_firmTogether 2 = .ok (.iconst 0, 1) := by decide +kernel
theorem dX4_firmTogether_3 : decode cX4_firmTogether 3 = .ok (.istore_n 2, 1) := by decide +kernel
theorem dX4_firmTogether_4 : decode cX4_firmTogether 4 = .ok (.iload_n 2, 1) := by decide +kernel
theorem dX4_firmTogether_5 : decode cX4_firmTogether 5 = .ok (.bipush 32, 2) := by decide +kernel
theorem dX4_firmTogether_7 : decode cX4_firmTogether 7 = .ok (.if_icmp .ge 18, 3) := by decide +kernel
theorem dX4_firmTogether_10 : decode cX4_firmTogether 10 = .ok (.iload_n 1, 1) := by decide +kernel
theorem dX4_firmTogether_11 : decode cX4_firmTogether 11 = .ok (.aload_n 0, 1) := by decide +kernel
theorem dX4_firmTogether_12 : decode cX4_firmTogether 12 = .ok (.getfield 9, 3) := by decide +kernel
theorem dX4_firmTogether_15 : decode cX4_firmTogether 15 = .ok (.iload_n 2, 1) := by decide +kernel
theorem dX4_firmTogether_16 : decode cX4_firmTogether 16 = .ok (.iaload, 1) := by decide +kernel
theorem dX4_firmTogether_17 : decode cX4_firmTogether 17 = .ok (.iadd, 1) := by decide +kernel
theorem dX4_firmTogether_18 : decode cX4_firmTogether 18 = .ok (.istore_n 1, 1) := by decide +kernel
theorem dX4_firmTogether_19 : decode cX4_firmTogether 19 = .ok (.iinc 2 1, 3) := by decide +kernel
theorem dX4_firmTogether_22 : decode cX4_firmTogether 22 = .ok (.goto (-18), 3) := by decide +kernel
theorem dX4_firmTogether_25 : decode cX4_firmTogether 25 = .ok (.iload_n 1, 1) := by decide +kernel
theorem dX4_firmTogether_26 : decode cX4_firmTogether 26 = .ok (.ireturn, 1) := by decide +kernel
theorem dX4_placesWithout_0 : decode cX4_placesWithout 0 = .ok (.iconst 0, 1) := by decide +kernel
theorem dX4_placesWithout_1 : decode cX4_placesWithout 1 = .ok (.istore_n 1, 1) := by decide +kernel
theorem dX4_placesWithout_2 : decode cX4_placesWithout 2 = .ok (.iconst 0, 1) := by decide +kernel
theorem dX4_placesWithout_3 : decode cX4_placesWithout 3 = .ok (.istore_n 2, 1) := by decide +kernel
theorem dX4_placesWithout_4 : decode cX4_placesWithout 4 = .ok (.iload_n 2, 1) := by decide +kernel
theorem dX4_placesWithout_5 : decode cX4_placesWithout 5 = .ok (.bipush 32, 2) := by decide +kernel
theorem dX4_placesWithout_7 : decode cX4_placesWithout 7 = .ok (.if_icmp .ge 21, 3) := by decide +kernel
theorem dX4_placesWithout_10 : decode cX4_placesWithout 10 = .ok (.aload_n 0, 1) := by decide +kernel
theorem dX4_placesWithout_11 : decode cX4_placesWithout 11 = .ok (.getfield 9, 3) := by decide +kernel
theorem dX4_placesWithout_14 : decode cX4_placesWithout 14 = .ok (.iload_n 2, 1) := by decide +kernel
theorem dX4_placesWithout_15 : decode cX4_placesWithout 15 = .ok (.iaload, 1) := by decide +kernel
theorem dX4_placesWithout_16 : decode cX4_placesWithout 16 = .ok (.ifCond .ne 6, 3) := by decide +kernel
theorem dX4_placesWithout_19 : decode cX4_placesWithout 19 = .ok (.iinc 1 1, 3) := by decide +kernel
theorem dX4_placesWithout_22 : decode cX4_placesWithout 22 = .ok (.iinc 2 1, 3) := by decide +kernel
theorem dX4_placesWithout_25 : decode cX4_placesWithout 25 = .ok (.goto (-21), 3) := by decide +kernel
theorem dX4_placesWithout_28 : decode cX4_placesWithout 28 = .ok (.iload_n 1, 1) := by decide +kernel
theorem dX4_placesWithout_29 : decode cX4_placesWithout 29 = .ok (.ireturn, 1) := by decide +kernel
theorem dX4_look_0 : decode cX4_look 0 = .ok (.aload_n 0, 1) := by decide +kernel
theorem dX4_look_1 : decode cX4_look 1 = .ok (.getfield 33, 3) := by decide +kernel
theorem dX4_look_4 : decode cX4_look 4 = .ok (.iconst 0, 1) := by decide +kernel
theorem dX4_look_5 : decode cX4_look 5 = .ok (.aload_n 0, 1) := by decide +kernel
theorem dX4_look_6 : decode cX4_look 6 = .ok (.getfield 24, 3) := by decide +kernel
theorem dX4_look_9 : decode cX4_look 9 = .ok (.iload_n 1, 1) := by decide +kernel
theorem dX4_look_10 : decode cX4_look 10 = .ok (.iaload, 1) := by decide +kernel
theorem dX4_look_11 : decode cX4_look 11 = .ok (.iastore, 1) := by decide +kernel
theorem dX4_look_12 : decode cX4_look 12 = .ok (.aload_n 0, 1) := by decide +kernel
theorem dX4_look_13 : decode cX4_look 13 = .ok (.getfield 33, 3) := by decide +kernel
theorem dX4_look_16 : decode cX4_look 16 = .ok (.iconst 1, 1) := by decide +kernel
theorem dX4_look_17 : decode cX4_look 17 = .ok (.aload_n 0, 1) := by decide +kernel
theorem dX4_look_18 : decode cX4_look 18 = .ok (.getfield 9, 3) := by decide +kernel
theorem dX4_look_21 : decode cX4_look 21 = .ok (.aload_n 0, 1) := by decide +kernel
theorem dX4_look_22 : decode cX4_look 22 = .ok (.getfield 27, 3) := by decide +kernel
theorem dX4_look_25 : decode cX4_look 25 = .ok (.iload_n 1, 1) := by decide +kernel
theorem dX4_look_26 : decode cX4_look 26 = .ok (.iaload, 1) := by decide +kernel
theorem dX4_look_27 : decode cX4_look 27 = .ok (.iaload, 1) := by decide +kernel
theorem dX4_look_28 : decode cX4_look 28 = .ok (.iastore, 1) := by decide +kernel
theorem dX4_look_29 : decode cX4_look 29 = .ok (.aload_n 0, 1) := by decide +kernel
theorem dX4_look_30 : decode cX4_look 30 = .ok (.getfield 33, 3) := by decide +kernel
theorem dX4_look_33 : decode cX4_look 33 = .ok (.iconst 2, 1) := by decide +kernel
theorem dX4_look_34 : decode cX4_look 34 = .ok (.aload_n 0, 1) := by decide +kernel
theorem dX4_look_35 : decode cX4_look 35 = .ok (.getfield 18, 3) := by decide +kernel
theorem dX4_look_38 : decode cX4_look 38 = .ok (.iload_n 1, 1) := by decide +kernel
theorem dX4_look_39 : decode cX4_look 39 = .ok (.iaload, 1) := by decide +kernel
theorem dX4_look_40 : decode cX4_look 40 = .ok (.iastore, 1) := by decide +kernel
theorem dX4_look_41 : decode cX4_look 41 = .ok (.aload_n 0, 1) := by decide +kernel
theorem dX4_look_42 : decode cX4_look 42 = .ok (.getfield 33, 3) := by decide +kernel
theorem dX4_look_45 : decode cX4_look 45 = .ok (.iconst 3, 1) := by decide +kernel
theorem dX4_look_46 : decode cX4_look 46 = .ok (.aload_n 0, 1) := by decide +kernel
theorem dX4_look_47 : decode cX4_look 47 = .ok (.getfield 55, 3) := by decide +kernel
theorem dX4_look_50 : decode cX4_look 50 = .ok (.iastore, 1) := by decide +kernel
theorem dX4_look_51 : decode cX4_look 51 = .ok (.aload_n 0, 1) := by decide +kernel
theorem dX4_look_52 : decode cX4_look 52 = .ok (.getfield 33, 3) := by decide +kernel
theorem dX4_look_55 : decode cX4_look 55 = .ok (.iconst 4, 1) := by decide +kernel
theorem dX4_look_56 : decode cX4_look 56 = .ok (.aload_n 0, 1) := by decide +kernel
theorem dX4_look_57 : decode cX4_look 57 = .ok (.getfield 36, 3) := by decide +kernel
theorem dX4_look_60 : decode cX4_look 60 = .ok (.iastore, 1) := by decide +kernel
theorem dX4_look_61 : decode cX4_look 61 = .ok (.aload_n 0, 1) := by decide +kernel
theorem dX4_look_62 : decode cX4_look 62 = .ok (.getfield 33, 3) := by decide +kernel
theorem dX4_look_65 : decode cX4_look 65 = .ok (.iconst 5, 1) := by decide +kernel
theorem dX4_look_66 : decode cX4_look 66 = .ok (.aload_n 0, 1) := by decide +kernel
theorem dX4_look_67 : decode cX4_look 67 = .ok (.iload_n 1, 1) := by decide +kernel
theorem dX4_look_68 : decode cX4_look 68 = .ok (.invokevirtual 65, 3) := by decide +kernel
theorem dX4_look_71 : decode cX4_look 71 = .ok (.iastore, 1) := by decide +kernel
theorem dX4_look_72 : decode cX4_look 72 = .ok (.return_, 1) := by decide +kernel
theorem dX4_paceOf_0 : decode cX4_paceOf 0 = .ok (.aload_n 2, 1) := by decide +kernel
theorem dX4_paceOf_1 : decode cX4_paceOf 1 = .ok (.iconst 0, 1) := by decide +kernel
theorem dX4_paceOf_2 : decode cX4_paceOf 2 = .ok (.aload_n 0, 1) := by decide +kernel
theorem dX4_paceOf_3 : decode cX4_paceOf 3 = .ok (.getfield 33, 3) := by decide +kernel
theorem dX4_paceOf_6 : decode cX4_paceOf 6 = .ok (.invokevirtual 69, 3) := by decide +kernel
theorem dX4_paceOf_9 : decode cX4_paceOf 9 = .ok (.iconst 0, 1) := by decide +kernel
theorem dX4_paceOf_10 : decode cX4_paceOf 10 = .ok (.bipush 99, 2) := by decide +kernel
theorem dX4_paceOf_12 : decode cX4_paceOf 12 = .ok (.invokestatic 75, 3) := by decide +kernel
theorem dX4_paceOf_15 : decode cX4_paceOf 15 = .ok (.istore_n 3, 1) := by decide +kernel
theorem dX4_paceOf_16 : decode cX4_paceOf 16 = .ok (.aload_n 0, 1) := by decide +kernel
theorem dX4_paceOf_17 : decode cX4_paceOf 17 = .ok (.getfield 24, 3) := by decide +kernel
theorem dX4_paceOf_20 : decode cX4_paceOf 20 = .ok (.iload_n 1, 1) := by decide +kernel
theorem dX4_paceOf_21 : decode cX4_paceOf 21 = .ok (.iaload, 1) := by decide +kernel
theorem dX4_paceOf_22 : decode cX4_paceOf 22 = .ok (.bipush 20, 2) := by decide +kernel
theorem dX4_paceOf_24 : decode cX4_paceOf 24 = .ok (.if_icmp .le 9, 3) := by decide +kernel
theorem dX4_paceOf_27 : decode cX4_paceOf 27 = .ok (.iload_n 3, 1) := by decide +kernel
theorem dX4_paceOf_28 : decode cX4_paceOf 28 = .ok (.iconst 2, 1) := by decide +kernel
theorem dX4_paceOf_29 : decode cX4_paceOf 29 = .ok (.idiv, 1) := by decide +kernel
theorem dX4_paceOf_30 : decode cX4_paceOf 30 = .ok (.goto 4, 3) := by decide +kernel
theorem dX4_paceOf_33 : decode cX4_paceOf 33 = .ok (.iload_n 3, 1) := by decide +kernel
theorem dX4_paceOf_34 : decode cX4_paceOf 34 = .ok (.istore 4, 2) := by decide +kernel
theorem dX4_paceOf_36 : decode cX4_paceOf 36 = .ok (.aload_n 0, 1) := by decide +kernel
theorem dX4_paceOf_37 : decode cX4_paceOf 37 = .ok (.getfield 15, 3) := by decide +kernel
theorem dX4_paceOf_40 : decode cX4_paceOf 40 = .ok (.iload_n 1, 1) := by decide +kernel
theorem dX4_paceOf_41 : decode cX4_paceOf 41 = .ok (.iaload, 1) := by decide +kernel
theorem dX4_paceOf_42 : decode cX4_paceOf 42 = .ok (.tableswitch 96 1 5 #[34, 41, 49, 65, 88], 34) := by decide +kernel
theorem dX4_paceOf_76 : decode cX4_paceOf 76 = .ok (.iload 4, 2) := by decide +kernel
theorem dX4_paceOf_78 : decode cX4_paceOf 78 = .ok (.istore 5, 2) := by decide +kernel
theorem dX4_paceOf_80 : decode cX4_paceOf 80 = .ok (.goto 61, 3) := by decide +kernel
theorem dX4_paceOf_83 : decode cX4_paceOf 83 = .ok (.iload_n 3, 1) := by decide +kernel
theorem dX4_paceOf_84 : decode cX4_paceOf 84 = .ok (.iconst 1, 1) := by decide +kernel
theorem dX4_paceOf_85 : decode cX4_paceOf 85 = .ok (.isub, 1) := by decide +kernel
theorem dX4_paceOf_86 : decode cX4_paceOf 86 = .ok (.istore 5, 2) := by decide +kernel
theorem dX4_paceOf_88 : decode cX4_paceOf 88 = .ok (.goto 53, 3) := by decide +kernel
theorem dX4_paceOf_91 : decode cX4_paceOf 91 = .ok (.iload 4, 2) := by decide +kernel
theorem dX4_paceOf_93 : decode cX4_paceOf 93 = .ok (.aload_n 0, 1) := by decide +kernel
theorem dX4_paceOf_94 : decode cX4_paceOf 94 = .ok (.getfield 18, 3) := by decide +kernel
theorem dX4_paceOf_97 : decode cX4_paceOf 97 = .ok (.iload_n 1, 1) := by decide +kernel
theorem dX4_paceOf_98 : decode cX4_paceOf 98 = .ok (.iaload, 1) := by decide +kernel
theorem dX4_paceOf_99 : decode cX4_paceOf 99 = .ok (.iconst 3, 1) := by decide +kernel
theorem dX4_paceOf_100 : decode cX4_paceOf 100 = .ok (.irem, 1) := by decide +kernel
theorem dX4_paceOf_101 : decode cX4_paceOf 101 = .ok (.iadd, 1) := by decide +kernel
theorem dX4_paceOf_102 : decode cX4_paceOf 102 = .ok (.istore 5, 2) := by decide +kernel
theorem dX4_paceOf_104 : decode cX4_paceOf 104 = .ok (.goto 37, 3) := by decide +kernel
theorem dX4_paceOf_107 : decode cX4_paceOf 107 = .ok (.iload_n 3, 1) := by decide +kernel
theorem dX4_paceOf_108 : decode cX4_paceOf 108 = .ok (.iconst 1, 1) := by decide +kernel
theorem dX4_paceOf_109 : decode cX4_paceOf 109 = .ok (.isub, 1) := by decide +kernel
theorem dX4_paceOf_110 : decode cX4_paceOf 110 = .ok (.aload_n 0, 1) := by decide +kernel
theorem dX4_paceOf_111 : decode cX4_paceOf 111 = .ok (.getfield 33, 3) := by decide +kernel
theorem dX4_paceOf_114 : decode cX4_paceOf 114 = .ok (.iconst 5, 1) := by decide +kernel
theorem dX4_paceOf_115 : decode cX4_paceOf 115 = .ok (.iaload, 1) := by decide +kernel
theorem dX4_paceOf_116 : decode cX4_paceOf 116 = .ok (.ifCond .le 7, 3) := by decide +kernel
theorem dX4_paceOf_119 : decode cX4_paceOf 119 = .ok (.iconst 1, 1) := by decide +kernel
theorem dX4_paceOf_120 : decode cX4_paceOf 120 = .ok (.goto 4, 3) := by decide +kernel
theorem dX4_paceOf_123 : decode cX4_paceOf 123 = .ok (.iconst 0, 1) := by decide +kernel
theorem dX4_paceOf_124 : decode cX4_paceOf 124 = .ok (.iadd, 1) := by decide +kernel
theorem dX4_paceOf_125 : decode cX4_paceOf 125 = .ok (.istore 5, 2) := by decide +kernel
theorem dX4_paceOf_127 : decode cX4_paceOf 127 = .ok (.goto 14, 3) := by decide +kernel
theorem dX4_paceOf_130 : decode cX4_paceOf 130 = .ok (.iconst 2, 1) := by decide +kernel
theorem dX4_paceOf_131 : decode cX4_paceOf 131 = .ok (.iload_n 3, 1) := by decide +kernel
theorem dX4_paceOf_132 : decode cX4_paceOf 132 = .ok (.imul, 1) := by decide +kernel
theorem dX4_paceOf_133 : decode cX4_paceOf 133 = .ok (.istore 5, 2) := by decide +kernel
theorem dX4_paceOf_135 : decode cX4_paceOf 135 = .ok (.goto 6, 3) := by decide +kernel
theorem dX4_paceOf_138 : decode cX4_paceOf 138 = .ok (.iload_n 3, 1) := by decide +kernel
theorem dX4_paceOf_139 : decode cX4_paceOf 139 = .ok (.istore 5, 2) := by decide +kernel
theorem dX4_paceOf_141 : decode cX4_paceOf 141 = .ok (.iload 5, 2) := by decide +kernel
theorem dX4_paceOf_143 : decode cX4_paceOf 143 = .ok (.iconst 0, 1) := by decide +kernel
theorem dX4_paceOf_144 : decode cX4_paceOf 144 = .ok (.bipush 9, 2) := by decide +kernel
theorem dX4_paceOf_146 : decode cX4_paceOf 146 = .ok (.invokestatic 75, 3) := by decide +kernel
theorem dX4_paceOf_149 : decode cX4_paceOf 149 = .ok (.ireturn, 1) := by decide +kernel
theorem dX4_treadsOf_0 : decode cX4_treadsOf 0 = .ok (.aload_n 2, 1) := by decide +kernel
theorem dX4_treadsOf_1 : decode cX4_treadsOf 1 = .ok (.iconst 1, 1) := by decide +kernel
theorem dX4_treadsOf_2 : decode cX4_treadsOf 2 = .ok (.aload_n 0, 1) := by decide +kernel
theorem dX4_treadsOf_3 : decode cX4_treadsOf 3 = .ok (.getfield 33, 3) := by decide +kernel
theorem dX4_treadsOf_6 : decode cX4_treadsOf 6 = .ok (.invokevirtual 69, 3) := by decide +kernel
theorem dX4_treadsOf_9 : decode cX4_treadsOf 9 = .ok (.bipush (-99), 2) := by decide +kernel
theorem dX4_treadsOf_11 : decode cX4_treadsOf 11 = .ok (.bipush 99, 2) := by decide +kernel
theorem dX4_treadsOf_13 : decode cX4_treadsOf 13 = .ok (.invokestatic 75, 3) := by decide +kernel
theorem dX4_treadsOf_16 : decode cX4_treadsOf 16 = .ok (.istore_n 3, 1) := by decide +kernel
theorem dX4_treadsOf_17 : decode cX4_treadsOf 17 = .ok (.aload_n 0, 1) := by decide +kernel
theorem dX4_treadsOf_18 : decode cX4_treadsOf 18 = .ok (.getfield 15, 3) := by decide +kernel
theorem dX4_treadsOf_21 : decode cX4_treadsOf 21 = .ok (.iload_n 1, 1) := by decide +kernel
theorem dX4_treadsOf_22 : decode cX4_treadsOf 22 = .ok (.iaload, 1) := by decide +kernel
theorem dX4_treadsOf_23 : decode cX4_treadsOf 23 = .ok (.tableswitch 66 2 5 #[29, 37, 45, 60], 29) := by decide +kernel
theorem dX4_treadsOf_52 : decode cX4_treadsOf 52 = .ok (.iconst 2, 1) := by decide +kernel
theorem dX4_treadsOf_53 : decode cX4_treadsOf 53 = .ok (.iload_n 3, 1) := by decide +kernel
theorem dX4_treadsOf_54 : decode cX4_treadsOf 54 = .ok (.imul, 1) := by decide +kernel
theorem dX4_treadsOf_55 : decode cX4_treadsOf 55 = .ok (.istore 4, 2) := by decide +kernel
theorem dX4_treadsOf_57 : decode cX4_treadsOf 57 = .ok (.goto 35, 3) := by decide +kernel
theorem dX4_treadsOf_60 : decode cX4_treadsOf 60 = .ok (.iload_n 3, 1) := by decide +kernel
theorem dX4_treadsOf_61 : decode cX4_treadsOf 61 = .ok (.iconst 2, 1) := by decide +kernel
theorem dX4_treadsOf_62 : decode cX4_treadsOf 62 = .ok (.idiv, 1) := by decide +kernel
theorem dX4_treadsOf_63 : decode cX4_treadsOf 63 = .ok (.istore 4, 2) := by decide +kernel
theorem dX4_treadsOf_65 : decode cX4_treadsOf 65 = .ok (.goto 27, 3) := by decide +kernel
theorem dX4_treadsOf_68 : decode cX4_treadsOf 68 = .ok (.iconst 2, 1) := by decide +kernel
theorem dX4_treadsOf_69 : decode cX4_treadsOf 69 = .ok (.iload_n 3, 1) := by decide +kernel
theorem dX4_treadsOf_70 : decode cX4_treadsOf 70 = .ok (.imul, 1) := by decide +kernel
theorem dX4_treadsOf_71 : decode cX4_treadsOf 71 = .ok (.aload_n 0, 1) := by decide +kernel
theorem dX4_treadsOf_72 : decode cX4_treadsOf 72 = .ok (.getfield 18, 3) := by decide +kernel
theorem dX4_treadsOf_75 : decode cX4_treadsOf 75 = .ok (.iload_n 1, 1) := by decide +kernel
theorem dX4_treadsOf_76 : decode cX4_treadsOf 76 = .ok (.iaload, 1) := by decide +kernel
theorem dX4_treadsOf_77 : decode cX4_treadsOf 77 = .ok (.iadd, 1) := by decide +kernel
theorem dX4_treadsOf_78 : decode cX4_treadsOf 78 = .ok (.istore 4, 2) := by decide +kernel
theorem dX4_treadsOf_80 : decode cX4_treadsOf 80 = .ok (.goto 12, 3) := by decide +kernel
theorem dX4_treadsOf_83 : decode cX4_treadsOf 83 = .ok (.iconst 0, 1) := by decide +kernel
theorem dX4_treadsOf_84 : decode cX4_treadsOf 84 = .ok (.istore 4, 2) := by decide +kernel
theorem dX4_treadsOf_86 : decode cX4_treadsOf 86 = .ok (.goto 6, 3) := by decide +kernel
theorem dX4_treadsOf_89 : decode cX4_treadsOf 89 = .ok (.iload_n 3, 1) := by decide +kernel
theorem dX4_treadsOf_90 : decode cX4_treadsOf 90 = .ok (.istore 4, 2) := by decide +kernel
theorem dX4_treadsOf_92 : decode cX4_treadsOf 92 = .ok (.iload 4, 2) := by decide +kernel
theorem dX4_treadsOf_94 : decode cX4_treadsOf 94 = .ok (.iconst 0, 1) := by decide +kernel
theorem dX4_treadsOf_95 : decode cX4_treadsOf 95 = .ok (.bipush 99, 2) := by decide +kernel
theorem dX4_treadsOf_97 : decode cX4_treadsOf 97 = .ok (.invokestatic 75, 3) := by decide +kernel
theorem dX4_treadsOf_100 : decode cX4_treadsOf 100 = .ok (.ireturn, 1) := by decide +kernel
theorem dX4_doubtsOf_0 : decode cX4_doubtsOf 0 = .ok (.aload_n 2, 1) := by decide +kernel
theorem dX4_doubtsOf_1 : decode cX4_doubtsOf 1 = .ok (.iconst 2, 1) := by decide +kernel
theorem dX4_doubtsOf_2 : decode cX4_doubtsOf 2 = .ok (.aload_n 0, 1) := by decide +kernel
theorem dX4_doubtsOf_3 : decode cX4_doubtsOf 3 = .ok (.getfield 33, 3) := by decide +kernel
theorem dX4_doubtsOf_6 : decode cX4_doubtsOf 6 = .ok (.invokevirtual 69, 3) := by decide +kernel
theorem dX4_doubtsOf_9 : decode cX4_doubtsOf 9 = .ok (.bipush (-99), 2) := by decide +kernel
theorem dX4_doubtsOf_11 : decode cX4_doubtsOf 11 = .ok (.bipush 99, 2) := by decide +kernel
theorem dX4_doubtsOf_13 : decode cX4_doubtsOf 13 = .ok (.invokestatic 75, 3) := by decide +kernel
theorem dX4_doubtsOf_16 : decode cX4_doubtsOf 16 = .ok (.istore_n 3, 1) := by decide +kernel
theorem dX4_doubtsOf_17 : decode cX4_doubtsOf 17 = .ok (.aload_n 0, 1) := by decide +kernel
theorem dX4_doubtsOf_18 : decode cX4_doubtsOf 18 = .ok (.getfield 15, 3) := by decide +kernel
theorem dX4_doubtsOf_21 : decode cX4_doubtsOf 21 = .ok (.iload_n 1, 1) := by decide +kernel
theorem dX4_doubtsOf_22 : decode cX4_doubtsOf 22 = .ok (.iaload, 1) := by decide +kernel
theorem dX4_doubtsOf_23 : decode cX4_doubtsOf 23 = .ok (.tableswitch 91 1 5 #[33, 42, 45, 68, 87], 33) := by decide +kernel
theorem dX4_doubtsOf_56 : decode cX4_doubtsOf 56 = .ok (.iload_n 3, 1) := by decide +kernel
theorem dX4_doubtsOf_57 : decode cX4_doubtsOf 57 = .ok (.aload_n 0, 1) := by decide +kernel
theorem dX4_doubtsOf_58 : decode cX4_doubtsOf 58 = .ok (.getfield 18, 3) := by decide +kernel
theorem dX4_doubtsOf_61 : decode cX4_doubtsOf 61 = .ok (.iload_n 1, 1) := by decide +kernel
theorem dX4_doubtsOf_62 : decode cX4_doubtsOf 62 = .ok (.iaload, 1) := by decide +kernel
theorem dX4_doubtsOf_63 : decode cX4_doubtsOf 63 = .ok (.iadd, 1) := by decide +kernel
theorem dX4_doubtsOf_64 : decode cX4_doubtsOf 64 = .ok (.ireturn, 1) := by decide +kernel
theorem dX4_doubtsOf_65 : decode cX4_doubtsOf 65 = .ok (.iload_n 3, 1) := by decide +kernel
theorem dX4_doubtsOf_66 : decode cX4_doubtsOf 66 = .ok (.ineg, 1) := by decide +kernel
theorem dX4_doubtsOf_67 : decode cX4_doubtsOf 67 = .ok (.ireturn, 1) := by decide +kernel
theorem dX4_doubtsOf_68 : decode cX4_doubtsOf 68 = .ok (.aload_n 0, 1) := by decide +kernel
theorem dX4_doubtsOf_69 : decode cX4_doubtsOf 69 = .ok (.getfield 55, 3) := by decide +kernel
theorem dX4_doubtsOf_72 : decode cX4_doubtsOf 72 = .ok (.iconst 2, 1) := by decide +kernel
theorem dX4_doubtsOf_73 : decode cX4_doubtsOf 73 = .ok (.irem, 1) := by decide +kernel
theorem dX4_doubtsOf_74 : decode cX4_doubtsOf 74 = .ok (.iconst 1, 1) := by decide +kernel
theorem dX4_doubtsOf_75 : decode cX4_doubtsOf 75 = .ok (.if_icmp .ne 14, 3) := by decide +kernel
theorem dX4_doubtsOf_78 : decode cX4_doubtsOf 78 = .ok (.iload_n 3, 1) := by decide +kernel
theorem dX4_doubtsOf_79 : decode cX4_doubtsOf 79 = .ok (.aload_n 0, 1) := by decide +kernel
theorem dX4_doubtsOf_80 : decode cX4_doubtsOf 80 = .ok (.getfield 18, 3) := by decide +kernel
theorem dX4_doubtsOf_83 : decode cX4_doubtsOf 83 = .ok (.iload_n 1, 1) := by decide +kernel
theorem dX4_doubtsOf_84 : decode cX4_doubtsOf 84 = .ok (.iaload, 1) := by decide +kernel
theorem dX4_doubtsOf_85 : decode cX4_doubtsOf 85 = .ok (.iadd, 1) := by decide +kernel
theorem dX4_doubtsOf_86 : decode cX4_doubtsOf 86 = .ok (.goto 4, 3) := by decide +kernel
theorem dX4_doubtsOf_89 : decode cX4_doubtsOf 89 = .ok (.iconst 0, 1) := by decide +kernel
theorem dX4_doubtsOf_90 : decode cX4_doubtsOf 90 = .ok (.ireturn, 1) := by decide +kernel
theorem dX4_doubtsOf_91 : decode cX4_doubtsOf 91 = .ok (.iload_n 3, 1) := by decide +kernel
theorem dX4_doubtsOf_92 : decode cX4_doubtsOf 92 = .ok (.ineg, 1) := by decide +kernel
theorem dX4_doubtsOf_93 : decode cX4_doubtsOf 93 = .ok (.aload_n 0, 1) := by decide +kernel
theorem dX4_doubtsOf_94 : decode cX4_doubtsOf 94 = .ok (.getfield 33, 3) := by decide +kernel
theorem dX4_doubtsOf_97 : decode cX4_doubtsOf 97 = .ok (.iconst 5, 1) := by decide +kernel
theorem dX4_doubtsOf_98 : decode cX4_doubtsOf 98 = .ok (.iaload, 1) := by decide +kernel
theorem dX4_doubtsOf_99 : decode cX4_doubtsOf 99 = .ok (.ifCond .le 8, 3) := by decide +kernel
theorem dX4_doubtsOf_102 : decode cX4_doubtsOf 102 = .ok (.bipush 10, 2) := by decide +kernel
theorem dX4_doubtsOf_104 : decode cX4_doubtsOf 104 = .ok (.goto 4, 3) := by decide +kernel
theorem dX4_doubtsOf_107 : decode cX4_doubtsOf 107 = .ok (.iconst 0, 1) := by decide +kernel
theorem dX4_doubtsOf_108 : decode cX4_doubtsOf 108 = .ok (.isub, 1) := by decide +kernel
theorem dX4_doubtsOf_109 : decode cX4_doubtsOf 109 = .ok (.ireturn, 1) := by decide +kernel
theorem dX4_doubtsOf_110 : decode cX4_doubtsOf 110 = .ok (.iconst 2, 1) := by decide +kernel
theorem dX4_doubtsOf_111 : decode cX4_doubtsOf 111 = .ok (.iload_n 3, 1) := by decide +kernel
theorem dX4_doubtsOf_112 : decode cX4_doubtsOf 112 = .ok (.imul, 1) := by decide +kernel
theorem dX4_doubtsOf_113 : decode cX4_doubtsOf 113 = .ok (.ireturn, 1) := by decide +kernel
theorem dX4_doubtsOf_114 : decode cX4_doubtsOf 114 = .ok (.iload_n 3, 1) := by decide +kernel
theorem dX4_doubtsOf_115 : decode cX4_doubtsOf 115 = .ok (.ireturn, 1) := by decide +kernel
theorem dX4_passHours_0 : decode cX4_passHours 0 = .ok (.iconst 0, 1) := by decide +kernel
theorem dX4_passHours_1 : decode cX4_passHours 1 = .ok (.istore_n 3, 1) := by decide +kernel
theorem dX4_passHours_2 : decode cX4_passHours 2 = .ok (.iload_n 3, 1) := by decide +kernel
theorem dX4_passHours_3 : decode cX4_passHours 3 = .ok (.iload_n 1, 1) := by decide +kernel
theorem dX4_passHours_4 : decode cX4_passHours 4 = .ok (.if_icmp .ge 14, 3) := by decide +kernel
theorem dX4_passHours_7 : decode cX4_passHours 7 = .ok (.aload_n 0, 1) := by decide +kernel
theorem dX4_passHours_8 : decode cX4_passHours 8 = .ok (.aload_n 2, 1) := by decide +kernel
theorem dX4_passHours_9 : decode cX4_passHours 9 = .ok (.invokevirtual 79, 3) := by decide +kernel
theorem dX4_passHours_12 : decode cX4_passHours 12 = .ok (.iinc 3 1, 3) := by decide +kernel
theorem dX4_passHours_15 : decode cX4_passHours 15 = .ok (.goto (-13), 3) := by decide +kernel
theorem dX4_passHours_18 : decode cX4_passHours 18 = .ok (.return_, 1) := by decide +kernel
theorem dX4_passHour_0 : decode cX4_passHour 0 = .ok (.aload_n 1, 1) := by decide +kernel
theorem dX4_passHour_1 : decode cX4_passHour 1 = .ok (.aload_n 0, 1) := by decide +kernel
theorem dX4_passHour_2 : decode cX4_passHour 2 = .ok (.getfield 58, 3) := by decide +kernel
theorem dX4_passHour_5 : decode cX4_passHour 5 = .ok (.invokevirtual 83, 3) := by decide +kernel
theorem dX4_passHour_8 : decode cX4_passHour 8 = .ok (.astore_n 2, 1) := by decide +kernel
theorem dX4_passHour_9 : decode cX4_passHour 9 = .ok (.iconst 0, 1) := by decide +kernel
theorem dX4_passHour_10 : decode cX4_passHour 10 = .ok (.istore_n 3, 1) := by decide +kernel
theorem dX4_passHour_11 : decode cX4_passHour 11 = .ok (.iload_n 3, 1) := by decide +kernel
theorem dX4_passHour_12 : decode cX4_passHour 12 = .ok (.aload_n 0, 1) := by decide +kernel
theorem dX4_passHour_13 : decode cX4_passHour 13 = .ok (.getfield 52, 3) := by decide +kernel
theorem dX4_passHour_16 : decode cX4_passHour 16 = .ok (.if_icmp .ge 25, 3) := by decide +kernel
theorem dX4_passHour_19 : decode cX4_passHour 19 = .ok (.aload_n 0, 1) := by decide +kernel
theorem dX4_passHour_20 : decode cX4_passHour 20 = .ok (.getfield 30, 3) := by decide +kernel
theorem dX4_passHour_23 : decode cX4_passHour 23 = .ok (.iload_n 3, 1) := by decide +kernel
theorem dX4_passHour_24 : decode cX4_passHour 24 = .ok (.iaload, 1) := by decide +kernel
theorem dX4_passHour_25 : decode cX4_passHour 25 = .ok (.iconst 1, 1) := by decide +kernel
theorem dX4_passHour_26 : decode cX4_passHour 26 = .ok (.if_icmp .ne 9, 3) := by decide +kernel
theorem dX4_passHour_29 : decode cX4_passHour 29 = .ok (.aload_n 0, 1) := by decide +kernel
theorem dX4_passHour_30 : decode cX4_passHour 30 = .ok (.iload_n 3, 1) := by decide +kernel
theorem dX4_passHour_31 : decode cX4_passHour 31 = .ok (.aload_n 2, 1) := by decide +kernel
theorem dX4_passHour_32 : decode cX4_passHour 32 = .ok (.invokevirtual 89, 3) := by decide +kernel
theorem dX4_passHour_35 : decode cX4_passHour 35 = .ok (.iinc 3 1, 3) := by decide +kernel
theorem dX4_passHour_38 : decode cX4_passHour 38 = .ok (.goto (-27), 3) := by decide +kernel
theorem dX4_passHour_41 : decode cX4_passHour 41 = .ok (.aload_n 0, 1) := by decide +kernel
theorem dX4_passHour_42 : decode cX4_passHour 42 = .ok (.getfield 36, 3) := by decide +kernel
theorem dX4_passHour_45 : decode cX4_passHour 45 = .ok (.bipush 10, 2) := by decide +kernel
theorem dX4_passHour_47 : decode cX4_passHour 47 = .ok (.idiv, 1) := by decide +kernel
theorem dX4_passHour_48 : decode cX4_passHour 48 = .ok (.istore_n 3, 1) := by decide +kernel
theorem dX4_passHour_49 : decode cX4_passHour 49 = .ok (.iconst 0, 1) := by decide +kernel
theorem dX4_passHour_50 : decode cX4_passHour 50 = .ok (.istore 4, 2) := by decide +kernel
theorem dX4_passHour_52 : decode cX4_passHour 52 = .ok (.iload 4, 2) := by decide +kernel
theorem dX4_passHour_54 : decode cX4_passHour 54 = .ok (.bipush 32, 2) := by decide +kernel
theorem dX4_passHour_56 : decode cX4_passHour 56 = .ok (.if_icmp .ge 29, 3) := by decide +kernel
theorem dX4_passHour_59 : decode cX4_passHour 59 = .ok (.aload_n 0, 1) := by decide +kernel
theorem dX4_passHour_60 : decode cX4_passHour 60 = .ok (.getfield 9, 3) := by decide +kernel
theorem dX4_passHour_63 : decode cX4_passHour 63 = .ok (.iload 4, 2) := by decide +kernel
theorem dX4_passHour_65 : decode cX4_passHour 65 = .ok (.iconst 0, 1) := by decide +kernel
theorem dX4_passHour_66 : decode cX4_passHour 66 = .ok (.aload_n 0, 1) := by decide +kernel
theorem dX4_passHour_67 : decode cX4_passHour 67 = .ok (.getfield 9, 3) := by decide +kernel
theorem dX4_passHour_70 : decode cX4_passHour 70 = .ok (.iload 4, 2) := by decide +kernel
theorem dX4_passHour_72 : decode cX4_passHour 72 = .ok (.iaload, 1) := by decide +kernel
theorem dX4_passHour_73 : decode cX4_passHour 73 = .ok (.iload_n 3, 1) := by decide +kernel
theorem dX4_passHour_74 : decode cX4_passHour 74 = .ok (.isub, 1) := by decide +kernel
theorem dX4_passHour_75 : decode cX4_passHour 75 = .ok (.invokestatic 93, 3) := by decide +kernel
theorem dX4_passHour_78 : decode cX4_passHour 78 = .ok (.iastore, 1) := by decide +kernel
theorem dX4_passHour_79 : decode cX4_passHour 79 = .ok (.iinc 4 1, 3) := by decide +kernel
theorem dX4_passHour_82 : decode cX4_passHour 82 = .ok (.goto (-30), 3) := by decide +kernel
theorem dX4_passHour_85 : decode cX4_passHour 85 = .ok (.aload_n 0, 1) := by decide +kernel
theorem dX4_passHour_86 : decode cX4_passHour 86 = .ok (.dup, 1) := by decide +kernel
theorem dX4_passHour_87 : decode cX4_passHour 87 = .ok (.getfield 55, 3) := by decide +kernel
theorem dX4_passHour_90 : decode cX4_passHour 90 = .ok (.iconst 1, 1) := by decide +kernel
theorem dX4_passHour_91 : decode cX4_passHour 91 = .ok (.iadd, 1) := by decide +kernel
theorem dX4_passHour_92 : decode cX4_passHour 92 = .ok (.putfield 55, 3) := by decide +kernel
theorem dX4_passHour_95 : decode cX4_passHour 95 = .ok (.return_, 1) := by decide +kernel
theorem dX4_goOn_0 : decode cX4_goOn 0 = .ok (.aload_n 0, 1) := by decide +kernel
theorem dX4_goOn_1 : decode cX4_goOn 1 = .ok (.iload_n 1, 1) := by decide +kernel
theorem dX4_goOn_2 : decode cX4_goOn 2 = .ok (.invokevirtual 99, 3) := by decide +kernel
theorem dX4_goOn_5 : decode cX4_goOn 5 = .ok (.aload_n 0, 1) := by decide +kernel
theorem dX4_goOn_6 : decode cX4_goOn 6 = .ok (.iload_n 1, 1) := by decide +kernel
theorem dX4_goOn_7 : decode cX4_goOn 7 = .ok (.aload_n 2, 1) := by decide +kernel
theorem dX4_goOn_8 : decode cX4_goOn 8 = .ok (.invokevirtual 103, 3) := by decide +kernel
theorem dX4_goOn_11 : decode cX4_goOn 11 = .ok (.istore_n 3, 1) := by decide +kernel
theorem dX4_goOn_12 : decode cX4_goOn 12 = .ok (.aload_n 0, 1) := by decide +kernel
theorem dX4_goOn_13 : decode cX4_goOn 13 = .ok (.iload_n 1, 1) := by decide +kernel
theorem dX4_goOn_14 : decode cX4_goOn 14 = .ok (.aload_n 2, 1) := by decide +kernel
theorem dX4_goOn_15 : decode cX4_goOn 15 = .ok (.invokevirtual 107, 3) := by decide +kernel
theorem dX4_goOn_18 : decode cX4_goOn 18 = .ok (.istore 4, 2) := by decide +kernel
theorem dX4_goOn_20 : decode cX4_goOn 20 = .ok (.aload_n 0, 1) := by decide +kernel
theorem dX4_goOn_21 : decode cX4_goOn 21 = .ok (.getfield 24, 3) := by decide +kernel
theorem dX4_goOn_24 : decode cX4_goOn 24 = .ok (.iload_n 1, 1) := by decide +kernel
theorem dX4_goOn_25 : decode cX4_goOn 25 = .ok (.aload_n 0, 1) := by decide +kernel
theorem dX4_goOn_26 : decode cX4_goOn 26 = .ok (.getfield 24, 3) := by decide +kernel
theorem dX4_goOn_29 : decode cX4_goOn 29 = .ok (.iload_n 1, 1) := by decide +kernel
theorem dX4_goOn_30 : decode cX4_goOn 30 = .ok (.iaload, 1) := by decide +kernel
theorem dX4_goOn_31 : decode cX4_goOn 31 = .ok (.aload_n 0, 1) := by decide +kernel
theorem dX4_goOn_32 : decode cX4_goOn 32 = .ok (.iload_n 1, 1) := by decide +kernel
theorem dX4_goOn_33 : decode cX4_goOn 33 = .ok (.aload_n 2, 1) := by decide +kernel
theorem dX4_goOn_34 : decode cX4_goOn 34 = .ok (.invokevirtual 110, 3) := by decide +kernel
theorem dX4_goOn_37 : decode cX4_goOn 37 = .ok (.iadd, 1) := by decide +kernel
theorem dX4_goOn_38 : decode cX4_goOn 38 = .ok (.iconst 0, 1) := by decide +kernel
theorem dX4_goOn_39 : decode cX4_goOn 39 = .ok (.bipush 99, 2) := by decide +kernel
theorem dX4_goOn_41 : decode cX4_goOn 41 = .ok (.invokestatic 75, 3) := by decide +kernel
theorem dX4_goOn_44 : decode cX4_goOn 44 = .ok (.iastore, 1) := by decide +kernel
theorem dX4_goOn_45 : decode cX4_goOn 45 = .ok (.iconst 0, 1) := by decide +kernel
theorem dX4_goOn_46 : decode cX4_goOn 46 = .ok (.istore 5, 2) := by decide +kernel
theorem dX4_goOn_48 : decode cX4_goOn 48 = .ok (.iload 5, 2) := by decide +kernel
theorem dX4_goOn_50 : decode cX4_goOn 50 = .ok (.iload_n 3, 1) := by decide +kernel
theorem dX4_goOn_51 : decode cX4_goOn 51 = .ok (.if_icmp .ge 26, 3) := by decide +kernel
theorem dX4_goOn_54 : decode cX4_goOn 54 = .ok (.aload_n 0, 1) := by decide +kernel
theorem dX4_goOn_55 : decode cX4_goOn 55 = .ok (.getfield 30, 3) := by decide +kernel
theorem dX4_goOn_58 : decode cX4_goOn 58 = .ok (.iload_n 1, 1) := by decide +kernel
theorem dX4_goOn_59 : decode cX4_goOn 59 = .ok (.iaload, 1) := by decide +kernel
theorem dX4_goOn_60 : decode cX4_goOn 60 = .ok (.iconst 1, 1) := by decide +kernel
theorem dX4_goOn_61 : decode cX4_goOn 61 = .ok (.if_icmp .ne 16, 3) := by decide +kernel
theorem dX4_goOn_64 : decode cX4_goOn 64 = .ok (.aload_n 0, 1) := by decide +kernel
theorem dX4_goOn_65 : decode cX4_goOn 65 = .ok (.iload_n 1, 1) := by decide +kernel
theorem dX4_goOn_66 : decode cX4_goOn 66 = .ok (.iload 4, 2) := by decide +kernel
theorem dX4_goOn_68 : decode cX4_goOn 68 = .ok (.invokevirtual 113, 3) := by decide +kernel
theorem dX4_goOn_71 : decode cX4_goOn 71 = .ok (.iinc 5 1, 3) := by decide +kernel
theorem dX4_goOn_74 : decode cX4_goOn 74 = .ok (.goto (-26), 3) := by decide +kernel
theorem dX4_goOn_77 : decode cX4_goOn 77 = .ok (.aload_n 0, 1) := by decide +kernel
theorem dX4_goOn_78 : decode cX4_goOn 78 = .ok (.getfield 30, 3) := by decide +kernel
theorem dX4_goOn_81 : decode cX4_goOn 81 = .ok (.iload_n 1, 1) := by decide +kernel
theorem dX4_goOn_82 : decode cX4_goOn 82 = .ok (.iaload, 1) := by decide +kernel
theorem dX4_goOn_83 : decode cX4_goOn 83 = .ok (.iconst 1, 1) := by decide +kernel
theorem dX4_goOn_84 : decode cX4_goOn 84 = .ok (.if_icmp .ne 30, 3) := by decide +kernel
theorem dX4_goOn_87 : decode cX4_goOn 87 = .ok (.aload_n 0, 1) := by decide +kernel
theorem dX4_goOn_88 : decode cX4_goOn 88 = .ok (.getfield 24, 3) := by decide +kernel
theorem dX4_goOn_91 : decode cX4_goOn 91 = .ok (.iload_n 1, 1) := by decide +kernel
theorem dX4_goOn_92 : decode cX4_goOn 92 = .ok (.iaload, 1) := by decide +kernel
theorem dX4_goOn_93 : decode cX4_goOn 93 = .ok (.aload_n 0, 1) := by decide +kernel
theorem dX4_goOn_94 : decode cX4_goOn 94 = .ok (.getfield 9, 3) := by decide +kernel
theorem dX4_goOn_97 : decode cX4_goOn 97 = .ok (.aload_n 0, 1) := by decide +kernel
theorem dX4_goOn_98 : decode cX4_goOn 98 = .ok (.getfield 27, 3) := by decide +kernel
theorem dX4_goOn_101 : decode cX4_goOn 101 = .ok (.iload_n 1, 1) := by decide +kernel
theorem dX4_goOn_102 : decode cX4_goOn 102 = .ok (.iaload, 1) := by decide +kernel
theorem dX4_goOn_103 : decode cX4_goOn 103 = .ok (.iaload, 1) := by decide +kernel
theorem dX4_goOn_104 : decode cX4_goOn 104 = .ok (.if_icmp .le 10, 3) := by decide +kernel
theorem dX4_goOn_107 : decode cX4_goOn 107 = .ok (.aload_n 0, 1) := by decide +kernel
theorem dX4_goOn_108 : decode cX4_goOn 108 = .ok (.getfield 30, 3) := by decide +kernel
theorem dX4_goOn_111 : decode cX4_goOn 111 = .ok (.iload_n 1, 1) := by decide +kernel
theorem dX4_goOn_112 : decode cX4_goOn 112 = .ok (.iconst 2, 1) := by decide +kernel
theorem dX4_goOn_113 : decode cX4_goOn 113 = .ok (.iastore, 1) := by decide +kernel
theorem dX4_goOn_114 : decode cX4_goOn 114 = .ok (.return_, 1) := by decide +kernel
theorem dX4_comeToNext_0 : decode cX4_comeToNext 0 = .ok (.aload_n 0, 1) := by decide +kernel
