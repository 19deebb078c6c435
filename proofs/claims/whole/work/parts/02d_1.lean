theorem dX4_prepare_26 : decode cX4_prepare 26 = .ok (.aload_n 0, 1) := by decide +kernel
theorem dX4_prepare_27 : decode cX4_prepare 27 = .ok (.getfield 19, 3) := by decide +kernel
theorem dX4_prepare_30 : decode cX4_prepare 30 = .ok (.iconst 1, 1) := by decide +kernel
theorem dX4_prepare_31 : decode cX4_prepare 31 = .ok (.invokestatic 37, 3) := by decide +kernel
theorem dX4_prepare_34 : decode cX4_prepare 34 = .ok (.iconst 0, 1) := by decide +kernel
theorem dX4_prepare_35 : decode cX4_prepare 35 = .ok (.iastore, 1) := by decide +kernel
theorem dX4_prepare_36 : decode cX4_prepare 36 = .ok (.iconst 1, 1) := by decide +kernel
theorem dX4_prepare_37 : decode cX4_prepare 37 = .ok (.istore_n 3, 1) := by decide +kernel
theorem dX4_prepare_38 : decode cX4_prepare 38 = .ok (.iload_n 3, 1) := by decide +kernel
theorem dX4_prepare_39 : decode cX4_prepare 39 = .ok (.aload_n 0, 1) := by decide +kernel
theorem dX4_prepare_40 : decode cX4_prepare 40 = .ok (.getfield 19, 3) := by decide +kernel
theorem dX4_prepare_43 : decode cX4_prepare 43 = .ok (.if_icmp .ge 35, 3) := by decide +kernel
theorem dX4_prepare_46 : decode cX4_prepare 46 = .ok (.aload_n 0, 1) := by decide +kernel
theorem dX4_prepare_47 : decode cX4_prepare 47 = .ok (.getfield 9, 3) := by decide +kernel
theorem dX4_prepare_50 : decode cX4_prepare 50 = .ok (.iload_n 3, 1) := by decide +kernel
theorem dX4_prepare_51 : decode cX4_prepare 51 = .ok (.iconst 1, 1) := by decide +kernel
theorem dX4_prepare_52 : decode cX4_prepare 52 = .ok (.iadd, 1) := by decide +kernel
theorem dX4_prepare_53 : decode cX4_prepare 53 = .ok (.aload_n 0, 1) := by decide +kernel
theorem dX4_prepare_54 : decode cX4_prepare 54 = .ok (.aload_n 1, 1) := by decide +kernel
theorem dX4_prepare_55 : decode cX4_prepare 55 = .ok (.iload_n 2, 1) := by decide +kernel
theorem dX4_prepare_56 : decode cX4_prepare 56 = .ok (.aload_n 0, 1) := by decide +kernel
theorem dX4_prepare_57 : decode cX4_prepare 57 = .ok (.getfield 9, 3) := by decide +kernel
theorem dX4_prepare_60 : decode cX4_prepare 60 = .ok (.iload_n 3, 1) := by decide +kernel
theorem dX4_prepare_61 : decode cX4_prepare 61 = .ok (.iaload, 1) := by decide +kernel
theorem dX4_prepare_62 : decode cX4_prepare 62 = .ok (.aload_n 1, 1) := by decide +kernel
theorem dX4_prepare_63 : decode cX4_prepare 63 = .ok (.iload_n 2, 1) := by decide +kernel
theorem dX4_prepare_64 : decode cX4_prepare 64 = .ok (.iload_n 3, 1) := by decide +kernel
theorem dX4_prepare_65 : decode cX4_prepare 65 = .ok (.invokevirtual 29, 3) := by decide +kernel
theorem dX4_prepare_68 : decode cX4_prepare 68 = .ok (.invokevirtual 33, 3) := by decide +kernel
theorem dX4_prepare_71 : decode cX4_prepare 71 = .ok (.iastore, 1) := by decide +kernel
theorem dX4_prepare_72 : decode cX4_prepare 72 = .ok (.iinc 3 1, 3) := by decide +kernel
theorem dX4_prepare_75 : decode cX4_prepare 75 = .ok (.goto (-37), 3) := by decide +kernel
theorem dX4_prepare_78 : decode cX4_prepare 78 = .ok (.return_, 1) := by decide +kernel
theorem dX4_goOn_0 : decode cX4_goOn 0 = .ok (.iload_n 3, 1) := by decide +kernel
theorem dX4_goOn_1 : decode cX4_goOn 1 = .ok (.istore 5, 2) := by decide +kernel
theorem dX4_goOn_3 : decode cX4_goOn 3 = .ok (.iconst 0, 1) := by decide +kernel
theorem dX4_goOn_4 : decode cX4_goOn 4 = .ok (.istore 6, 2) := by decide +kernel
theorem dX4_goOn_6 : decode cX4_goOn 6 = .ok (.iload 6, 2) := by decide +kernel
theorem dX4_goOn_8 : decode cX4_goOn 8 = .ok (.sipush 600, 3) := by decide +kernel
theorem dX4_goOn_11 : decode cX4_goOn 11 = .ok (.if_icmp .gt 35, 3) := by decide +kernel
theorem dX4_goOn_14 : decode cX4_goOn 14 = .ok (.iload 5, 2) := by decide +kernel
theorem dX4_goOn_16 : decode cX4_goOn 16 = .ok (.ifCond .le 30, 3) := by decide +kernel
theorem dX4_goOn_19 : decode cX4_goOn 19 = .ok (.aload_n 1, 1) := by decide +kernel
theorem dX4_goOn_20 : decode cX4_goOn 20 = .ok (.iload_n 2, 1) := by decide +kernel
theorem dX4_goOn_21 : decode cX4_goOn 21 = .ok (.iload 5, 2) := by decide +kernel
theorem dX4_goOn_23 : decode cX4_goOn 23 = .ok (.invokevirtual 29, 3) := by decide +kernel
theorem dX4_goOn_26 : decode cX4_goOn 26 = .ok (.iload 4, 2) := by decide +kernel
theorem dX4_goOn_28 : decode cX4_goOn 28 = .ok (.if_icmp .eq 18, 3) := by decide +kernel
theorem dX4_goOn_31 : decode cX4_goOn 31 = .ok (.aload_n 0, 1) := by decide +kernel
theorem dX4_goOn_32 : decode cX4_goOn 32 = .ok (.getfield 9, 3) := by decide +kernel
theorem dX4_goOn_35 : decode cX4_goOn 35 = .ok (.iload 5, 2) := by decide +kernel
theorem dX4_goOn_37 : decode cX4_goOn 37 = .ok (.iaload, 1) := by decide +kernel
theorem dX4_goOn_38 : decode cX4_goOn 38 = .ok (.istore 5, 2) := by decide +kernel
theorem dX4_goOn_40 : decode cX4_goOn 40 = .ok (.iinc 6 1, 3) := by decide +kernel
theorem dX4_goOn_43 : decode cX4_goOn 43 = .ok (.goto (-37), 3) := by decide +kernel
theorem dX4_goOn_46 : decode cX4_goOn 46 = .ok (.aload_n 1, 1) := by decide +kernel
theorem dX4_goOn_47 : decode cX4_goOn 47 = .ok (.iload_n 2, 1) := by decide +kernel
theorem dX4_goOn_48 : decode cX4_goOn 48 = .ok (.iload 5, 2) := by decide +kernel
theorem dX4_goOn_50 : decode cX4_goOn 50 = .ok (.invokevirtual 29, 3) := by decide +kernel
theorem dX4_goOn_53 : decode cX4_goOn 53 = .ok (.iload 4, 2) := by decide +kernel
theorem dX4_goOn_55 : decode cX4_goOn 55 = .ok (.if_icmp .ne 10, 3) := by decide +kernel
theorem dX4_goOn_58 : decode cX4_goOn 58 = .ok (.iload 5, 2) := by decide +kernel
theorem dX4_goOn_60 : decode cX4_goOn 60 = .ok (.iconst 1, 1) := by decide +kernel
theorem dX4_goOn_61 : decode cX4_goOn 61 = .ok (.iadd, 1) := by decide +kernel
theorem dX4_goOn_62 : decode cX4_goOn 62 = .ok (.goto 4, 3) := by decide +kernel
theorem dX4_goOn_65 : decode cX4_goOn 65 = .ok (.iconst 0, 1) := by decide +kernel
theorem dX4_goOn_66 : decode cX4_goOn 66 = .ok (.ireturn, 1) := by decide +kernel
theorem dX5_init_0 : decode cX5_init 0 = .ok (.aload_n 0, 1) := by decide +kernel
theorem dX5_init_1 : decode cX5_init 1 = .ok (.invokespecial 3, 3) := by decide +kernel
theorem dX5_init_4 : decode cX5_init 4 = .ok (.aload_n 0, 1) := by decide +kernel
theorem dX5_init_5 : decode cX5_init 5 = .ok (.sipush 4800, 3) := by decide +kernel
theorem dX5_init_8 : decode cX5_init 8 = .ok (.newarray .byte, 2) := by decide +kernel
theorem dX5_init_10 : decode cX5_init 10 = .ok (.putfield 9, 3) := by decide +kernel
theorem dX5_init_13 : decode cX5_init 13 = .ok (.aload_n 0, 1) := by decide +kernel
theorem dX5_init_14 : decode cX5_init 14 = .ok (.bipush 8, 2) := by decide +kernel
theorem dX5_init_16 : decode cX5_init 16 = .ok (.newarray .int, 2) := by decide +kernel
theorem dX5_init_18 : decode cX5_init 18 = .ok (.putfield 15, 3) := by decide +kernel
theorem dX5_init_21 : decode cX5_init 21 = .ok (.aload_n 0, 1) := by decide +kernel
theorem dX5_init_22 : decode cX5_init 22 = .ok (.bipush 8, 2) := by decide +kernel
theorem dX5_init_24 : decode cX5_init 24 = .ok (.newarray .int, 2) := by decide +kernel
theorem dX5_init_26 : decode cX5_init 26 = .ok (.putfield 19, 3) := by decide +kernel
theorem dX5_init_29 : decode cX5_init 29 = .ok (.aload_n 0, 1) := by decide +kernel
theorem dX5_init_30 : decode cX5_init 30 = .ok (.bipush 8, 2) := by decide +kernel
theorem dX5_init_32 : decode cX5_init 32 = .ok (.newarray .int, 2) := by decide +kernel
theorem dX5_init_34 : decode cX5_init 34 = .ok (.putfield 22, 3) := by decide +kernel
theorem dX5_init_37 : decode cX5_init 37 = .ok (.aload_n 0, 1) := by decide +kernel
theorem dX5_init_38 : decode cX5_init 38 = .ok (.iconst (-1), 1) := by decide +kernel
theorem dX5_init_39 : decode cX5_init 39 = .ok (.putfield 25, 3) := by decide +kernel
theorem dX5_init_42 : decode cX5_init 42 = .ok (.return_, 1) := by decide +kernel
theorem dX5_has_0 : decode cX5_has 0 = .ok (.iload_n 1, 1) := by decide +kernel
theorem dX5_has_1 : decode cX5_has 1 = .ok (.ifCond .lt 21, 3) := by decide +kernel
theorem dX5_has_4 : decode cX5_has 4 = .ok (.iload_n 1, 1) := by decide +kernel
theorem dX5_has_5 : decode cX5_has 5 = .ok (.aload_n 0, 1) := by decide +kernel
theorem dX5_has_6 : decode cX5_has 6 = .ok (.getfield 29, 3) := by decide +kernel
theorem dX5_has_9 : decode cX5_has 9 = .ok (.if_icmp .ge 13, 3) := by decide +kernel
theorem dX5_has_12 : decode cX5_has 12 = .ok (.iload_n 1, 1) := by decide +kernel
theorem dX5_has_13 : decode cX5_has 13 = .ok (.bipush 8, 2) := by decide +kernel
theorem dX5_has_15 : decode cX5_has 15 = .ok (.if_icmp .ge 7, 3) := by decide +kernel
theorem dX5_has_18 : decode cX5_has 18 = .ok (.iconst 1, 1) := by decide +kernel
theorem dX5_has_19 : decode cX5_has 19 = .ok (.goto 4, 3) := by decide +kernel
theorem dX5_has_22 : decode cX5_has 22 = .ok (.iconst 0, 1) := by decide +kernel
theorem dX5_has_23 : decode cX5_has 23 = .ok (.ireturn, 1) := by decide +kernel
theorem dX5_lengthOf_0 : decode cX5_lengthOf 0 = .ok (.aload_n 0, 1) := by decide +kernel
theorem dX5_lengthOf_1 : decode cX5_lengthOf 1 = .ok (.iload_n 1, 1) := by decide +kernel
theorem dX5_lengthOf_2 : decode cX5_lengthOf 2 = .ok (.invokevirtual 32, 3) := by decide +kernel
theorem dX5_lengthOf_5 : decode cX5_lengthOf 5 = .ok (.ifCond .eq 12, 3) := by decide +kernel
theorem dX5_lengthOf_8 : decode cX5_lengthOf 8 = .ok (.aload_n 0, 1) := by decide +kernel
theorem dX5_lengthOf_9 : decode cX5_lengthOf 9 = .ok (.getfield 15, 3) := by decide +kernel
theorem dX5_lengthOf_12 : decode cX5_lengthOf 12 = .ok (.iload_n 1, 1) := by decide +kernel
theorem dX5_lengthOf_13 : decode cX5_lengthOf 13 = .ok (.iaload, 1) := by decide +kernel
theorem dX5_lengthOf_14 : decode cX5_lengthOf 14 = .ok (.goto 4, 3) := by decide +kernel
theorem dX5_lengthOf_17 : decode cX5_lengthOf 17 = .ok (.iconst 0, 1) := by decide +kernel
theorem dX5_lengthOf_18 : decode cX5_lengthOf 18 = .ok (.ireturn, 1) := by decide +kernel
theorem dX5_topOf_0 : decode cX5_topOf 0 = .ok (.aload_n 0, 1) := by decide +kernel
theorem dX5_topOf_1 : decode cX5_topOf 1 = .ok (.iload_n 1, 1) := by decide +kernel
theorem dX5_topOf_2 : decode cX5_topOf 2 = .ok (.invokevirtual 32, 3) := by decide +kernel
theorem dX5_topOf_5 : decode cX5_topOf 5 = .ok (.ifCond .eq 12, 3) := by decide +kernel
theorem dX5_topOf_8 : decode cX5_topOf 8 = .ok (.aload_n 0, 1) := by decide +kernel
theorem dX5_topOf_9 : decode cX5_topOf 9 = .ok (.getfield 19, 3) := by decide +kernel
theorem dX5_topOf_12 : decode cX5_topOf 12 = .ok (.iload_n 1, 1) := by decide +kernel
theorem dX5_topOf_13 : decode cX5_topOf 13 = .ok (.iaload, 1) := by decide +kernel
theorem dX5_topOf_14 : decode cX5_topOf 14 = .ok (.goto 4, 3) := by decide +kernel
theorem dX5_topOf_17 : decode cX5_topOf 17 = .ok (.iconst (-1), 1) := by decide +kernel
theorem dX5_topOf_18 : decode cX5_topOf 18 = .ok (.ireturn, 1) := by decide +kernel
theorem dX5_roundsOf_0 : decode cX5_roundsOf 0 = .ok (.aload_n 0, 1) := by decide +kernel
theorem dX5_roundsOf_1 : decode cX5_roundsOf 1 = .ok (.iload_n 1, 1) := by decide +kernel
theorem dX5_roundsOf_2 : decode cX5_roundsOf 2 = .ok (.invokevirtual 32, 3) := by decide +kernel
theorem dX5_roundsOf_5 : decode cX5_roundsOf 5 = .ok (.ifCond .eq 12, 3) := by decide +kernel
theorem dX5_roundsOf_8 : decode cX5_roundsOf 8 = .ok (.aload_n 0, 1) := by decide +kernel
theorem dX5_roundsOf_9 : decode cX5_roundsOf 9 = .ok (.getfield 22, 3) := by decide +kernel
theorem dX5_roundsOf_12 : decode cX5_roundsOf 12 = .ok (.iload_n 1, 1) := by decide +kernel
theorem dX5_roundsOf_13 : decode cX5_roundsOf 13 = .ok (.iaload, 1) := by decide +kernel
theorem dX5_roundsOf_14 : decode cX5_roundsOf 14 = .ok (.goto 4, 3) := by decide +kernel
theorem dX5_roundsOf_17 : decode cX5_roundsOf 17 = .ok (.iconst 0, 1) := by decide +kernel
theorem dX5_roundsOf_18 : decode cX5_roundsOf 18 = .ok (.ireturn, 1) := by decide +kernel
theorem dX5_setTop_0 : decode cX5_setTop 0 = .ok (.aload_n 0, 1) := by decide +kernel
theorem dX5_setTop_1 : decode cX5_setTop 1 = .ok (.iload_n 1, 1) := by decide +kernel
theorem dX5_setTop_2 : decode cX5_setTop 2 = .ok (.invokevirtual 32, 3) := by decide +kernel
theorem dX5_setTop_5 : decode cX5_setTop 5 = .ok (.ifCond .eq 17, 3) := by decide +kernel
theorem dX5_setTop_8 : decode cX5_setTop 8 = .ok (.aload_n 0, 1) := by decide +kernel
theorem dX5_setTop_9 : decode cX5_setTop 9 = .ok (.getfield 19, 3) := by decide +kernel
theorem dX5_setTop_12 : decode cX5_setTop 12 = .ok (.iload_n 1, 1) := by decide +kernel
theorem dX5_setTop_13 : decode cX5_setTop 13 = .ok (.iload_n 2, 1) := by decide +kernel
theorem dX5_setTop_14 : decode cX5_setTop 14 = .ok (.iastore, 1) := by decide +kernel
theorem dX5_setTop_15 : decode cX5_setTop 15 = .ok (.aload_n 0, 1) := by decide +kernel
theorem dX5_setTop_16 : decode cX5_setTop 16 = .ok (.getfield 22, 3) := by decide +kernel
theorem dX5_setTop_19 : decode cX5_setTop 19 = .ok (.iload_n 1, 1) := by decide +kernel
theorem dX5_setTop_20 : decode cX5_setTop 20 = .ok (.iload_n 3, 1) := by decide +kernel
theorem dX5_setTop_21 : decode cX5_setTop 21 = .ok (.iastore, 1) := by decide +kernel
theorem dX5_setTop_22 : decode cX5_setTop 22 = .ok (.return_, 1) := by decide +kernel
theorem dX5_at_0 : decode cX5_at 0 = .ok (.aload_n 0, 1) := by decide +kernel
theorem dX5_at_1 : decode cX5_at 1 = .ok (.iload_n 1, 1) := by decide +kernel
theorem dX5_at_2 : decode cX5_at 2 = .ok (.invokevirtual 32, 3) := by decide +kernel
theorem dX5_at_5 : decode cX5_at 5 = .ok (.ifCond .eq 32, 3) := by decide +kernel
theorem dX5_at_8 : decode cX5_at 8 = .ok (.iload_n 2, 1) := by decide +kernel
theorem dX5_at_9 : decode cX5_at 9 = .ok (.ifCond .lt 28, 3) := by decide +kernel
theorem dX5_at_12 : decode cX5_at 12 = .ok (.iload_n 2, 1) := by decide +kernel
theorem dX5_at_13 : decode cX5_at 13 = .ok (.aload_n 0, 1) := by decide +kernel
theorem dX5_at_14 : decode cX5_at 14 = .ok (.getfield 15, 3) := by decide +kernel
theorem dX5_at_17 : decode cX5_at 17 = .ok (.iload_n 1, 1) := by decide +kernel
theorem dX5_at_18 : decode cX5_at 18 = .ok (.iaload, 1) := by decide +kernel
theorem dX5_at_19 : decode cX5_at 19 = .ok (.if_icmp .ge 18, 3) := by decide +kernel
theorem dX5_at_22 : decode cX5_at 22 = .ok (.aload_n 0, 1) := by decide +kernel
theorem dX5_at_23 : decode cX5_at 23 = .ok (.getfield 9, 3) := by decide +kernel
theorem dX5_at_26 : decode cX5_at 26 = .ok (.iload_n 1, 1) := by decide +kernel
theorem dX5_at_27 : decode cX5_at 27 = .ok (.sipush 600, 3) := by decide +kernel
theorem dX5_at_30 : decode cX5_at 30 = .ok (.imul, 1) := by decide +kernel
theorem dX5_at_31 : decode cX5_at 31 = .ok (.iload_n 2, 1) := by decide +kernel
theorem dX5_at_32 : decode cX5_at 32 = .ok (.iadd, 1) := by decide +kernel
theorem dX5_at_33 : decode cX5_at 33 = .ok (.baload, 1) := by decide +kernel
theorem dX5_at_34 : decode cX5_at 34 = .ok (.goto 4, 3) := by decide +kernel
theorem dX5_at_37 : decode cX5_at 37 = .ok (.iconst (-1), 1) := by decide +kernel
theorem dX5_at_38 : decode cX5_at 38 = .ok (.ireturn, 1) := by decide +kernel
theorem dX5_reaches_0 : decode cX5_reaches 0 = .ok (.aload_n 0, 1) := by decide +kernel
theorem dX5_reaches_1 : decode cX5_reaches 1 = .ok (.iload_n 1, 1) := by decide +kernel
theorem dX5_reaches_2 : decode cX5_reaches 2 = .ok (.invokevirtual 32, 3) := by decide +kernel
theorem dX5_reaches_5 : decode cX5_reaches 5 = .ok (.ifCond .eq 33, 3) := by decide +kernel
theorem dX5_reaches_8 : decode cX5_reaches 8 = .ok (.iload_n 2, 1) := by decide +kernel
theorem dX5_reaches_9 : decode cX5_reaches 9 = .ok (.ifCond .lt 29, 3) := by decide +kernel
theorem dX5_reaches_12 : decode cX5_reaches 12 = .ok (.iload_n 2, 1) := by decide +kernel
theorem dX5_reaches_13 : decode cX5_reaches 13 = .ok (.aload_n 0, 1) := by decide +kernel
theorem dX5_reaches_14 : decode cX5_reaches 14 = .ok (.getfield 15, 3) := by decide +kernel
theorem dX5_reaches_17 : decode cX5_reaches 17 = .ok (.iload_n 1, 1) := by decide +kernel
theorem dX5_reaches_18 : decode cX5_reaches 18 = .ok (.iaload, 1) := by decide +kernel
theorem dX5_reaches_19 : decode cX5_reaches 19 = .ok (.if_icmp .gt 19, 3) := by decide +kernel
theorem dX5_reaches_22 : decode cX5_reaches 22 = .ok (.iload_n 3, 1) := by decide +kernel
theorem dX5_reaches_23 : decode cX5_reaches 23 = .ok (.aload_n 0, 1) := by decide +kernel
theorem dX5_reaches_24 : decode cX5_reaches 24 = .ok (.getfield 15, 3) := by decide +kernel
theorem dX5_reaches_27 : decode cX5_reaches 27 = .ok (.iload_n 1, 1) := by decide +kernel
theorem dX5_reaches_28 : decode cX5_reaches 28 = .ok (.iaload, 1) := by decide +kernel
theorem dX5_reaches_29 : decode cX5_reaches 29 = .ok (.iload_n 2, 1) := by decide +kernel
theorem dX5_reaches_30 : decode cX5_reaches 30 = .ok (.isub, 1) := by decide +kernel
theorem dX5_reaches_31 : decode cX5_reaches 31 = .ok (.if_icmp .gt 7, 3) := by decide +kernel
theorem dX5_reaches_34 : decode cX5_reaches 34 = .ok (.iconst 1, 1) := by decide +kernel
theorem dX5_reaches_35 : decode cX5_reaches 35 = .ok (.goto 4, 3) := by decide +kernel
theorem dX5_reaches_38 : decode cX5_reaches 38 = .ok (.iconst 0, 1) := by decide +kernel
theorem dX5_reaches_39 : decode cX5_reaches 39 = .ok (.ireturn, 1) := by decide +kernel
theorem dX5_allLetters_0 : decode cX5_allLetters 0 = .ok (.iconst 0, 1) := by decide +kernel
theorem dX5_allLetters_1 : decode cX5_allLetters 1 = .ok (.istore_n 1, 1) := by decide +kernel
theorem dX5_allLetters_2 : decode cX5_allLetters 2 = .ok (.iconst 0, 1) := by decide +kernel
theorem dX5_allLetters_3 : decode cX5_allLetters 3 = .ok (.istore_n 2, 1) := by decide +kernel
theorem dX5_allLetters_4 : decode cX5_allLetters 4 = .ok (.iload_n 2, 1) := by decide +kernel
theorem dX5_allLetters_5 : decode cX5_allLetters 5 = .ok (.aload_n 0, 1) := by decide +kernel
theorem dX5_allLetters_6 : decode cX5_allLetters 6 = .ok (.getfield 29, 3) := by decide +kernel
theorem dX5_allLetters_9 : decode cX5_allLetters 9 = .ok (.if_icmp .ge 17, 3) := by decide +kernel
theorem dX5_allLetters_12 : decode cX5_allLetters 12 = .ok (.iload_n 1, 1) := by decide +kernel
theorem dX5_allLetters_13 : decode cX5_allLetters 13 = .ok (.aload_n 0, 1) := by decide +kernel
theorem dX5_allLetters_14 : decode cX5_allLetters 14 = .ok (.iload_n 2, 1) := by decide +kernel
theorem dX5_allLetters_15 : decode cX5_allLetters 15 = .ok (.invokevirtual 36, 3) := by decide +kernel
theorem dX5_allLetters_18 : decode cX5_allLetters 18 = .ok (.iadd, 1) := by decide +kernel
theorem dX5_allLetters_19 : decode cX5_allLetters 19 = .ok (.istore_n 1, 1) := by decide +kernel
theorem dX5_allLetters_20 : decode cX5_allLetters 20 = .ok (.iinc 2 1, 3) := by decide +kernel
theorem dX5_allLetters_23 : decode cX5_allLetters 23 = .ok (.goto (-19), 3) := by decide +kernel
theorem dX5_allLetters_26 : decode cX5_allLetters 26 = .ok (.iload_n 1, 1) := by decide +kernel
theorem dX5_allLetters_27 : decode cX5_allLetters 27 = .ok (.ireturn, 1) := by decide +kernel
theorem dX5_copy_0 : decode cX5_copy 0 = .ok (.iconst 0, 1) := by decide +kernel
theorem dX5_copy_1 : decode cX5_copy 1 = .ok (.istore_n 2, 1) := by decide +kernel
theorem dX5_copy_2 : decode cX5_copy 2 = .ok (.iload_n 2, 1) := by decide +kernel
theorem dX5_copy_3 : decode cX5_copy 3 = .ok (.aload_n 1, 1) := by decide +kernel
theorem dX5_copy_4 : decode cX5_copy 4 = .ok (.getfield 29, 3) := by decide +kernel
theorem dX5_copy_7 : decode cX5_copy 7 = .ok (.if_icmp .ge 16, 3) := by decide +kernel
theorem dX5_copy_10 : decode cX5_copy 10 = .ok (.aload_n 0, 1) := by decide +kernel
theorem dX5_copy_11 : decode cX5_copy 11 = .ok (.aload_n 1, 1) := by decide +kernel
theorem dX5_copy_12 : decode cX5_copy 12 = .ok (.iload_n 2, 1) := by decide +kernel
theorem dX5_copy_13 : decode cX5_copy 13 = .ok (.iload_n 2, 1) := by decide +kernel
theorem dX5_copy_14 : decode cX5_copy 14 = .ok (.invokevirtual 40, 3) := by decide +kernel
theorem dX5_copy_17 : decode cX5_copy 17 = .ok (.iinc 2 1, 3) := by decide +kernel
theorem dX5_copy_20 : decode cX5_copy 20 = .ok (.goto (-18), 3) := by decide +kernel
theorem dX5_copy_23 : decode cX5_copy 23 = .ok (.aload_n 0, 1) := by decide +kernel
theorem dX5_copy_24 : decode cX5_copy 24 = .ok (.aload_n 1, 1) := by decide +kernel
theorem dX5_copy_25 : decode cX5_copy 25 = .ok (.getfield 29, 3) := by decide +kernel
theorem dX5_copy_28 : decode cX5_copy 28 = .ok (.putfield 29, 3) := by decide +kernel
theorem dX5_copy_31 : decode cX5_copy 31 = .ok (.aload_n 0, 1) := by decide +kernel
theorem dX5_copy_32 : decode cX5_copy 32 = .ok (.aload_n 1, 1) := by decide +kernel
theorem dX5_copy_33 : decode cX5_copy 33 = .ok (.getfield 25, 3) := by decide +kernel
theorem dX5_copy_36 : decode cX5_copy 36 = .ok (.putfield 25, 3) := by decide +kernel
theorem dX5_copy_39 : decode cX5_copy 39 = .ok (.return_, 1) := by decide +kernel
theorem dX5_copyText_0 : decode cX5_copyText 0 = .ok (.aload_n 1, 1) := by decide +kernel
theorem dX5_copyText_1 : decode cX5_copyText 1 = .ok (.iload_n 2, 1) := by decide +kernel
theorem dX5_copyText_2 : decode cX5_copyText 2 = .ok (.invokevirtual 32, 3) := by decide +kernel
theorem dX5_copyText_5 : decode cX5_copyText 5 = .ok (.ifCond .eq 13, 3) := by decide +kernel
theorem dX5_copyText_8 : decode cX5_copyText 8 = .ok (.iload_n 3, 1) := by decide +kernel
theorem dX5_copyText_9 : decode cX5_copyText 9 = .ok (.ifCond .lt 9, 3) := by decide +kernel
theorem dX5_copyText_12 : decode cX5_copyText 12 = .ok (.iload_n 3, 1) := by decide +kernel
theorem dX5_copyText_13 : decode cX5_copyText 13 = .ok (.bipush 8, 2) := by decide +kernel
theorem dX5_copyText_15 : decode cX5_copyText 15 = .ok (.if_icmp .lt 4, 3) := by decide +kernel
theorem dX5_copyText_18 : decode cX5_copyText 18 = .ok (.return_, 1) := by decide +kernel
theorem dX5_copyText_19 : decode cX5_copyText 19 = .ok (.aload_n 1, 1) := by decide +kernel
theorem dX5_copyText_20 : decode cX5_copyText 20 = .ok (.getfield 9, 3) := by decide +kernel
theorem dX5_copyText_23 : decode cX5_copyText 23 = .ok (.iload_n 2, 1) := by decide +kernel
theorem dX5_copyText_24 : decode cX5_copyText 24 = .ok (.sipush 600, 3) := by decide +kernel
theorem dX5_copyText_27 : decode cX5_copyText 27 = .ok (.imul, 1) := by decide +kernel
theorem dX5_copyText_28 : decode cX5_copyText 28 = .ok (.aload_n 0, 1) := by decide +kernel
theorem dX5_copyText_29 : decode cX5_copyText 29 = .ok (.getfield 9, 3) := by decide +kernel
theorem dX5_copyText_32 : decode cX5_copyText 32 = .ok (.iload_n 3, 1) := by decide +kernel
theorem dX5_copyText_33 : decode cX5_copyText 33 = .ok (.sipush 600, 3) := by decide +kernel
theorem dX5_copyText_36 : decode cX5_copyText 36 = .ok (.imul, 1) := by decide +kernel
theorem dX5_copyText_37 : decode cX5_copyText 37 = .ok (.aload_n 1, 1) := by decide +kernel
theorem dX5_copyText_38 : decode cX5_copyText 38 = .ok (.getfield 15, 3) := by decide +kernel
theorem dX5_copyText_41 : decode cX5_copyText 41 = .ok (.iload_n 2, 1) := by decide +kernel
theorem dX5_copyText_42 : decode cX5_copyText 42 = .ok (.iaload, 1) := by decide +kernel
theorem dX5_copyText_43 : decode cX5_copyText 43 = .ok (.invokestatic 44, 3) := by decide +kernel
theorem dX5_copyText_46 : decode cX5_copyText 46 = .ok (.aload_n 0, 1) := by decide +kernel
theorem dX5_copyText_47 : decode cX5_copyText 47 = .ok (.getfield 15, 3) := by decide +kernel
theorem dX5_copyText_50 : decode cX5_copyText 50 = .ok (.iload_n 3, 1) := by decide +kernel
theorem dX5_copyText_51 : decode cX5_copyText 51 = .ok (.aload_n 1, 1) := by decide +kernel
theorem dX5_copyText_52 : decode cX5_copyText 52 = .ok (.getfield 15, 3) := by decide +kernel
theorem dX5_copyText_55 : decode cX5_copyText 55 = .ok (.iload_n 2, 1) := by decide +kernel
theorem dX5_copyText_56 : decode cX5_copyText 56 = .ok (.iaload, 1) := by decide +kernel
theorem dX5_copyText_57 : decode cX5_copyText 57 = .ok (.iastore, 1) := by decide +kernel
theorem dX5_copyText_58 : decode cX5_copyText 58 = .ok (.aload_n 0, 1) := by decide +kernel
theorem dX5_copyText_59 : decode cX5_copyText 59 = .ok (.getfield 19, 3) := by decide +kernel
theorem dX5_copyText_62 : decode cX5_copyText 62 = .ok (.iload_n 3, 1) := by decide +kernel
theorem dX5_copyText_63 : decode cX5_copyText 63 = .ok (.aload_n 1, 1) := by decide +kernel
theorem dX5_copyText_64 : decode cX5_copyText 64 = .ok (.getfield 19, 3) := by decide +kernel
theorem dX5_copyText_67 : decode cX5_copyText 67 = .ok (.iload_n 2, 1) := by decide +kernel
theorem dX5_copyText_68 : decode cX5_copyText 68 = .ok (.iaload, 1) := by decide +kernel
theorem dX5_copyText_69 : decode cX5_copyText 69 = .ok (.iastore, 1) := by decide +kernel
theorem dX5_copyText_70 : decode cX5_copyText 70 = .ok (.aload_n 0, 1) := by decide +kernel
theorem dX5_copyText_71 : decode cX5_copyText 71 = .ok (.getfield 22, 3) := by decide +kernel
theorem dX5_copyText_74 : decode cX5_copyText 74 = .ok (.iload_n 3, 1) := by decide +kernel
theorem dX5_copyText_75 : decode cX5_copyText 75 = .ok (.aload_n 1, 1) := by decide +kernel
theorem dX5_copyText_76 : decode cX5_copyText 76 = .ok (.getfield 22, 3) := by decide +kernel
theorem dX5_copyText_79 : decode cX5_copyText 79 = .ok (.iload_n 2, 1) := by decide +kernel
theorem dX5_copyText_80 : decode cX5_copyText 80 = .ok (.iaload, 1) := by decide +kernel
theorem dX5_copyText_81 : decode cX5_copyText 81 = .ok (.iastore, 1) := by decide +kernel
theorem dX5_copyText_82 : decode cX5_copyText 82 = .ok (.return_, 1) := by decide +kernel
theorem dX5_write_0 : decode cX5_write 0 = .ok (.iload_n 1, 1) := by decide +kernel
theorem dX5_write_1 : decode cX5_write 1 = .ok (.ifCond .lt 27, 3) := by decide +kernel
theorem dX5_write_4 : decode cX5_write 4 = .ok (.iload_n 1, 1) := by decide +kernel
theorem dX5_write_5 : decode cX5_write 5 = .ok (.aload_n 0, 1) := by decide +kernel
theorem dX5_write_6 : decode cX5_write 6 = .ok (.getfield 29, 3) := by decide +kernel
theorem dX5_write_9 : decode cX5_write 9 = .ok (.if_icmp .gt 19, 3) := by decide +kernel
theorem dX5_write_12 : decode cX5_write 12 = .ok (.iload_n 1, 1) := by decide +kernel
theorem dX5_write_13 : decode cX5_write 13 = .ok (.bipush 8, 2) := by decide +kernel
theorem dX5_write_15 : decode cX5_write 15 = .ok (.if_icmp .ge 13, 3) := by decide +kernel
theorem dX5_write_18 : decode cX5_write 18 = .ok (.aload_n 2, 1) := by decide +kernel
theorem dX5_write_19 : decode cX5_write 19 = .ok (.getfield 50, 3) := by decide +kernel
theorem dX5_write_22 : decode cX5_write 22 = .ok (.sipush 600, 3) := by decide +kernel
theorem dX5_write_25 : decode cX5_write 25 = .ok (.if_icmp .le 4, 3) := by decide +kernel
theorem dX5_write_28 : decode cX5_write 28 = .ok (.return_, 1) := by decide +kernel
theorem dX5_write_29 : decode cX5_write 29 = .ok (.aload_n 2, 1) := by decide +kernel
theorem dX5_write_30 : decode cX5_write 30 = .ok (.getfield 55, 3) := by decide +kernel
theorem dX5_write_33 : decode cX5_write 33 = .ok (.iconst 0, 1) := by decide +kernel
theorem dX5_write_34 : decode cX5_write 34 = .ok (.aload_n 0, 1) := by decide +kernel
theorem dX5_write_35 : decode cX5_write 35 = .ok (.getfield 9, 3) := by decide +kernel
theorem dX5_write_38 : decode cX5_write 38 = .ok (.iload_n 1, 1) := by decide +kernel
theorem dX5_write_39 : decode cX5_write 39 = .ok (.sipush 600, 3) := by decide +kernel
theorem dX5_write_42 : decode cX5_write 42 = .ok (.imul, 1) := by decide +kernel
theorem dX5_write_43 : decode cX5_write 43 = .ok (.aload_n 2, 1) := by decide +kernel
theorem dX5_write_44 : decode cX5_write 44 = .ok (.getfield 50, 3) := by decide +kernel
theorem dX5_write_47 : decode cX5_write 47 = .ok (.invokestatic 44, 3) := by decide +kernel
theorem dX5_write_50 : decode cX5_write 50 = .ok (.aload_n 0, 1) := by decide +kernel
theorem dX5_write_51 : decode cX5_write 51 = .ok (.getfield 15, 3) := by decide +kernel
theorem dX5_write_54 : decode cX5_write 54 = .ok (.iload_n 1, 1) := by decide +kernel
theorem dX5_write_55 : decode cX5_write 55 = .ok (.aload_n 2, 1) := by decide +kernel
theorem dX5_write_56 : decode cX5_write 56 = .ok (.getfield 50, 3) := by decide +kernel
theorem dX5_write_59 : decode cX5_write 59 = .ok (.iastore, 1) := by decide +kernel
theorem dX5_write_60 : decode cX5_write 60 = .ok (.aload_n 0, 1) := by decide +kernel
theorem dX5_write_61 : decode cX5_write 61 = .ok (.aload_n 0, 1) := by decide +kernel
theorem dX5_write_62 : decode cX5_write 62 = .ok (.getfield 29, 3) := by decide +kernel
theorem dX5_write_65 : decode cX5_write 65 = .ok (.iload_n 1, 1) := by decide +kernel
theorem dX5_write_66 : decode cX5_write 66 = .ok (.iconst 1, 1) := by decide +kernel
theorem dX5_write_67 : decode cX5_write 67 = .ok (.iadd, 1) := by decide +kernel
theorem dX5_write_68 : decode cX5_write 68 = .ok (.invokestatic 56, 3) := by decide +kernel
theorem dX5_write_71 : decode cX5_write 71 = .ok (.putfield 29, 3) := by decide +kernel
theorem dX5_write_74 : decode cX5_write 74 = .ok (.return_, 1) := by decide +kernel
theorem dX5_remove_0 : decode cX5_remove 0 = .ok (.aload_n 0, 1) := by decide +kernel
theorem dX5_remove_1 : decode cX5_remove 1 = .ok (.iload_n 1, 1) := by decide +kernel
theorem dX5_remove_2 : decode cX5_remove 2 = .ok (.invokevirtual 32, 3) := by decide +kernel
theorem dX5_remove_5 : decode cX5_remove 5 = .ok (.ifCond .ne 4, 3) := by decide +kernel
theorem dX5_remove_8 : decode cX5_remove 8 = .ok (.return_, 1) := by decide +kernel
theorem dX5_remove_9 : decode cX5_remove 9 = .ok (.iload_n 1, 1) := by decide +kernel
theorem dX5_remove_10 : decode cX5_remove 10 = .ok (.iconst 1, 1) := by decide +kernel
theorem dX5_remove_11 : decode cX5_remove 11 = .ok (.iadd, 1) := by decide +kernel
theorem dX5_remove_12 : decode cX5_remove 12 = .ok (.istore_n 2, 1) := by decide +kernel
theorem dX5_remove_13 : decode cX5_remove 13 = .ok (.iload_n 2, 1) := by decide +kernel
theorem dX5_remove_14 : decode cX5_remove 14 = .ok (.aload_n 0, 1) := by decide +kernel
theorem dX5_remove_15 : decode cX5_remove 15 = .ok (.getfield 29, 3) := by decide +kernel
theorem dX5_remove_18 : decode cX5_remove 18 = .ok (.if_icmp .ge 18, 3) := by decide +kernel
theorem dX5_remove_21 : decode cX5_remove 21 = .ok (.aload_n 0, 1) := by decide +kernel
theorem dX5_remove_22 : decode cX5_remove 22 = .ok (.aload_n 0, 1) := by decide +kernel
theorem dX5_remove_23 : decode cX5_remove 23 = .ok (.iload_n 2, 1) := by decide +kernel
theorem dX5_remove_24 : decode cX5_remove 24 = .ok (.iload_n 2, 1) := by decide +kernel
theorem dX5_remove_25 : decode cX5_remove 25 = .ok (.iconst 1, 1) := by decide +kernel
theorem dX5_remove_26 : decode cX5_remove 26 = .ok (.isub, 1) := by decide +kernel
theorem dX5_remove_27 : decode cX5_remove 27 = .ok (.invokevirtual 40, 3) := by decide +kernel
theorem dX5_remove_30 : decode cX5_remove 30 = .ok (.iinc 2 1, 3) := by decide +kernel
theorem dX5_remove_33 : decode cX5_remove 33 = .ok (.goto (-20), 3) := by decide +kernel
theorem dX5_remove_36 : decode cX5_remove 36 = .ok (.aload_n 0, 1) := by decide +kernel
theorem dX5_remove_37 : decode cX5_remove 37 = .ok (.dup, 1) := by decide +kernel
theorem dX5_remove_38 : decode cX5_remove 38 = .ok (.getfield 29, 3) := by decide +kernel
theorem dX5_remove_41 : decode cX5_remove 41 = .ok (.iconst 1, 1) := by decide +kernel
theorem dX5_remove_42 : decode cX5_remove 42 = .ok (.isub, 1) := by decide +kernel
theorem dX5_remove_43 : decode cX5_remove 43 = .ok (.putfield 29, 3) := by decide +kernel
theorem dX5_remove_46 : decode cX5_remove 46 = .ok (.return_, 1) := by decide +kernel
theorem dX5_same_0 : decode cX5_same 0 = .ok (.aload_n 0, 1) := by decide +kernel
theorem dX5_same_1 : decode cX5_same 1 = .ok (.iload_n 1, 1) := by decide +kernel
theorem dX5_same_2 : decode cX5_same 2 = .ok (.iload_n 2, 1) := by decide +kernel
theorem dX5_same_3 : decode cX5_same 3 = .ok (.iconst 0, 1) := by decide +kernel
theorem dX5_same_4 : decode cX5_same 4 = .ok (.invokevirtual 62, 3) := by decide +kernel
theorem dX5_same_7 : decode cX5_same 7 = .ok (.ifCond .eq 14, 3) := by decide +kernel
theorem dX5_same_10 : decode cX5_same 10 = .ok (.aload_n 0, 1) := by decide +kernel
theorem dX5_same_11 : decode cX5_same 11 = .ok (.iload_n 3, 1) := by decide +kernel
theorem dX5_same_12 : decode cX5_same 12 = .ok (.iload 4, 2) := by decide +kernel
theorem dX5_same_14 : decode cX5_same 14 = .ok (.iconst 0, 1) := by decide +kernel
theorem dX5_same_15 : decode cX5_same 15 = .ok (.invokevirtual 62, 3) := by decide +kernel
theorem dX5_same_18 : decode cX5_same 18 = .ok (.ifCond .ne 5, 3) := by decide +kernel
theorem dX5_same_21 : decode cX5_same 21 = .ok (.iconst 0, 1) := by decide +kernel
theorem dX5_same_22 : decode cX5_same 22 = .ok (.ireturn, 1) := by decide +kernel
theorem dX5_same_23 : decode cX5_same 23 = .ok (.aload_n 0, 1) := by decide +kernel
theorem dX5_same_24 : decode cX5_same 24 = .ok (.iload_n 1, 1) := by decide +kernel
theorem dX5_same_25 : decode cX5_same 25 = .ok (.invokevirtual 36, 3) := by decide +kernel
theorem dX5_same_28 : decode cX5_same 28 = .ok (.iload_n 2, 1) := by decide +kernel
theorem dX5_same_29 : decode cX5_same 29 = .ok (.isub, 1) := by decide +kernel
theorem dX5_same_30 : decode cX5_same 30 = .ok (.aload_n 0, 1) := by decide +kernel
theorem dX5_same_31 : decode cX5_same 31 = .ok (.iload_n 3, 1) := by decide +kernel
theorem dX5_same_32 : decode cX5_same 32 = .ok (.invokevirtual 36, 3) := by decide +kernel
theorem dX5_same_35 : decode cX5_same 35 = .ok (.iload 4, 2) := by decide +kernel
theorem dX5_same_37 : decode cX5_same 37 = .ok (.isub, 1) := by decide +kernel
theorem dX5_same_38 : decode cX5_same 38 = .ok (.invokestatic 66, 3) := by decide +kernel
theorem dX5_same_41 : decode cX5_same 41 = .ok (.istore 5, 2) := by decide +kernel
theorem dX5_same_43 : decode cX5_same 43 = .ok (.iload_n 1, 1) := by decide +kernel
theorem dX5_same_44 : decode cX5_same 44 = .ok (.sipush 600, 3) := by decide +kernel
theorem dX5_same_47 : decode cX5_same 47 = .ok (.imul, 1) := by decide +kernel
theorem dX5_same_48 : decode cX5_same 48 = .ok (.iload_n 2, 1) := by decide +kernel
theorem dX5_same_49 : decode cX5_same 49 = .ok (.iadd, 1) := by decide +kernel
theorem dX5_same_50 : decode cX5_same 50 = .ok (.istore 6, 2) := by decide +kernel
theorem dX5_same_52 : decode cX5_same 52 = .ok (.iload_n 3, 1) := by decide +kernel
theorem dX5_same_53 : decode cX5_same 53 = .ok (.sipush 600, 3) := by decide +kernel
theorem dX5_same_56 : decode cX5_same 56 = .ok (.imul, 1) := by decide +kernel
theorem dX5_same_57 : decode cX5_same 57 = .ok (.iload 4, 2) := by decide +kernel
theorem dX5_same_59 : decode cX5_same 59 = .ok (.iadd, 1) := by decide +kernel
theorem dX5_same_60 : decode cX5_same 60 = .ok (.istore 7, 2) := by decide +kernel
theorem dX5_same_62 : decode cX5_same 62 = .ok (.iconst 0, 1) := by decide +kernel
theorem dX5_same_63 : decode cX5_same 63 = .ok (.istore 8, 2) := by decide +kernel
theorem dX5_same_65 : decode cX5_same 65 = .ok (.iload 8, 2) := by decide +kernel
theorem dX5_same_67 : decode cX5_same 67 = .ok (.iload 5, 2) := by decide +kernel
theorem dX5_same_69 : decode cX5_same 69 = .ok (.if_icmp .ge 32, 3) := by decide +kernel
theorem dX5_same_72 : decode cX5_same 72 = .ok (.aload_n 0, 1) := by decide +kernel
theorem dX5_same_73 : decode cX5_same 73 = .ok (.getfield 9, 3) := by decide +kernel
theorem dX5_same_76 : decode cX5_same 76 = .ok (.iload 6, 2) := by decide +kernel
theorem dX5_same_78 : decode cX5_same 78 = .ok (.iload 8, 2) := by decide +kernel
theorem dX5_same_80 : decode cX5_same 80 = .ok (.iadd, 1) := by decide +kernel
theorem dX5_same_81 : decode cX5_same 81 = .ok (.baload, 1) := by decide +kernel
theorem dX5_same_82 : decode cX5_same 82 = .ok (.aload_n 0, 1) := by decide +kernel
theorem dX5_same_83 : decode cX5_same 83 = .ok (.getfield 9, 3) := by decide +kernel
theorem dX5_same_86 : decode cX5_same 86 = .ok (.iload 7, 2) := by decide +kernel
theorem dX5_same_88 : decode cX5_same 88 = .ok (.iload 8, 2) := by decide +kernel
theorem dX5_same_90 : decode cX5_same 90 = .ok (.iadd, 1) := by decide +kernel
theorem dX5_same_91 : decode cX5_same 91 = .ok (.baload, 1) := by decide +kernel
theorem dX5_same_92 : decode cX5_same 92 = .ok (.if_icmp .ne 9, 3) := by decide +kernel
theorem dX5_same_95 : decode cX5_same 95 = .ok (.iinc 8 1, 3) := by decide +kernel
theorem dX5_same_98 : decode cX5_same 98 = .ok (.goto (-33), 3) := by decide +kernel
theorem dX5_same_101 : decode cX5_same 101 = .ok (.iload 8, 2) := by decide +kernel
theorem dX5_same_103 : decode cX5_same 103 = .ok (.ireturn, 1) := by decide +kernel
theorem dX5_compare_0 : decode cX5_compare 0 = .ok (.aload_n 0, 1) := by decide +kernel
theorem dX5_compare_1 : decode cX5_compare 1 = .ok (.iload_n 1, 1) := by decide +kernel
theorem dX5_compare_2 : decode cX5_compare 2 = .ok (.iconst 0, 1) := by decide +kernel
theorem dX5_compare_3 : decode cX5_compare 3 = .ok (.iload_n 2, 1) := by decide +kernel
theorem dX5_compare_4 : decode cX5_compare 4 = .ok (.iconst 0, 1) := by decide +kernel
theorem dX5_compare_5 : decode cX5_compare 5 = .ok (.invokevirtual 69, 3) := by decide +kernel
theorem dX5_compare_8 : decode cX5_compare 8 = .ok (.istore_n 3, 1) := by decide +kernel
theorem dX5_compare_9 : decode cX5_compare 9 = .ok (.aload_n 0, 1) := by decide +kernel
theorem dX5_compare_10 : decode cX5_compare 10 = .ok (.iload_n 1, 1) := by decide +kernel
theorem dX5_compare_11 : decode cX5_compare 11 = .ok (.iload_n 3, 1) := by decide +kernel
theorem dX5_compare_12 : decode cX5_compare 12 = .ok (.invokevirtual 73, 3) := by decide +kernel
theorem dX5_compare_15 : decode cX5_compare 15 = .ok (.aload_n 0, 1) := by decide +kernel
theorem dX5_compare_16 : decode cX5_compare 16 = .ok (.iload_n 2, 1) := by decide +kernel
theorem dX5_compare_17 : decode cX5_compare 17 = .ok (.iload_n 3, 1) := by decide +kernel
theorem dX5_compare_18 : decode cX5_compare 18 = .ok (.invokevirtual 73, 3) := by decide +kernel
theorem dX5_compare_21 : decode cX5_compare 21 = .ok (.invokestatic 76, 3) := by decide +kernel
theorem dX5_compare_24 : decode cX5_compare 24 = .ok (.ireturn, 1) := by decide +kernel
theorem dX5_countAheadOf_0 : decode cX5_countAheadOf 0 = .ok (.iconst 0, 1) := by decide +kernel
theorem dX5_countAheadOf_1 : decode cX5_countAheadOf 1 = .ok (.istore_n 2, 1) := by decide +kernel
theorem dX5_countAheadOf_2 : decode cX5_countAheadOf 2 = .ok (.iconst 0, 1) := by decide +kernel
theorem dX5_countAheadOf_3 : decode cX5_countAheadOf 3 = .ok (.istore_n 3, 1) := by decide +kernel
theorem dX5_countAheadOf_4 : decode cX5_countAheadOf 4 = .ok (.iload_n 3, 1) := by decide +kernel
theorem dX5_countAheadOf_5 : decode cX5_countAheadOf 5 = .ok (.aload_n 0, 1) := by decide +kernel
theorem dX5_countAheadOf_6 : decode cX5_countAheadOf 6 = .ok (.getfield 29, 3) := by decide +kernel
theorem dX5_countAheadOf_9 : decode cX5_countAheadOf 9 = .ok (.if_icmp .ge 35, 3) := by decide +kernel
theorem dX5_countAheadOf_12 : decode cX5_countAheadOf 12 = .ok (.aload_n 0, 1) := by decide +kernel
theorem dX5_countAheadOf_13 : decode cX5_countAheadOf 13 = .ok (.iload_n 3, 1) := by decide +kernel
theorem dX5_countAheadOf_14 : decode cX5_countAheadOf 14 = .ok (.iload_n 1, 1) := by decide +kernel
theorem dX5_countAheadOf_15 : decode cX5_countAheadOf 15 = .ok (.invokevirtual 81, 3) := by decide +kernel
theorem dX5_countAheadOf_18 : decode cX5_countAheadOf 18 = .ok (.istore 4, 2) := by decide +kernel
theorem dX5_countAheadOf_20 : decode cX5_countAheadOf 20 = .ok (.iload 4, 2) := by decide +kernel
theorem dX5_countAheadOf_22 : decode cX5_countAheadOf 22 = .ok (.ifCond .lt 13, 3) := by decide +kernel
theorem dX5_countAheadOf_25 : decode cX5_countAheadOf 25 = .ok (.iload 4, 2) := by decide +kernel
theorem dX5_countAheadOf_27 : decode cX5_countAheadOf 27 = .ok (.ifCond .ne 11, 3) := by decide +kernel
theorem dX5_countAheadOf_30 : decode cX5_countAheadOf 30 = .ok (.iload_n 3, 1) := by decide +kernel
theorem dX5_countAheadOf_31 : decode cX5_countAheadOf 31 = .ok (.iload_n 1, 1) := by decide +kernel
theorem dX5_countAheadOf_32 : decode cX5_countAheadOf 32 = .ok (.if_icmp .ge 6, 3) := by decide +kernel
theorem dX5_countAheadOf_35 : decode cX5_countAheadOf 35 = .ok (.iinc 2 1, 3) := by decide +kernel
theorem dX5_countAheadOf_38 : decode cX5_countAheadOf 38 = .ok (.iinc 3 1, 3) := by decide +kernel
theorem dX5_countAheadOf_41 : decode cX5_countAheadOf 41 = .ok (.goto (-37), 3) := by decide +kernel
theorem dX5_countAheadOf_44 : decode cX5_countAheadOf 44 = .ok (.iload_n 2, 1) := by decide +kernel
theorem dX5_countAheadOf_45 : decode cX5_countAheadOf 45 = .ok (.ireturn, 1) := by decide +kernel
theorem dX5_countAhead_0 : decode cX5_countAhead 0 = .ok (.iconst 0, 1) := by decide +kernel
theorem dX5_countAhead_1 : decode cX5_countAhead 1 = .ok (.istore 4, 2) := by decide +kernel
theorem dX5_countAhead_3 : decode cX5_countAhead 3 = .ok (.iconst 0, 1) := by decide +kernel
theorem dX5_countAhead_4 : decode cX5_countAhead 4 = .ok (.istore 5, 2) := by decide +kernel
theorem dX5_countAhead_6 : decode cX5_countAhead 6 = .ok (.iload 5, 2) := by decide +kernel
theorem dX5_countAhead_8 : decode cX5_countAhead 8 = .ok (.iload_n 3, 1) := by decide +kernel
theorem dX5_countAhead_9 : decode cX5_countAhead 9 = .ok (.if_icmp .ge 31, 3) := by decide +kernel
theorem dX5_countAhead_12 : decode cX5_countAhead 12 = .ok (.iload 5, 2) := by decide +kernel
theorem dX5_countAhead_14 : decode cX5_countAhead 14 = .ok (.sipush 600, 3) := by decide +kernel
theorem dX5_countAhead_17 : decode cX5_countAhead 17 = .ok (.if_icmp .ge 23, 3) := by decide +kernel
theorem dX5_countAhead_20 : decode cX5_countAhead 20 = .ok (.aload_n 0, 1) := by decide +kernel
theorem dX5_countAhead_21 : decode cX5_countAhead 21 = .ok (.iload_n 1, 1) := by decide +kernel
theorem dX5_countAhead_22 : decode cX5_countAhead 22 = .ok (.iload 5, 2) := by decide +kernel
theorem dX5_countAhead_24 : decode cX5_countAhead 24 = .ok (.invokevirtual 73, 3) := by decide +kernel
theorem dX5_countAhead_27 : decode cX5_countAhead 27 = .ok (.iload_n 2, 1) := by decide +kernel
theorem dX5_countAhead_28 : decode cX5_countAhead 28 = .ok (.if_icmp .ne 6, 3) := by decide +kernel
theorem dX5_countAhead_31 : decode cX5_countAhead 31 = .ok (.iinc 4 1, 3) := by decide +kernel
theorem dX5_countAhead_34 : decode cX5_countAhead 34 = .ok (.iinc 5 1, 3) := by decide +kernel
theorem dX5_countAhead_37 : decode cX5_countAhead 37 = .ok (.goto (-31), 3) := by decide +kernel
theorem dX5_countAhead_40 : decode cX5_countAhead 40 = .ok (.iload 4, 2) := by decide +kernel
theorem dX5_countAhead_42 : decode cX5_countAhead 42 = .ok (.ireturn, 1) := by decide +kernel
theorem dX5_placeOf_0 : decode cX5_placeOf 0 = .ok (.iconst 0, 1) := by decide +kernel
theorem dX5_placeOf_1 : decode cX5_placeOf 1 = .ok (.istore 4, 2) := by decide +kernel
theorem dX5_placeOf_3 : decode cX5_placeOf 3 = .ok (.iconst 0, 1) := by decide +kernel
theorem dX5_placeOf_4 : decode cX5_placeOf 4 = .ok (.istore 5, 2) := by decide +kernel
theorem dX5_placeOf_6 : decode cX5_placeOf 6 = .ok (.iload 5, 2) := by decide +kernel
theorem dX5_placeOf_8 : decode cX5_placeOf 8 = .ok (.aload_n 0, 1) := by decide +kernel
theorem dX5_placeOf_9 : decode cX5_placeOf 9 = .ok (.iload_n 1, 1) := by decide +kernel
theorem dX5_placeOf_10 : decode cX5_placeOf 10 = .ok (.invokevirtual 36, 3) := by decide +kernel
theorem dX5_placeOf_13 : decode cX5_placeOf 13 = .ok (.if_icmp .ge 32, 3) := by decide +kernel
theorem dX5_placeOf_16 : decode cX5_placeOf 16 = .ok (.aload_n 0, 1) := by decide +kernel
theorem dX5_placeOf_17 : decode cX5_placeOf 17 = .ok (.iload_n 1, 1) := by decide +kernel
theorem dX5_placeOf_18 : decode cX5_placeOf 18 = .ok (.iload 5, 2) := by decide +kernel
theorem dX5_placeOf_20 : decode cX5_placeOf 20 = .ok (.invokevirtual 73, 3) := by decide +kernel
theorem dX5_placeOf_23 : decode cX5_placeOf 23 = .ok (.iload_n 2, 1) := by decide +kernel
theorem dX5_placeOf_24 : decode cX5_placeOf 24 = .ok (.if_icmp .ne 15, 3) := by decide +kernel
theorem dX5_placeOf_27 : decode cX5_placeOf 27 = .ok (.iload 4, 2) := by decide +kernel
theorem dX5_placeOf_29 : decode cX5_placeOf 29 = .ok (.iload_n 3, 1) := by decide +kernel
theorem dX5_placeOf_30 : decode cX5_placeOf 30 = .ok (.if_icmp .ne 6, 3) := by decide +kernel
theorem dX5_placeOf_33 : decode cX5_placeOf 33 = .ok (.iload 5, 2) := by decide +kernel
theorem dX5_placeOf_35 : decode cX5_placeOf 35 = .ok (.ireturn, 1) := by decide +kernel
theorem dX5_placeOf_36 : decode cX5_placeOf 36 = .ok (.iinc 4 1, 3) := by decide +kernel
theorem dX5_placeOf_39 : decode cX5_placeOf 39 = .ok (.iinc 5 1, 3) := by decide +kernel
theorem dX5_placeOf_42 : decode cX5_placeOf 42 = .ok (.goto (-36), 3) := by decide +kernel
theorem dX5_placeOf_45 : decode cX5_placeOf 45 = .ok (.iconst (-1), 1) := by decide +kernel
theorem dX5_placeOf_46 : decode cX5_placeOf 46 = .ok (.ireturn, 1) := by decide +kernel
theorem dX5_unlikeLetters_0 : decode cX5_unlikeLetters 0 = .ok (.iconst 0, 1) := by decide +kernel
theorem dX5_unlikeLetters_1 : decode cX5_unlikeLetters 1 = .ok (.istore_n 2, 1) := by decide +kernel
theorem dX5_unlikeLetters_2 : decode cX5_unlikeLetters 2 = .ok (.iconst 0, 1) := by decide +kernel
theorem dX5_unlikeLetters_3 : decode cX5_unlikeLetters 3 = .ok (.istore_n 3, 1) := by decide +kernel
theorem dX5_unlikeLetters_4 : decode cX5_unlikeLetters 4 = .ok (.iload_n 3, 1) := by decide +kernel
theorem dX5_unlikeLetters_5 : decode cX5_unlikeLetters 5 = .ok (.aload_n 0, 1) := by decide +kernel
theorem dX5_unlikeLetters_6 : decode cX5_unlikeLetters 6 = .ok (.iload_n 1, 1) := by decide +kernel
theorem dX5_unlikeLetters_7 : decode cX5_unlikeLetters 7 = .ok (.invokevirtual 36, 3) := by decide +kernel
theorem dX5_unlikeLetters_10 : decode cX5_unlikeLetters 10 = .ok (.if_icmp .ge 20, 3) := by decide +kernel
theorem dX5_unlikeLetters_13 : decode cX5_unlikeLetters 13 = .ok (.iload_n 2, 1) := by decide +kernel
theorem dX5_unlikeLetters_14 : decode cX5_unlikeLetters 14 = .ok (.iconst 1, 1) := by decide +kernel
theorem dX5_unlikeLetters_15 : decode cX5_unlikeLetters 15 = .ok (.aload_n 0, 1) := by decide +kernel
theorem dX5_unlikeLetters_16 : decode cX5_unlikeLetters 16 = .ok (.iload_n 1, 1) := by decide +kernel
theorem dX5_unlikeLetters_17 : decode cX5_unlikeLetters 17 = .ok (.iload_n 3, 1) := by decide +kernel
theorem dX5_unlikeLetters_18 : decode cX5_unlikeLetters 18 = .ok (.invokevirtual 73, 3) := by decide +kernel
theorem dX5_unlikeLetters_21 : decode cX5_unlikeLetters 21 = .ok (.ishl, 1) := by decide +kernel
theorem dX5_unlikeLetters_22 : decode cX5_unlikeLetters 22 = .ok (.ior, 1) := by decide +kernel
theorem dX5_unlikeLetters_23 : decode cX5_unlikeLetters 23 = .ok (.istore_n 2, 1) := by decide +kernel
theorem dX5_unlikeLetters_24 : decode cX5_unlikeLetters 24 = .ok (.iinc 3 1, 3) := by decide +kernel
theorem dX5_unlikeLetters_27 : decode cX5_unlikeLetters 27 = .ok (.goto (-23), 3) := by decide +kernel
theorem dX5_unlikeLetters_30 : decode cX5_unlikeLetters 30 = .ok (.iload_n 2, 1) := by decide +kernel
theorem dX5_unlikeLetters_31 : decode cX5_unlikeLetters 31 = .ok (.invokestatic 82, 3) := by decide +kernel
theorem dX5_unlikeLetters_34 : decode cX5_unlikeLetters 34 = .ok (.ireturn, 1) := by decide +kernel
theorem dX5_mirrored_0 : decode cX5_mirrored 0 = .ok (.iconst 0, 1) := by decide +kernel
theorem dX5_mirrored_1 : decode cX5_mirrored 1 = .ok (.istore 4, 2) := by decide +kernel
theorem dX5_mirrored_3 : decode cX5_mirrored 3 = .ok (.iload 4, 2) := by decide +kernel
theorem dX5_mirrored_5 : decode cX5_mirrored 5 = .ok (.sipush 600, 3) := by decide +kernel
theorem dX5_mirrored_8 : decode cX5_mirrored 8 = .ok (.if_icmp .ge 43, 3) := by decide +kernel
theorem dX5_mirrored_11 : decode cX5_mirrored 11 = .ok (.aload_n 0, 1) := by decide +kernel
theorem dX5_mirrored_12 : decode cX5_mirrored 12 = .ok (.iload_n 1, 1) := by decide +kernel
theorem dX5_mirrored_13 : decode cX5_mirrored 13 = .ok (.iload_n 2, 1) := by decide +kernel
theorem dX5_mirrored_14 : decode cX5_mirrored 14 = .ok (.iload 4, 2) := by decide +kernel
theorem dX5_mirrored_16 : decode cX5_mirrored 16 = .ok (.isub, 1) := by decide +kernel
theorem dX5_mirrored_17 : decode cX5_mirrored 17 = .ok (.invokevirtual 73, 3) := by decide +kernel
theorem dX5_mirrored_20 : decode cX5_mirrored 20 = .ok (.iconst (-1), 1) := by decide +kernel
theorem dX5_mirrored_21 : decode cX5_mirrored 21 = .ok (.if_icmp .eq 30, 3) := by decide +kernel
theorem dX5_mirrored_24 : decode cX5_mirrored 24 = .ok (.aload_n 0, 1) := by decide +kernel
theorem dX5_mirrored_25 : decode cX5_mirrored 25 = .ok (.iload_n 1, 1) := by decide +kernel
theorem dX5_mirrored_26 : decode cX5_mirrored 26 = .ok (.iload_n 2, 1) := by decide +kernel
theorem dX5_mirrored_27 : decode cX5_mirrored 27 = .ok (.iload 4, 2) := by decide +kernel
theorem dX5_mirrored_29 : decode cX5_mirrored 29 = .ok (.isub, 1) := by decide +kernel
theorem dX5_mirrored_30 : decode cX5_mirrored 30 = .ok (.invokevirtual 73, 3) := by decide +kernel
theorem dX5_mirrored_33 : decode cX5_mirrored 33 = .ok (.aload_n 0, 1) := by decide +kernel
theorem dX5_mirrored_34 : decode cX5_mirrored 34 = .ok (.iload_n 1, 1) := by decide +kernel
theorem dX5_mirrored_35 : decode cX5_mirrored 35 = .ok (.iload_n 3, 1) := by decide +kernel
theorem dX5_mirrored_36 : decode cX5_mirrored 36 = .ok (.iload 4, 2) := by decide +kernel
theorem dX5_mirrored_38 : decode cX5_mirrored 38 = .ok (.iadd, 1) := by decide +kernel
theorem dX5_mirrored_39 : decode cX5_mirrored 39 = .ok (.invokevirtual 73, 3) := by decide +kernel
theorem dX5_mirrored_42 : decode cX5_mirrored 42 = .ok (.if_icmp .ne 9, 3) := by decide +kernel
theorem dX5_mirrored_45 : decode cX5_mirrored 45 = .ok (.iinc 4 1, 3) := by decide +kernel
theorem dX5_mirrored_48 : decode cX5_mirrored 48 = .ok (.goto (-45), 3) := by decide +kernel
theorem dX5_mirrored_51 : decode cX5_mirrored 51 = .ok (.iload 4, 2) := by decide +kernel
theorem dX5_mirrored_53 : decode cX5_mirrored 53 = .ok (.ireturn, 1) := by decide +kernel
theorem dX6_init_0 : decode cX6_init 0 = .ok (.aload_n 0, 1) := by decide +kernel
theorem dX6_init_1 : decode cX6_init 1 = .ok (.invokespecial 3, 3) := by decide +kernel
theorem dX6_init_4 : decode cX6_init 4 = .ok (.aload_n 0, 1) := by decide +kernel
theorem dX6_init_5 : decode cX6_init 5 = .ok (.sipush 900, 3) := by decide +kernel
theorem dX6_init_8 : decode cX6_init 8 = .ok (.newarray .byte, 2) := by decide +kernel
theorem dX6_init_10 : decode cX6_init 10 = .ok (.putfield 9, 3) := by decide +kernel
theorem dX6_init_13 : decode cX6_init 13 = .ok (.aload_n 0, 1) := by decide +kernel
theorem dX6_init_14 : decode cX6_init 14 = .ok (.sipush 901, 3) := by decide +kernel
theorem dX6_init_17 : decode cX6_init 17 = .ok (.newarray .int, 2) := by decide +kernel
theorem dX6_init_19 : decode cX6_init 19 = .ok (.putfield 15, 3) := by decide +kernel
theorem dX6_init_22 : decode cX6_init 22 = .ok (.aload_n 0, 1) := by decide +kernel
theorem dX6_init_23 : decode cX6_init 23 = .ok (.sipush 901, 3) := by decide +kernel
theorem dX6_init_26 : decode cX6_init 26 = .ok (.newarray .int, 2) := by decide +kernel
theorem dX6_init_28 : decode cX6_init 28 = .ok (.putfield 19, 3) := by decide +kernel
theorem dX6_init_31 : decode cX6_init 31 = .ok (.aload_n 0, 1) := by decide +kernel
theorem dX6_init_32 : decode cX6_init 32 = .ok (.sipush 901, 3) := by decide +kernel
theorem dX6_init_35 : decode cX6_init 35 = .ok (.newarray .int, 2) := by decide +kernel
theorem dX6_init_37 : decode cX6_init 37 = .ok (.putfield 22, 3) := by decide +kernel
theorem dX6_init_40 : decode cX6_init 40 = .ok (.return_, 1) := by decide +kernel
theorem dX6_cut_0 : decode cX6_cut 0 = .ok (.aload_n 0, 1) := by decide +kernel
theorem dX6_cut_1 : decode cX6_cut 1 = .ok (.iconst 0, 1) := by decide +kernel
theorem dX6_cut_2 : decode cX6_cut 2 = .ok (.iload_n 1, 1) := by decide +kernel
theorem dX6_cut_3 : decode cX6_cut 3 = .ok (.sipush 900, 3) := by decide +kernel
theorem dX6_cut_6 : decode cX6_cut 6 = .ok (.invokestatic 25, 3) := by decide +kernel
theorem dX6_cut_9 : decode cX6_cut 9 = .ok (.invokestatic 31, 3) := by decide +kernel
theorem dX6_cut_12 : decode cX6_cut 12 = .ok (.putfield 34, 3) := by decide +kernel
theorem dX6_cut_15 : decode cX6_cut 15 = .ok (.aload_n 0, 1) := by decide +kernel
theorem dX6_cut_16 : decode cX6_cut 16 = .ok (.iconst 0, 1) := by decide +kernel
theorem dX6_cut_17 : decode cX6_cut 17 = .ok (.putfield 38, 3) := by decide +kernel
theorem dX6_cut_20 : decode cX6_cut 20 = .ok (.aload_n 0, 1) := by decide +kernel
theorem dX6_cut_21 : decode cX6_cut 21 = .ok (.iconst 0, 1) := by decide +kernel
theorem dX6_cut_22 : decode cX6_cut 22 = .ok (.putfield 41, 3) := by decide +kernel
theorem dX6_cut_25 : decode cX6_cut 25 = .ok (.aload_n 0, 1) := by decide +kernel
theorem dX6_cut_26 : decode cX6_cut 26 = .ok (.iconst (-1), 1) := by decide +kernel
theorem dX6_cut_27 : decode cX6_cut 27 = .ok (.putfield 44, 3) := by decide +kernel
theorem dX6_cut_30 : decode cX6_cut 30 = .ok (.iconst 0, 1) := by decide +kernel
theorem dX6_cut_31 : decode cX6_cut 31 = .ok (.istore_n 2, 1) := by decide +kernel
theorem dX6_cut_32 : decode cX6_cut 32 = .ok (.iload_n 2, 1) := by decide +kernel
theorem dX6_cut_33 : decode cX6_cut 33 = .ok (.aload_n 0, 1) := by decide +kernel
theorem dX6_cut_34 : decode cX6_cut 34 = .ok (.getfield 34, 3) := by decide +kernel
theorem dX6_cut_37 : decode cX6_cut 37 = .ok (.if_icmp .ge 43, 3) := by decide +kernel
theorem dX6_cut_40 : decode cX6_cut 40 = .ok (.aload_n 0, 1) := by decide +kernel
theorem dX6_cut_41 : decode cX6_cut 41 = .ok (.iload_n 2, 1) := by decide +kernel
theorem dX6_cut_42 : decode cX6_cut 42 = .ok (.invokevirtual 47, 3) := by decide +kernel
theorem dX6_cut_45 : decode cX6_cut 45 = .ok (.istore_n 3, 1) := by decide +kernel
theorem dX6_cut_46 : decode cX6_cut 46 = .ok (.iload_n 3, 1) := by decide +kernel
theorem dX6_cut_47 : decode cX6_cut 47 = .ok (.bipush 32, 2) := by decide +kernel
theorem dX6_cut_49 : decode cX6_cut 49 = .ok (.if_icmp .eq 9, 3) := by decide +kernel
theorem dX6_cut_52 : decode cX6_cut 52 = .ok (.iload_n 3, 1) := by decide +kernel
theorem dX6_cut_53 : decode cX6_cut 53 = .ok (.bipush 10, 2) := by decide +kernel
theorem dX6_cut_55 : decode cX6_cut 55 = .ok (.if_icmp .ne 9, 3) := by decide +kernel
theorem dX6_cut_58 : decode cX6_cut 58 = .ok (.iinc 2 1, 3) := by decide +kernel
theorem dX6_cut_61 : decode cX6_cut 61 = .ok (.goto 16, 3) := by decide +kernel
theorem dX6_cut_64 : decode cX6_cut 64 = .ok (.iload_n 2, 1) := by decide +kernel
theorem dX6_cut_65 : decode cX6_cut 65 = .ok (.iconst 1, 1) := by decide +kernel
theorem dX6_cut_66 : decode cX6_cut 66 = .ok (.iadd, 1) := by decide +kernel
theorem dX6_cut_67 : decode cX6_cut 67 = .ok (.aload_n 0, 1) := by decide +kernel
theorem dX6_cut_68 : decode cX6_cut 68 = .ok (.iload_n 2, 1) := by decide +kernel
theorem dX6_cut_69 : decode cX6_cut 69 = .ok (.iload_n 3, 1) := by decide +kernel
theorem dX6_cut_70 : decode cX6_cut 70 = .ok (.invokevirtual 51, 3) := by decide +kernel
theorem dX6_cut_73 : decode cX6_cut 73 = .ok (.invokestatic 31, 3) := by decide +kernel
theorem dX6_cut_76 : decode cX6_cut 76 = .ok (.istore_n 2, 1) := by decide +kernel
theorem dX6_cut_77 : decode cX6_cut 77 = .ok (.goto (-45), 3) := by decide +kernel
theorem dX6_cut_80 : decode cX6_cut 80 = .ok (.aload_n 0, 1) := by decide +kernel
theorem dX6_cut_81 : decode cX6_cut 81 = .ok (.iconst 0, 1) := by decide +kernel
theorem dX6_cut_82 : decode cX6_cut 82 = .ok (.aload_n 0, 1) := by decide +kernel
theorem dX6_cut_83 : decode cX6_cut 83 = .ok (.getfield 34, 3) := by decide +kernel
theorem dX6_cut_86 : decode cX6_cut 86 = .ok (.iconst 0, 1) := by decide +kernel
theorem dX6_cut_87 : decode cX6_cut 87 = .ok (.invokevirtual 54, 3) := by decide +kernel
theorem dX6_cut_90 : decode cX6_cut 90 = .ok (.return_, 1) := by decide +kernel
theorem dX6_kind_0 : decode cX6_kind 0 = .ok (.aload_n 0, 1) := by decide +kernel
theorem dX6_kind_1 : decode cX6_kind 1 = .ok (.getfield 41, 3) := by decide +kernel
theorem dX6_kind_4 : decode cX6_kind 4 = .ok (.aload_n 0, 1) := by decide +kernel
theorem dX6_kind_5 : decode cX6_kind 5 = .ok (.getfield 38, 3) := by decide +kernel
theorem dX6_kind_8 : decode cX6_kind 8 = .ok (.if_icmp .ge 15, 3) := by decide +kernel
theorem dX6_kind_11 : decode cX6_kind 11 = .ok (.aload_n 0, 1) := by decide +kernel
theorem dX6_kind_12 : decode cX6_kind 12 = .ok (.getfield 15, 3) := by decide +kernel
theorem dX6_kind_15 : decode cX6_kind 15 = .ok (.aload_n 0, 1) := by decide +kernel
theorem dX6_kind_16 : decode cX6_kind 16 = .ok (.getfield 41, 3) := by decide +kernel
theorem dX6_kind_19 : decode cX6_kind 19 = .ok (.iaload, 1) := by decide +kernel
theorem dX6_kind_20 : decode cX6_kind 20 = .ok (.goto 4, 3) := by decide +kernel
theorem dX6_kind_23 : decode cX6_kind 23 = .ok (.iconst 0, 1) := by decide +kernel
theorem dX6_kind_24 : decode cX6_kind 24 = .ok (.ireturn, 1) := by decide +kernel
theorem dX6_place_0 : decode cX6_place 0 = .ok (.aload_n 0, 1) := by decide +kernel
theorem dX6_place_1 : decode cX6_place 1 = .ok (.getfield 41, 3) := by decide +kernel
theorem dX6_place_4 : decode cX6_place 4 = .ok (.aload_n 0, 1) := by decide +kernel
theorem dX6_place_5 : decode cX6_place 5 = .ok (.getfield 38, 3) := by decide +kernel
theorem dX6_place_8 : decode cX6_place 8 = .ok (.if_icmp .ge 15, 3) := by decide +kernel
theorem dX6_place_11 : decode cX6_place 11 = .ok (.aload_n 0, 1) := by decide +kernel
theorem dX6_place_12 : decode cX6_place 12 = .ok (.getfield 19, 3) := by decide +kernel
theorem dX6_place_15 : decode cX6_place 15 = .ok (.aload_n 0, 1) := by decide +kernel
theorem dX6_place_16 : decode cX6_place 16 = .ok (.getfield 41, 3) := by decide +kernel
theorem dX6_place_19 : decode cX6_place 19 = .ok (.iaload, 1) := by decide +kernel
theorem dX6_place_20 : decode cX6_place 20 = .ok (.goto 7, 3) := by decide +kernel
theorem dX6_place_23 : decode cX6_place 23 = .ok (.aload_n 0, 1) := by decide +kernel
theorem dX6_place_24 : decode cX6_place 24 = .ok (.getfield 34, 3) := by decide +kernel
theorem dX6_place_27 : decode cX6_place 27 = .ok (.ireturn, 1) := by decide +kernel
theorem dX6_number_0 : decode cX6_number 0 = .ok (.aload_n 0, 1) := by decide +kernel
theorem dX6_number_1 : decode cX6_number 1 = .ok (.getfield 41, 3) := by decide +kernel
theorem dX6_number_4 : decode cX6_number 4 = .ok (.aload_n 0, 1) := by decide +kernel
theorem dX6_number_5 : decode cX6_number 5 = .ok (.getfield 38, 3) := by decide +kernel
theorem dX6_number_8 : decode cX6_number 8 = .ok (.if_icmp .ge 15, 3) := by decide +kernel
theorem dX6_number_11 : decode cX6_number 11 = .ok (.aload_n 0, 1) := by decide +kernel
theorem dX6_number_12 : decode cX6_number 12 = .ok (.getfield 22, 3) := by decide +kernel
theorem dX6_number_15 : decode cX6_number 15 = .ok (.aload_n 0, 1) := by decide +kernel
theorem dX6_number_16 : decode cX6_number 16 = .ok (.getfield 41, 3) := by decide +kernel
theorem dX6_number_19 : decode cX6_number 19 = .ok (.iaload, 1) := by decide +kernel
theorem dX6_number_20 : decode cX6_number 20 = .ok (.goto 4, 3) := by decide +kernel
theorem dX6_number_23 : decode cX6_number 23 = .ok (.iconst 0, 1) := by decide +kernel
theorem dX6_number_24 : decode cX6_number 24 = .ok (.ireturn, 1) := by decide +kernel
theorem dX6_pass_0 : decode cX6_pass 0 = .ok (.aload_n 0, 1) := by decide +kernel
theorem dX6_pass_1 : decode cX6_pass 1 = .ok (.aload_n 0, 1) := by decide +kernel
theorem dX6_pass_2 : decode cX6_pass 2 = .ok (.invokevirtual 58, 3) := by decide +kernel
theorem dX6_pass_5 : decode cX6_pass 5 = .ok (.putfield 44, 3) := by decide +kernel
theorem dX6_pass_8 : decode cX6_pass 8 = .ok (.aload_n 0, 1) := by decide +kernel
theorem dX6_pass_9 : decode cX6_pass 9 = .ok (.aload_n 0, 1) := by decide +kernel
theorem dX6_pass_10 : decode cX6_pass 10 = .ok (.getfield 41, 3) := by decide +kernel
theorem dX6_pass_13 : decode cX6_pass 13 = .ok (.iconst 1, 1) := by decide +kernel
theorem dX6_pass_14 : decode cX6_pass 14 = .ok (.iadd, 1) := by decide +kernel
theorem dX6_pass_15 : decode cX6_pass 15 = .ok (.sipush 900, 3) := by decide +kernel
theorem dX6_pass_18 : decode cX6_pass 18 = .ok (.invokestatic 25, 3) := by decide +kernel
theorem dX6_pass_21 : decode cX6_pass 21 = .ok (.putfield 41, 3) := by decide +kernel
theorem dX6_pass_24 : decode cX6_pass 24 = .ok (.return_, 1) := by decide +kernel
theorem dX6_byteAt_0 : decode cX6_byteAt 0 = .ok (.iload_n 1, 1) := by decide +kernel
theorem dX6_byteAt_1 : decode cX6_byteAt 1 = .ok (.ifCond .lt 20, 3) := by decide +kernel
theorem dX6_byteAt_4 : decode cX6_byteAt 4 = .ok (.iload_n 1, 1) := by decide +kernel
theorem dX6_byteAt_5 : decode cX6_byteAt 5 = .ok (.aload_n 0, 1) := by decide +kernel
theorem dX6_byteAt_6 : decode cX6_byteAt 6 = .ok (.getfield 34, 3) := by decide +kernel
theorem dX6_byteAt_9 : decode cX6_byteAt 9 = .ok (.if_icmp .ge 12, 3) := by decide +kernel
theorem dX6_byteAt_12 : decode cX6_byteAt 12 = .ok (.aload_n 0, 1) := by decide +kernel
theorem dX6_byteAt_13 : decode cX6_byteAt 13 = .ok (.getfield 9, 3) := by decide +kernel
theorem dX6_byteAt_16 : decode cX6_byteAt 16 = .ok (.iload_n 1, 1) := by decide +kernel
theorem dX6_byteAt_17 : decode cX6_byteAt 17 = .ok (.baload, 1) := by decide +kernel
theorem dX6_byteAt_18 : decode cX6_byteAt 18 = .ok (.goto 4, 3) := by decide +kernel
theorem dX6_byteAt_21 : decode cX6_byteAt 21 = .ok (.iconst (-1), 1) := by decide +kernel
theorem dX6_byteAt_22 : decode cX6_byteAt 22 = .ok (.ireturn, 1) := by decide +kernel
theorem dX6_add_0 : decode cX6_add 0 = .ok (.aload_n 0, 1) := by decide +kernel
theorem dX6_add_1 : decode cX6_add 1 = .ok (.getfield 38, 3) := by decide +kernel
theorem dX6_add_4 : decode cX6_add 4 = .ok (.sipush 900, 3) := by decide +kernel
theorem dX6_add_7 : decode cX6_add 7 = .ok (.if_icmp .gt 43, 3) := by decide +kernel
theorem dX6_add_10 : decode cX6_add 10 = .ok (.aload_n 0, 1) := by decide +kernel
theorem dX6_add_11 : decode cX6_add 11 = .ok (.getfield 15, 3) := by decide +kernel
theorem dX6_add_14 : decode cX6_add 14 = .ok (.aload_n 0, 1) := by decide +kernel
theorem dX6_add_15 : decode cX6_add 15 = .ok (.getfield 38, 3) := by decide +kernel
theorem dX6_add_18 : decode cX6_add 18 = .ok (.iload_n 1, 1) := by decide +kernel
theorem dX6_add_19 : decode cX6_add 19 = .ok (.iastore, 1) := by decide +kernel
theorem dX6_add_20 : decode cX6_add 20 = .ok (.aload_n 0, 1) := by decide +kernel
theorem dX6_add_21 : decode cX6_add 21 = .ok (.getfield 19, 3) := by decide +kernel
theorem dX6_add_24 : decode cX6_add 24 = .ok (.aload_n 0, 1) := by decide +kernel
theorem dX6_add_25 : decode cX6_add 25 = .ok (.getfield 38, 3) := by decide +kernel
theorem dX6_add_28 : decode cX6_add 28 = .ok (.iload_n 2, 1) := by decide +kernel
theorem dX6_add_29 : decode cX6_add 29 = .ok (.iastore, 1) := by decide +kernel
theorem dX6_add_30 : decode cX6_add 30 = .ok (.aload_n 0, 1) := by decide +kernel
theorem dX6_add_31 : decode cX6_add 31 = .ok (.getfield 22, 3) := by decide +kernel
theorem dX6_add_34 : decode cX6_add 34 = .ok (.aload_n 0, 1) := by decide +kernel
theorem dX6_add_35 : decode cX6_add 35 = .ok (.getfield 38, 3) := by decide +kernel
theorem dX6_add_38 : decode cX6_add 38 = .ok (.iload_n 3, 1) := by decide +kernel
theorem dX6_add_39 : decode cX6_add 39 = .ok (.iastore, 1) := by decide +kernel
theorem dX6_add_40 : decode cX6_add 40 = .ok (.aload_n 0, 1) := by decide +kernel
theorem dX6_add_41 : decode cX6_add 41 = .ok (.dup, 1) := by decide +kernel
theorem dX6_add_42 : decode cX6_add 42 = .ok (.getfield 38, 3) := by decide +kernel
theorem dX6_add_45 : decode cX6_add 45 = .ok (.iconst 1, 1) := by decide +kernel
theorem dX6_add_46 : decode cX6_add 46 = .ok (.iadd, 1) := by decide +kernel
theorem dX6_add_47 : decode cX6_add 47 = .ok (.putfield 38, 3) := by decide +kernel
theorem dX6_add_50 : decode cX6_add 50 = .ok (.return_, 1) := by decide +kernel
theorem dX6_cutToken_0 : decode cX6_cutToken 0 = .ok (.iload_n 2, 1) := by decide +kernel
theorem dX6_cutToken_1 : decode cX6_cutToken 1 = .ok (.invokestatic 62, 3) := by decide +kernel
theorem dX6_cutToken_4 : decode cX6_cutToken 4 = .ok (.ifCond .eq 9, 3) := by decide +kernel
theorem dX6_cutToken_7 : decode cX6_cutToken 7 = .ok (.aload_n 0, 1) := by decide +kernel
theorem dX6_cutToken_8 : decode cX6_cutToken 8 = .ok (.iload_n 1, 1) := by decide +kernel
theorem dX6_cutToken_9 : decode cX6_cutToken 9 = .ok (.invokevirtual 66, 3) := by decide +kernel
theorem dX6_cutToken_12 : decode cX6_cutToken 12 = .ok (.ireturn, 1) := by decide +kernel
theorem dX6_cutToken_13 : decode cX6_cutToken 13 = .ok (.iload_n 2, 1) := by decide +kernel
theorem dX6_cutToken_14 : decode cX6_cutToken 14 = .ok (.invokestatic 69, 3) := by decide +kernel
theorem dX6_cutToken_17 : decode cX6_cutToken 17 = .ok (.ifCond .eq 9, 3) := by decide +kernel
theorem dX6_cutToken_20 : decode cX6_cutToken 20 = .ok (.aload_n 0, 1) := by decide +kernel
theorem dX6_cutToken_21 : decode cX6_cutToken 21 = .ok (.iload_n 1, 1) := by decide +kernel
theorem dX6_cutToken_22 : decode cX6_cutToken 22 = .ok (.invokevirtual 72, 3) := by decide +kernel
theorem dX6_cutToken_25 : decode cX6_cutToken 25 = .ok (.ireturn, 1) := by decide +kernel
theorem dX6_cutToken_26 : decode cX6_cutToken 26 = .ok (.iload_n 2, 1) := by decide +kernel
theorem dX6_cutToken_27 : decode cX6_cutToken 27 = .ok (.bipush 34, 2) := by decide +kernel
theorem dX6_cutToken_29 : decode cX6_cutToken 29 = .ok (.if_icmp .ne 9, 3) := by decide +kernel
theorem dX6_cutToken_32 : decode cX6_cutToken 32 = .ok (.aload_n 0, 1) := by decide +kernel
theorem dX6_cutToken_33 : decode cX6_cutToken 33 = .ok (.iload_n 1, 1) := by decide +kernel
theorem dX6_cutToken_34 : decode cX6_cutToken 34 = .ok (.invokevirtual 75, 3) := by decide +kernel
theorem dX6_cutToken_37 : decode cX6_cutToken 37 = .ok (.ireturn, 1) := by decide +kernel
theorem dX6_cutToken_38 : decode cX6_cutToken 38 = .ok (.aload_n 0, 1) := by decide +kernel
theorem dX6_cutToken_39 : decode cX6_cutToken 39 = .ok (.iload_n 2, 1) := by decide +kernel
theorem dX6_cutToken_40 : decode cX6_cutToken 40 = .ok (.ifCond .le 17, 3) := by decide +kernel
theorem dX6_cutToken_43 : decode cX6_cutToken 43 = .ok (.ldc 78, 2) := by decide +kernel
theorem dX6_cutToken_45 : decode cX6_cutToken 45 = .ok (.iload_n 2, 1) := by decide +kernel
theorem dX6_cutToken_46 : decode cX6_cutToken 46 = .ok (.i2c, 1) := by decide +kernel
theorem dX6_cutToken_47 : decode cX6_cutToken 47 = .ok (.invokevirtual 80, 3) := by decide +kernel
theorem dX6_cutToken_50 : decode cX6_cutToken 50 = .ok (.ifCond .lt 7, 3) := by decide +kernel
theorem dX6_cutToken_53 : decode cX6_cutToken 53 = .ok (.iload_n 2, 1) := by decide +kernel
theorem dX6_cutToken_54 : decode cX6_cutToken 54 = .ok (.goto 4, 3) := by decide +kernel
theorem dX6_cutToken_57 : decode cX6_cutToken 57 = .ok (.iconst 1, 1) := by decide +kernel
theorem dX6_cutToken_58 : decode cX6_cutToken 58 = .ok (.iload_n 1, 1) := by decide +kernel
theorem dX6_cutToken_59 : decode cX6_cutToken 59 = .ok (.iconst 0, 1) := by decide +kernel
theorem dX6_cutToken_60 : decode cX6_cutToken 60 = .ok (.invokevirtual 54, 3) := by decide +kernel
theorem dX6_cutToken_63 : decode cX6_cutToken 63 = .ok (.iload_n 1, 1) := by decide +kernel
theorem dX6_cutToken_64 : decode cX6_cutToken 64 = .ok (.iconst 1, 1) := by decide +kernel
theorem dX6_cutToken_65 : decode cX6_cutToken 65 = .ok (.iadd, 1) := by decide +kernel
theorem dX6_cutToken_66 : decode cX6_cutToken 66 = .ok (.ireturn, 1) := by decide +kernel
theorem dX6_cutWord_0 : decode cX6_cutWord 0 = .ok (.aload_n 0, 1) := by decide +kernel
theorem dX6_cutWord_1 : decode cX6_cutWord 1 = .ok (.iload_n 1, 1) := by decide +kernel
theorem dX6_cutWord_2 : decode cX6_cutWord 2 = .ok (.invokevirtual 85, 3) := by decide +kernel
theorem dX6_cutWord_5 : decode cX6_cutWord 5 = .ok (.istore_n 2, 1) := by decide +kernel
theorem dX6_cutWord_6 : decode cX6_cutWord 6 = .ok (.aload_n 0, 1) := by decide +kernel
theorem dX6_cutWord_7 : decode cX6_cutWord 7 = .ok (.iload_n 1, 1) := by decide +kernel
theorem dX6_cutWord_8 : decode cX6_cutWord 8 = .ok (.iload_n 2, 1) := by decide +kernel
theorem dX6_cutWord_9 : decode cX6_cutWord 9 = .ok (.ldc 88, 2) := by decide +kernel
theorem dX6_cutWord_11 : decode cX6_cutWord 11 = .ok (.invokevirtual 90, 3) := by decide +kernel
theorem dX6_cutWord_14 : decode cX6_cutWord 14 = .ok (.ifCond .eq 7, 3) := by decide +kernel
theorem dX6_cutWord_17 : decode cX6_cutWord 17 = .ok (.iconst 3, 1) := by decide +kernel
theorem dX6_cutWord_18 : decode cX6_cutWord 18 = .ok (.goto 19, 3) := by decide +kernel
theorem dX6_cutWord_21 : decode cX6_cutWord 21 = .ok (.aload_n 0, 1) := by decide +kernel
theorem dX6_cutWord_22 : decode cX6_cutWord 22 = .ok (.iload_n 1, 1) := by decide +kernel
theorem dX6_cutWord_23 : decode cX6_cutWord 23 = .ok (.iload_n 2, 1) := by decide +kernel
theorem dX6_cutWord_24 : decode cX6_cutWord 24 = .ok (.ldc 94, 2) := by decide +kernel
theorem dX6_cutWord_26 : decode cX6_cutWord 26 = .ok (.invokevirtual 90, 3) := by decide +kernel
theorem dX6_cutWord_29 : decode cX6_cutWord 29 = .ok (.ifCond .eq 7, 3) := by decide +kernel
theorem dX6_cutWord_32 : decode cX6_cutWord 32 = .ok (.iconst 4, 1) := by decide +kernel
theorem dX6_cutWord_33 : decode cX6_cutWord 33 = .ok (.goto 4, 3) := by decide +kernel
theorem dX6_cutWord_36 : decode cX6_cutWord 36 = .ok (.iconst 2, 1) := by decide +kernel
theorem dX6_cutWord_37 : decode cX6_cutWord 37 = .ok (.istore_n 3, 1) := by decide +kernel
theorem dX6_cutWord_38 : decode cX6_cutWord 38 = .ok (.aload_n 0, 1) := by decide +kernel
theorem dX6_cutWord_39 : decode cX6_cutWord 39 = .ok (.iload_n 3, 1) := by decide +kernel
theorem dX6_cutWord_40 : decode cX6_cutWord 40 = .ok (.iload_n 1, 1) := by decide +kernel
theorem dX6_cutWord_41 : decode cX6_cutWord 41 = .ok (.iconst 0, 1) := by decide +kernel
theorem dX6_cutWord_42 : decode cX6_cutWord 42 = .ok (.invokevirtual 54, 3) := by decide +kernel
theorem dX6_cutWord_45 : decode cX6_cutWord 45 = .ok (.iload_n 2, 1) := by decide +kernel
theorem dX6_cutWord_46 : decode cX6_cutWord 46 = .ok (.ireturn, 1) := by decide +kernel
theorem dX6_cutNumber_0 : decode cX6_cutNumber 0 = .ok (.iconst 0, 1) := by decide +kernel
theorem dX6_cutNumber_1 : decode cX6_cutNumber 1 = .ok (.istore_n 2, 1) := by decide +kernel
theorem dX6_cutNumber_2 : decode cX6_cutNumber 2 = .ok (.iload_n 1, 1) := by decide +kernel
theorem dX6_cutNumber_3 : decode cX6_cutNumber 3 = .ok (.istore_n 3, 1) := by decide +kernel
theorem dX6_cutNumber_4 : decode cX6_cutNumber 4 = .ok (.iload_n 3, 1) := by decide +kernel
theorem dX6_cutNumber_5 : decode cX6_cutNumber 5 = .ok (.aload_n 0, 1) := by decide +kernel
theorem dX6_cutNumber_6 : decode cX6_cutNumber 6 = .ok (.getfield 34, 3) := by decide +kernel
theorem dX6_cutNumber_9 : decode cX6_cutNumber 9 = .ok (.if_icmp .ge 38, 3) := by decide +kernel
theorem dX6_cutNumber_12 : decode cX6_cutNumber 12 = .ok (.aload_n 0, 1) := by decide +kernel
theorem dX6_cutNumber_13 : decode cX6_cutNumber 13 = .ok (.iload_n 3, 1) := by decide +kernel
theorem dX6_cutNumber_14 : decode cX6_cutNumber 14 = .ok (.invokevirtual 47, 3) := by decide +kernel
theorem dX6_cutNumber_17 : decode cX6_cutNumber 17 = .ok (.invokestatic 69, 3) := by decide +kernel
theorem dX6_cutNumber_20 : decode cX6_cutNumber 20 = .ok (.ifCond .eq 27, 3) := by decide +kernel
theorem dX6_cutNumber_23 : decode cX6_cutNumber 23 = .ok (.iload_n 2, 1) := by decide +kernel
theorem dX6_cutNumber_24 : decode cX6_cutNumber 24 = .ok (.sipush 1000, 3) := by decide +kernel
theorem dX6_cutNumber_27 : decode cX6_cutNumber 27 = .ok (.irem, 1) := by decide +kernel
theorem dX6_cutNumber_28 : decode cX6_cutNumber 28 = .ok (.bipush 10, 2) := by decide +kernel
theorem dX6_cutNumber_30 : decode cX6_cutNumber 30 = .ok (.imul, 1) := by decide +kernel
theorem dX6_cutNumber_31 : decode cX6_cutNumber 31 = .ok (.aload_n 0, 1) := by decide +kernel
theorem dX6_cutNumber_32 : decode cX6_cutNumber 32 = .ok (.iload_n 3, 1) := by decide +kernel
theorem dX6_cutNumber_33 : decode cX6_cutNumber 33 = .ok (.invokevirtual 47, 3) := by decide +kernel
theorem dX6_cutNumber_36 : decode cX6_cutNumber 36 = .ok (.iadd, 1) := by decide +kernel
theorem dX6_cutNumber_37 : decode cX6_cutNumber 37 = .ok (.bipush 48, 2) := by decide +kernel
theorem dX6_cutNumber_39 : decode cX6_cutNumber 39 = .ok (.isub, 1) := by decide +kernel
theorem dX6_cutNumber_40 : decode cX6_cutNumber 40 = .ok (.istore_n 2, 1) := by decide +kernel
theorem dX6_cutNumber_41 : decode cX6_cutNumber 41 = .ok (.iinc 3 1, 3) := by decide +kernel
theorem dX6_cutNumber_44 : decode cX6_cutNumber 44 = .ok (.goto (-40), 3) := by decide +kernel
theorem dX6_cutNumber_47 : decode cX6_cutNumber 47 = .ok (.aload_n 0, 1) := by decide +kernel
theorem dX6_cutNumber_48 : decode cX6_cutNumber 48 = .ok (.iload_n 3, 1) := by decide +kernel
theorem dX6_cutNumber_49 : decode cX6_cutNumber 49 = .ok (.iload_n 1, 1) := by decide +kernel
theorem dX6_cutNumber_50 : decode cX6_cutNumber 50 = .ok (.isub, 1) := by decide +kernel
theorem dX6_cutNumber_51 : decode cX6_cutNumber 51 = .ok (.iconst 4, 1) := by decide +kernel
theorem dX6_cutNumber_52 : decode cX6_cutNumber 52 = .ok (.if_icmp .gt 7, 3) := by decide +kernel
theorem dX6_cutNumber_55 : decode cX6_cutNumber 55 = .ok (.iconst 5, 1) := by decide +kernel
theorem dX6_cutNumber_56 : decode cX6_cutNumber 56 = .ok (.goto 4, 3) := by decide +kernel
theorem dX6_cutNumber_59 : decode cX6_cutNumber 59 = .ok (.iconst 1, 1) := by decide +kernel
theorem dX6_cutNumber_60 : decode cX6_cutNumber 60 = .ok (.iload_n 1, 1) := by decide +kernel
theorem dX6_cutNumber_61 : decode cX6_cutNumber 61 = .ok (.iload_n 2, 1) := by decide +kernel
theorem dX6_cutNumber_62 : decode cX6_cutNumber 62 = .ok (.invokevirtual 54, 3) := by decide +kernel
theorem dX6_cutNumber_65 : decode cX6_cutNumber 65 = .ok (.iload_n 3, 1) := by decide +kernel
theorem dX6_cutNumber_66 : decode cX6_cutNumber 66 = .ok (.ireturn, 1) := by decide +kernel
theorem dX6_cutQuote_0 : decode cX6_cutQuote 0 = .ok (.aload_n 0, 1) := by decide +kernel
theorem dX6_cutQuote_1 : decode cX6_cutQuote 1 = .ok (.iload_n 1, 1) := by decide +kernel
theorem dX6_cutQuote_2 : decode cX6_cutQuote 2 = .ok (.iconst 1, 1) := by decide +kernel
theorem dX6_cutQuote_3 : decode cX6_cutQuote 3 = .ok (.iadd, 1) := by decide +kernel
theorem dX6_cutQuote_4 : decode cX6_cutQuote 4 = .ok (.invokevirtual 85, 3) := by decide +kernel
theorem dX6_cutQuote_7 : decode cX6_cutQuote 7 = .ok (.istore_n 2, 1) := by decide +kernel
theorem dX6_cutQuote_8 : decode cX6_cutQuote 8 = .ok (.iload_n 2, 1) := by decide +kernel
theorem dX6_cutQuote_9 : decode cX6_cutQuote 9 = .ok (.iload_n 1, 1) := by decide +kernel
theorem dX6_cutQuote_10 : decode cX6_cutQuote 10 = .ok (.isub, 1) := by decide +kernel
theorem dX6_cutQuote_11 : decode cX6_cutQuote 11 = .ok (.iconst 1, 1) := by decide +kernel
theorem dX6_cutQuote_12 : decode cX6_cutQuote 12 = .ok (.isub, 1) := by decide +kernel
theorem dX6_cutQuote_13 : decode cX6_cutQuote 13 = .ok (.istore_n 3, 1) := by decide +kernel
theorem dX6_cutQuote_14 : decode cX6_cutQuote 14 = .ok (.aload_n 0, 1) := by decide +kernel
theorem dX6_cutQuote_15 : decode cX6_cutQuote 15 = .ok (.iload_n 3, 1) := by decide +kernel
theorem dX6_cutQuote_16 : decode cX6_cutQuote 16 = .ok (.ifCond .le 18, 3) := by decide +kernel
theorem dX6_cutQuote_19 : decode cX6_cutQuote 19 = .ok (.aload_n 0, 1) := by decide +kernel
theorem dX6_cutQuote_20 : decode cX6_cutQuote 20 = .ok (.iload_n 2, 1) := by decide +kernel
theorem dX6_cutQuote_21 : decode cX6_cutQuote 21 = .ok (.invokevirtual 47, 3) := by decide +kernel
theorem dX6_cutQuote_24 : decode cX6_cutQuote 24 = .ok (.bipush 34, 2) := by decide +kernel
theorem dX6_cutQuote_26 : decode cX6_cutQuote 26 = .ok (.if_icmp .ne 8, 3) := by decide +kernel
theorem dX6_cutQuote_29 : decode cX6_cutQuote 29 = .ok (.bipush 6, 2) := by decide +kernel
theorem dX6_cutQuote_31 : decode cX6_cutQuote 31 = .ok (.goto 4, 3) := by decide +kernel
theorem dX6_cutQuote_34 : decode cX6_cutQuote 34 = .ok (.iconst 1, 1) := by decide +kernel
theorem dX6_cutQuote_35 : decode cX6_cutQuote 35 = .ok (.iload_n 1, 1) := by decide +kernel
theorem dX6_cutQuote_36 : decode cX6_cutQuote 36 = .ok (.iload_n 3, 1) := by decide +kernel
theorem dX6_cutQuote_37 : decode cX6_cutQuote 37 = .ok (.invokevirtual 54, 3) := by decide +kernel
theorem dX6_cutQuote_40 : decode cX6_cutQuote 40 = .ok (.iload_n 2, 1) := by decide +kernel
theorem dX6_cutQuote_41 : decode cX6_cutQuote 41 = .ok (.iconst 1, 1) := by decide +kernel
theorem dX6_cutQuote_42 : decode cX6_cutQuote 42 = .ok (.iadd, 1) := by decide +kernel
theorem dX6_cutQuote_43 : decode cX6_cutQuote 43 = .ok (.ireturn, 1) := by decide +kernel
theorem dX6_behindSmall_0 : decode cX6_behindSmall 0 = .ok (.iload_n 1, 1) := by decide +kernel
theorem dX6_behindSmall_1 : decode cX6_behindSmall 1 = .ok (.istore_n 2, 1) := by decide +kernel
theorem dX6_behindSmall_2 : decode cX6_behindSmall 2 = .ok (.iload_n 2, 1) := by decide +kernel
theorem dX6_behindSmall_3 : decode cX6_behindSmall 3 = .ok (.aload_n 0, 1) := by decide +kernel
theorem dX6_behindSmall_4 : decode cX6_behindSmall 4 = .ok (.getfield 34, 3) := by decide +kernel
theorem dX6_behindSmall_7 : decode cX6_behindSmall 7 = .ok (.if_icmp .ge 20, 3) := by decide +kernel
theorem dX6_behindSmall_10 : decode cX6_behindSmall 10 = .ok (.aload_n 0, 1) := by decide +kernel
theorem dX6_behindSmall_11 : decode cX6_behindSmall 11 = .ok (.iload_n 2, 1) := by decide +kernel
theorem dX6_behindSmall_12 : decode cX6_behindSmall 12 = .ok (.invokevirtual 47, 3) := by decide +kernel
theorem dX6_behindSmall_15 : decode cX6_behindSmall 15 = .ok (.invokestatic 62, 3) := by decide +kernel
theorem dX6_behindSmall_18 : decode cX6_behindSmall 18 = .ok (.ifCond .eq 9, 3) := by decide +kernel
theorem dX6_behindSmall_21 : decode cX6_behindSmall 21 = .ok (.iinc 2 1, 3) := by decide +kernel
theorem dX6_behindSmall_24 : decode cX6_behindSmall 24 = .ok (.goto (-22), 3) := by decide +kernel
theorem dX6_behindSmall_27 : decode cX6_behindSmall 27 = .ok (.iload_n 2, 1) := by decide +kernel
theorem dX6_behindSmall_28 : decode cX6_behindSmall 28 = .ok (.ireturn, 1) := by decide +kernel
theorem dX6_isWord_0 : decode cX6_isWord 0 = .ok (.iconst 0, 1) := by decide +kernel
theorem dX6_isWord_1 : decode cX6_isWord 1 = .ok (.istore 4, 2) := by decide +kernel
theorem dX6_isWord_3 : decode cX6_isWord 3 = .ok (.iload 4, 2) := by decide +kernel
theorem dX6_isWord_5 : decode cX6_isWord 5 = .ok (.aload_n 3, 1) := by decide +kernel
theorem dX6_isWord_6 : decode cX6_isWord 6 = .ok (.invokevirtual 96, 3) := by decide +kernel
theorem dX6_isWord_9 : decode cX6_isWord 9 = .ok (.if_icmp .ge 28, 3) := by decide +kernel
theorem dX6_isWord_12 : decode cX6_isWord 12 = .ok (.aload_n 0, 1) := by decide +kernel
theorem dX6_isWord_13 : decode cX6_isWord 13 = .ok (.iload_n 1, 1) := by decide +kernel
theorem dX6_isWord_14 : decode cX6_isWord 14 = .ok (.iload 4, 2) := by decide +kernel
theorem dX6_isWord_16 : decode cX6_isWord 16 = .ok (.iadd, 1) := by decide +kernel
theorem dX6_isWord_17 : decode cX6_isWord 17 = .ok (.invokevirtual 47, 3) := by decide +kernel
theorem dX6_isWord_20 : decode cX6_isWord 20 = .ok (.aload_n 3, 1) := by decide +kernel
theorem dX6_isWord_21 : decode cX6_isWord 21 = .ok (.iload 4, 2) := by decide +kernel
theorem dX6_isWord_23 : decode cX6_isWord 23 = .ok (.invokevirtual 99, 3) := by decide +kernel
theorem dX6_isWord_26 : decode cX6_isWord 26 = .ok (.if_icmp .eq 5, 3) := by decide +kernel
theorem dX6_isWord_29 : decode cX6_isWord 29 = .ok (.iconst 0, 1) := by decide +kernel
theorem dX6_isWord_30 : decode cX6_isWord 30 = .ok (.ireturn, 1) := by decide +kernel
theorem dX6_isWord_31 : decode cX6_isWord 31 = .ok (.iinc 4 1, 3) := by decide +kernel
theorem dX6_isWord_34 : decode cX6_isWord 34 = .ok (.goto (-31), 3) := by decide +kernel
theorem dX6_isWord_37 : decode cX6_isWord 37 = .ok (.iload_n 2, 1) := by decide +kernel
theorem dX6_isWord_38 : decode cX6_isWord 38 = .ok (.iload_n 1, 1) := by decide +kernel
theorem dX6_isWord_39 : decode cX6_isWord 39 = .ok (.isub, 1) := by decide +kernel
theorem dX6_isWord_40 : decode cX6_isWord 40 = .ok (.aload_n 3, 1) := by decide +kernel
theorem dX6_isWord_41 : decode cX6_isWord 41 = .ok (.invokevirtual 96, 3) := by decide +kernel
theorem dX6_isWord_44 : decode cX6_isWord 44 = .ok (.if_icmp .ne 7, 3) := by decide +kernel
theorem dX6_isWord_47 : decode cX6_isWord 47 = .ok (.iconst 1, 1) := by decide +kernel
theorem dX6_isWord_48 : decode cX6_isWord 48 = .ok (.goto 4, 3) := by decide +kernel
theorem dX6_isWord_51 : decode cX6_isWord 51 = .ok (.iconst 0, 1) := by decide +kernel
theorem dX6_isWord_52 : decode cX6_isWord 52 = .ok (.ireturn, 1) := by decide +kernel
theorem dX6_isSmall_0 : decode cX6_isSmall 0 = .ok (.iload_n 0, 1) := by decide +kernel
theorem dX6_isSmall_1 : decode cX6_isSmall 1 = .ok (.bipush 97, 2) := by decide +kernel
theorem dX6_isSmall_3 : decode cX6_isSmall 3 = .ok (.if_icmp .lt 13, 3) := by decide +kernel
theorem dX6_isSmall_6 : decode cX6_isSmall 6 = .ok (.iload_n 0, 1) := by decide +kernel
theorem dX6_isSmall_7 : decode cX6_isSmall 7 = .ok (.bipush 122, 2) := by decide +kernel
theorem dX6_isSmall_9 : decode cX6_isSmall 9 = .ok (.if_icmp .gt 7, 3) := by decide +kernel
theorem dX6_isSmall_12 : decode cX6_isSmall 12 = .ok (.iconst 1, 1) := by decide +kernel
theorem dX6_isSmall_13 : decode cX6_isSmall 13 = .ok (.goto 4, 3) := by decide +kernel
theorem dX6_isSmall_16 : decode cX6_isSmall 16 = .ok (.iconst 0, 1) := by decide +kernel
theorem dX6_isSmall_17 : decode cX6_isSmall 17 = .ok (.ireturn, 1) := by decide +kernel
theorem dX6_isDigit_0 : decode cX6_isDigit 0 = .ok (.iload_n 0, 1) := by decide +kernel
theorem dX6_isDigit_1 : decode cX6_isDigit 1 = .ok (.bipush 48, 2) := by decide +kernel
theorem dX6_isDigit_3 : decode cX6_isDigit 3 = .ok (.if_icmp .lt 13, 3) := by decide +kernel
theorem dX6_isDigit_6 : decode cX6_isDigit 6 = .ok (.iload_n 0, 1) := by decide +kernel
theorem dX6_isDigit_7 : decode cX6_isDigit 7 = .ok (.bipush 57, 2) := by decide +kernel
theorem dX6_isDigit_9 : decode cX6_isDigit 9 = .ok (.if_icmp .gt 7, 3) := by decide +kernel
theorem dX6_isDigit_12 : decode cX6_isDigit 12 = .ok (.iconst 1, 1) := by decide +kernel
theorem dX6_isDigit_13 : decode cX6_isDigit 13 = .ok (.goto 4, 3) := by decide +kernel
theorem dX6_isDigit_16 : decode cX6_isDigit 16 = .ok (.iconst 0, 1) := by decide +kernel
theorem dX6_isDigit_17 : decode cX6_isDigit 17 = .ok (.ireturn, 1) := by decide +kernel
theorem dX7_init_0 : decode cX7_init 0 = .ok (.aload_n 0, 1) := by decide +kernel
theorem dX7_init_1 : decode cX7_init 1 = .ok (.invokespecial 3, 3) := by decide +kernel
theorem dX7_init_4 : decode cX7_init 4 = .ok (.aload_n 0, 1) := by decide +kernel
theorem dX7_init_5 : decode cX7_init 5 = .ok (.new 9, 3) := by decide +kernel
theorem dX7_init_8 : decode cX7_init 8 = .ok (.dup, 1) := by decide +kernel
theorem dX7_init_9 : decode cX7_init 9 = .ok (.invokespecial 11, 3) := by decide +kernel
theorem dX7_init_12 : decode cX7_init 12 = .ok (.putfield 12, 3) := by decide +kernel
theorem dX7_init_15 : decode cX7_init 15 = .ok (.aload_n 0, 1) := by decide +kernel
theorem dX7_init_16 : decode cX7_init 16 = .ok (.sipush 10240, 3) := by decide +kernel
theorem dX7_init_19 : decode cX7_init 19 = .ok (.newarray .int, 2) := by decide +kernel
theorem dX7_init_21 : decode cX7_init 21 = .ok (.putfield 18, 3) := by decide +kernel
theorem dX7_init_24 : decode cX7_init 24 = .ok (.aload_n 0, 1) := by decide +kernel
theorem dX7_init_25 : decode cX7_init 25 = .ok (.sipush 10240, 3) := by decide +kernel
theorem dX7_init_28 : decode cX7_init 28 = .ok (.newarray .int, 2) := by decide +kernel
theorem dX7_init_30 : decode cX7_init 30 = .ok (.putfield 22, 3) := by decide +kernel
theorem dX7_init_33 : decode cX7_init 33 = .ok (.aload_n 0, 1) := by decide +kernel
theorem dX7_init_34 : decode cX7_init 34 = .ok (.sipush 626, 3) := by decide +kernel
theorem dX7_init_37 : decode cX7_init 37 = .ok (.newarray .int, 2) := by decide +kernel
theorem dX7_init_39 : decode cX7_init 39 = .ok (.putfield 25, 3) := by decide +kernel
theorem dX7_init_42 : decode cX7_init 42 = .ok (.aload_n 0, 1) := by decide +kernel
theorem dX7_init_43 : decode cX7_init 43 = .ok (.sipush 626, 3) := by decide +kernel
theorem dX7_init_46 : decode cX7_init 46 = .ok (.newarray .int, 2) := by decide +kernel
theorem dX7_init_48 : decode cX7_init 48 = .ok (.putfield 28, 3) := by decide +kernel
theorem dX7_init_51 : decode cX7_init 51 = .ok (.aload_n 0, 1) := by decide +kernel
theorem dX7_init_52 : decode cX7_init 52 = .ok (.sipush 2400, 3) := by decide +kernel
theorem dX7_init_55 : decode cX7_init 55 = .ok (.newarray .int, 2) := by decide +kernel
theorem dX7_init_57 : decode cX7_init 57 = .ok (.putfield 31, 3) := by decide +kernel
theorem dX7_init_60 : decode cX7_init 60 = .ok (.aload_n 0, 1) := by decide +kernel
theorem dX7_init_61 : decode cX7_init 61 = .ok (.sipush 2400, 3) := by decide +kernel
theorem dX7_init_64 : decode cX7_init 64 = .ok (.newarray .int, 2) := by decide +kernel
theorem dX7_init_66 : decode cX7_init 66 = .ok (.putfield 34, 3) := by decide +kernel
theorem dX7_init_69 : decode cX7_init 69 = .ok (.return_, 1) := by decide +kernel
theorem dX7_begin_0 : decode cX7_begin 0 = .ok (.aload_n 0, 1) := by decide +kernel
theorem dX7_begin_1 : decode cX7_begin 1 = .ok (.dup, 1) := by decide +kernel
theorem dX7_begin_2 : decode cX7_begin 2 = .ok (.getfield 37, 3) := by decide +kernel
theorem dX7_begin_5 : decode cX7_begin 5 = .ok (.iconst 1, 1) := by decide +kernel
theorem dX7_begin_6 : decode cX7_begin 6 = .ok (.iadd, 1) := by decide +kernel
theorem dX7_begin_7 : decode cX7_begin 7 = .ok (.putfield 37, 3) := by decide +kernel
theorem dX7_begin_10 : decode cX7_begin 10 = .ok (.aload_n 0, 1) := by decide +kernel
theorem dX7_begin_11 : decode cX7_begin 11 = .ok (.iconst 0, 1) := by decide +kernel
theorem dX7_begin_12 : decode cX7_begin 12 = .ok (.putfield 41, 3) := by decide +kernel
theorem dX7_begin_15 : decode cX7_begin 15 = .ok (.return_, 1) := by decide +kernel
theorem dX7_visit_0 : decode cX7_visit 0 = .ok (.aload_n 0, 1) := by decide +kernel
theorem dX7_visit_1 : decode cX7_visit 1 = .ok (.getfield 41, 3) := by decide +kernel
theorem dX7_visit_4 : decode cX7_visit 4 = .ok (.istore_n 2, 1) := by decide +kernel
theorem dX7_visit_5 : decode cX7_visit 5 = .ok (.aload_n 0, 1) := by decide +kernel
theorem dX7_visit_6 : decode cX7_visit 6 = .ok (.iconst 0, 1) := by decide +kernel
theorem dX7_visit_7 : decode cX7_visit 7 = .ok (.putfield 44, 3) := by decide +kernel
theorem dX7_visit_10 : decode cX7_visit 10 = .ok (.aload_n 0, 1) := by decide +kernel
theorem dX7_visit_11 : decode cX7_visit 11 = .ok (.iload_n 1, 1) := by decide +kernel
theorem dX7_visit_12 : decode cX7_visit 12 = .ok (.iconst 0, 1) := by decide +kernel
theorem dX7_visit_13 : decode cX7_visit 13 = .ok (.invokevirtual 47, 3) := by decide +kernel
theorem dX7_visit_16 : decode cX7_visit 16 = .ok (.iconst 0, 1) := by decide +kernel
theorem dX7_visit_17 : decode cX7_visit 17 = .ok (.istore_n 3, 1) := by decide +kernel
theorem dX7_visit_18 : decode cX7_visit 18 = .ok (.iload_n 3, 1) := by decide +kernel
theorem dX7_visit_19 : decode cX7_visit 19 = .ok (.sipush 2400, 3) := by decide +kernel
theorem dX7_visit_22 : decode cX7_visit 22 = .ok (.if_icmp .ge 154, 3) := by decide +kernel
theorem dX7_visit_25 : decode cX7_visit 25 = .ok (.aload_n 0, 1) := by decide +kernel
theorem dX7_visit_26 : decode cX7_visit 26 = .ok (.getfield 44, 3) := by decide +kernel
theorem dX7_visit_29 : decode cX7_visit 29 = .ok (.ifCond .le 147, 3) := by decide +kernel
theorem dX7_visit_32 : decode cX7_visit 32 = .ok (.aload_n 0, 1) := by decide +kernel
theorem dX7_visit_33 : decode cX7_visit 33 = .ok (.dup, 1) := by decide +kernel
theorem dX7_visit_34 : decode cX7_visit 34 = .ok (.getfield 44, 3) := by decide +kernel
theorem dX7_visit_37 : decode cX7_visit 37 = .ok (.iconst 1, 1) := by decide +kernel
theorem dX7_visit_38 : decode cX7_visit 38 = .ok (.isub, 1) := by decide +kernel
theorem dX7_visit_39 : decode cX7_visit 39 = .ok (.putfield 44, 3) := by decide +kernel
theorem dX7_visit_42 : decode cX7_visit 42 = .ok (.aload_n 0, 1) := by decide +kernel
theorem dX7_visit_43 : decode cX7_visit 43 = .ok (.getfield 31, 3) := by decide +kernel
theorem dX7_visit_46 : decode cX7_visit 46 = .ok (.aload_n 0, 1) := by decide +kernel
theorem dX7_visit_47 : decode cX7_visit 47 = .ok (.getfield 44, 3) := by decide +kernel
theorem dX7_visit_50 : decode cX7_visit 50 = .ok (.iaload, 1) := by decide +kernel
theorem dX7_visit_51 : decode cX7_visit 51 = .ok (.istore 4, 2) := by decide +kernel
theorem dX7_visit_53 : decode cX7_visit 53 = .ok (.aload_n 0, 1) := by decide +kernel
theorem dX7_visit_54 : decode cX7_visit 54 = .ok (.getfield 34, 3) := by decide +kernel
theorem dX7_visit_57 : decode cX7_visit 57 = .ok (.aload_n 0, 1) := by decide +kernel
theorem dX7_visit_58 : decode cX7_visit 58 = .ok (.getfield 44, 3) := by decide +kernel
theorem dX7_visit_61 : decode cX7_visit 61 = .ok (.iaload, 1) := by decide +kernel
theorem dX7_visit_62 : decode cX7_visit 62 = .ok (.istore 5, 2) := by decide +kernel
theorem dX7_visit_64 : decode cX7_visit 64 = .ok (.aload_n 0, 1) := by decide +kernel
theorem dX7_visit_65 : decode cX7_visit 65 = .ok (.getfield 12, 3) := by decide +kernel
theorem dX7_visit_68 : decode cX7_visit 68 = .ok (.iload 4, 2) := by decide +kernel
theorem dX7_visit_70 : decode cX7_visit 70 = .ok (.invokevirtual 51, 3) := by decide +kernel
theorem dX7_visit_73 : decode cX7_visit 73 = .ok (.ifCond .eq 97, 3) := by decide +kernel
theorem dX7_visit_76 : decode cX7_visit 76 = .ok (.aload_n 0, 1) := by decide +kernel
theorem dX7_visit_77 : decode cX7_visit 77 = .ok (.getfield 18, 3) := by decide +kernel
theorem dX7_visit_80 : decode cX7_visit 80 = .ok (.iload 4, 2) := by decide +kernel
theorem dX7_visit_82 : decode cX7_visit 82 = .ok (.iaload, 1) := by decide +kernel
theorem dX7_visit_83 : decode cX7_visit 83 = .ok (.aload_n 0, 1) := by decide +kernel
theorem dX7_visit_84 : decode cX7_visit 84 = .ok (.getfield 37, 3) := by decide +kernel
theorem dX7_visit_87 : decode cX7_visit 87 = .ok (.if_icmp .ne 6, 3) := by decide +kernel
theorem dX7_visit_90 : decode cX7_visit 90 = .ok (.goto 80, 3) := by decide +kernel
theorem dX7_visit_93 : decode cX7_visit 93 = .ok (.aload_n 0, 1) := by decide +kernel
theorem dX7_visit_94 : decode cX7_visit 94 = .ok (.iload 4, 2) := by decide +kernel
theorem dX7_visit_96 : decode cX7_visit 96 = .ok (.iload 5, 2) := by decide +kernel
theorem dX7_visit_98 : decode cX7_visit 98 = .ok (.invokevirtual 55, 3) := by decide +kernel
theorem dX7_visit_101 : decode cX7_visit 101 = .ok (.aload_n 0, 1) := by decide +kernel
theorem dX7_visit_102 : decode cX7_visit 102 = .ok (.getfield 12, 3) := by decide +kernel
theorem dX7_visit_105 : decode cX7_visit 105 = .ok (.iload 4, 2) := by decide +kernel
theorem dX7_visit_107 : decode cX7_visit 107 = .ok (.invokevirtual 58, 3) := by decide +kernel
theorem dX7_visit_110 : decode cX7_visit 110 = .ok (.istore 6, 2) := by decide +kernel
theorem dX7_visit_112 : decode cX7_visit 112 = .ok (.aload_n 0, 1) := by decide +kernel
theorem dX7_visit_113 : decode cX7_visit 113 = .ok (.getfield 12, 3) := by decide +kernel
theorem dX7_visit_116 : decode cX7_visit 116 = .ok (.iload 4, 2) := by decide +kernel
theorem dX7_visit_118 : decode cX7_visit 118 = .ok (.invokevirtual 62, 3) := by decide +kernel
theorem dX7_visit_121 : decode cX7_visit 121 = .ok (.iconst 1, 1) := by decide +kernel
theorem dX7_visit_122 : decode cX7_visit 122 = .ok (.if_icmp .ne 28, 3) := by decide +kernel
theorem dX7_visit_125 : decode cX7_visit 125 = .ok (.aload_n 0, 1) := by decide +kernel
theorem dX7_visit_126 : decode cX7_visit 126 = .ok (.aload_n 0, 1) := by decide +kernel
theorem dX7_visit_127 : decode cX7_visit 127 = .ok (.getfield 12, 3) := by decide +kernel
theorem dX7_visit_130 : decode cX7_visit 130 = .ok (.iload 4, 2) := by decide +kernel
theorem dX7_visit_132 : decode cX7_visit 132 = .ok (.invokevirtual 65, 3) := by decide +kernel
theorem dX7_visit_135 : decode cX7_visit 135 = .ok (.iload 5, 2) := by decide +kernel
theorem dX7_visit_137 : decode cX7_visit 137 = .ok (.aload_n 0, 1) := by decide +kernel
theorem dX7_visit_138 : decode cX7_visit 138 = .ok (.getfield 12, 3) := by decide +kernel
theorem dX7_visit_141 : decode cX7_visit 141 = .ok (.iload 6, 2) := by decide +kernel
theorem dX7_visit_143 : decode cX7_visit 143 = .ok (.invokevirtual 68, 3) := by decide +kernel
theorem dX7_visit_146 : decode cX7_visit 146 = .ok (.iadd, 1) := by decide +kernel
theorem dX7_visit_147 : decode cX7_visit 147 = .ok (.invokevirtual 47, 3) := by decide +kernel
theorem dX7_visit_150 : decode cX7_visit 150 = .ok (.aload_n 0, 1) := by decide +kernel
theorem dX7_visit_151 : decode cX7_visit 151 = .ok (.getfield 12, 3) := by decide +kernel
theorem dX7_visit_154 : decode cX7_visit 154 = .ok (.iload 4, 2) := by decide +kernel
theorem dX7_visit_156 : decode cX7_visit 156 = .ok (.invokevirtual 62, 3) := by decide +kernel
theorem dX7_visit_159 : decode cX7_visit 159 = .ok (.ifCond .eq 11, 3) := by decide +kernel
theorem dX7_visit_162 : decode cX7_visit 162 = .ok (.aload_n 0, 1) := by decide +kernel
theorem dX7_visit_163 : decode cX7_visit 163 = .ok (.iload 6, 2) := by decide +kernel
theorem dX7_visit_165 : decode cX7_visit 165 = .ok (.iload 5, 2) := by decide +kernel
theorem dX7_visit_167 : decode cX7_visit 167 = .ok (.invokevirtual 47, 3) := by decide +kernel
theorem dX7_visit_170 : decode cX7_visit 170 = .ok (.iinc 3 1, 3) := by decide +kernel
theorem dX7_visit_173 : decode cX7_visit 173 = .ok (.goto (-155), 3) := by decide +kernel
theorem dX7_visit_176 : decode cX7_visit 176 = .ok (.aload_n 0, 1) := by decide +kernel
theorem dX7_visit_177 : decode cX7_visit 177 = .ok (.getfield 41, 3) := by decide +kernel
theorem dX7_visit_180 : decode cX7_visit 180 = .ok (.iload_n 2, 1) := by decide +kernel
theorem dX7_visit_181 : decode cX7_visit 181 = .ok (.isub, 1) := by decide +kernel
theorem dX7_visit_182 : decode cX7_visit 182 = .ok (.ireturn, 1) := by decide +kernel
theorem dX7_meet_0 : decode cX7_meet 0 = .ok (.aload_n 0, 1) := by decide +kernel
theorem dX7_meet_1 : decode cX7_meet 1 = .ok (.getfield 18, 3) := by decide +kernel
theorem dX7_meet_4 : decode cX7_meet 4 = .ok (.iload_n 1, 1) := by decide +kernel
theorem dX7_meet_5 : decode cX7_meet 5 = .ok (.aload_n 0, 1) := by decide +kernel
theorem dX7_meet_6 : decode cX7_meet 6 = .ok (.getfield 37, 3) := by decide +kernel
theorem dX7_meet_9 : decode cX7_meet 9 = .ok (.iastore, 1) := by decide +kernel
theorem dX7_meet_10 : decode cX7_meet 10 = .ok (.aload_n 0, 1) := by decide +kernel
theorem dX7_meet_11 : decode cX7_meet 11 = .ok (.getfield 22, 3) := by decide +kernel
theorem dX7_meet_14 : decode cX7_meet 14 = .ok (.iload_n 1, 1) := by decide +kernel
theorem dX7_meet_15 : decode cX7_meet 15 = .ok (.aload_n 0, 1) := by decide +kernel
theorem dX7_meet_16 : decode cX7_meet 16 = .ok (.getfield 41, 3) := by decide +kernel
theorem dX7_meet_19 : decode cX7_meet 19 = .ok (.iastore, 1) := by decide +kernel
theorem dX7_meet_20 : decode cX7_meet 20 = .ok (.aload_n 0, 1) := by decide +kernel
theorem dX7_meet_21 : decode cX7_meet 21 = .ok (.getfield 41, 3) := by decide +kernel
theorem dX7_meet_24 : decode cX7_meet 24 = .ok (.aload_n 0, 1) := by decide +kernel
theorem dX7_meet_25 : decode cX7_meet 25 = .ok (.getfield 25, 3) := by decide +kernel
theorem dX7_meet_28 : decode cX7_meet 28 = .ok (.arraylength, 1) := by decide +kernel
theorem dX7_meet_29 : decode cX7_meet 29 = .ok (.if_icmp .ge 23, 3) := by decide +kernel
theorem dX7_meet_32 : decode cX7_meet 32 = .ok (.aload_n 0, 1) := by decide +kernel
theorem dX7_meet_33 : decode cX7_meet 33 = .ok (.getfield 25, 3) := by decide +kernel
theorem dX7_meet_36 : decode cX7_meet 36 = .ok (.aload_n 0, 1) := by decide +kernel
theorem dX7_meet_37 : decode cX7_meet 37 = .ok (.getfield 41, 3) := by decide +kernel
theorem dX7_meet_40 : decode cX7_meet 40 = .ok (.iload_n 1, 1) := by decide +kernel
theorem dX7_meet_41 : decode cX7_meet 41 = .ok (.iastore, 1) := by decide +kernel
theorem dX7_meet_42 : decode cX7_meet 42 = .ok (.aload_n 0, 1) := by decide +kernel
theorem dX7_meet_43 : decode cX7_meet 43 = .ok (.getfield 28, 3) := by decide +kernel
theorem dX7_meet_46 : decode cX7_meet 46 = .ok (.aload_n 0, 1) := by decide +kernel
theorem dX7_meet_47 : decode cX7_meet 47 = .ok (.getfield 41, 3) := by decide +kernel
theorem dX7_meet_50 : decode cX7_meet 50 = .ok (.iload_n 2, 1) := by decide +kernel
theorem dX7_meet_51 : decode cX7_meet 51 = .ok (.iastore, 1) := by decide +kernel
theorem dX7_meet_52 : decode cX7_meet 52 = .ok (.aload_n 0, 1) := by decide +kernel
theorem dX7_meet_53 : decode cX7_meet 53 = .ok (.dup, 1) := by decide +kernel
theorem dX7_meet_54 : decode cX7_meet 54 = .ok (.getfield 41, 3) := by decide +kernel
theorem dX7_meet_57 : decode cX7_meet 57 = .ok (.iconst 1, 1) := by decide +kernel
theorem dX7_meet_58 : decode cX7_meet 58 = .ok (.iadd, 1) := by decide +kernel
theorem dX7_meet_59 : decode cX7_meet 59 = .ok (.putfield 41, 3) := by decide +kernel
theorem dX7_meet_62 : decode cX7_meet 62 = .ok (.return_, 1) := by decide +kernel
theorem dX7_push_0 : decode cX7_push 0 = .ok (.aload_n 0, 1) := by decide +kernel
theorem dX7_push_1 : decode cX7_push 1 = .ok (.getfield 44, 3) := by decide +kernel
theorem dX7_push_4 : decode cX7_push 4 = .ok (.sipush 2400, 3) := by decide +kernel
theorem dX7_push_7 : decode cX7_push 7 = .ok (.if_icmp .ge 33, 3) := by decide +kernel
theorem dX7_push_10 : decode cX7_push 10 = .ok (.aload_n 0, 1) := by decide +kernel
theorem dX7_push_11 : decode cX7_push 11 = .ok (.getfield 31, 3) := by decide +kernel
theorem dX7_push_14 : decode cX7_push 14 = .ok (.aload_n 0, 1) := by decide +kernel
theorem dX7_push_15 : decode cX7_push 15 = .ok (.getfield 44, 3) := by decide +kernel
theorem dX7_push_18 : decode cX7_push 18 = .ok (.iload_n 1, 1) := by decide +kernel
theorem dX7_push_19 : decode cX7_push 19 = .ok (.iastore, 1) := by decide +kernel
theorem dX7_push_20 : decode cX7_push 20 = .ok (.aload_n 0, 1) := by decide +kernel
theorem dX7_push_21 : decode cX7_push 21 = .ok (.getfield 34, 3) := by decide +kernel
theorem dX7_push_24 : decode cX7_push 24 = .ok (.aload_n 0, 1) := by decide +kernel
theorem dX7_push_25 : decode cX7_push 25 = .ok (.getfield 44, 3) := by decide +kernel
theorem dX7_push_28 : decode cX7_push 28 = .ok (.iload_n 2, 1) := by decide +kernel
theorem dX7_push_29 : decode cX7_push 29 = .ok (.iastore, 1) := by decide +kernel
theorem dX7_push_30 : decode cX7_push 30 = .ok (.aload_n 0, 1) := by decide +kernel
theorem dX7_push_31 : decode cX7_push 31 = .ok (.dup, 1) := by decide +kernel
theorem dX7_push_32 : decode cX7_push 32 = .ok (.getfield 44, 3) := by decide +kernel
theorem dX7_push_35 : decode cX7_push 35 = .ok (.iconst 1, 1) := by decide +kernel
theorem dX7_push_36 : decode cX7_push 36 = .ok (.iadd, 1) := by decide +kernel
theorem dX7_push_37 : decode cX7_push 37 = .ok (.putfield 44, 3) := by decide +kernel
theorem dX7_push_40 : decode cX7_push 40 = .ok (.return_, 1) := by decide +kernel
theorem dX7_ruleAt_0 : decode cX7_ruleAt 0 = .ok (.iload_n 1, 1) := by decide +kernel
theorem dX7_ruleAt_1 : decode cX7_ruleAt 1 = .ok (.ifCond .lt 29, 3) := by decide +kernel
theorem dX7_ruleAt_4 : decode cX7_ruleAt 4 = .ok (.iload_n 1, 1) := by decide +kernel
theorem dX7_ruleAt_5 : decode cX7_ruleAt 5 = .ok (.aload_n 0, 1) := by decide +kernel
theorem dX7_ruleAt_6 : decode cX7_ruleAt 6 = .ok (.getfield 41, 3) := by decide +kernel
theorem dX7_ruleAt_9 : decode cX7_ruleAt 9 = .ok (.if_icmp .ge 21, 3) := by decide +kernel
theorem dX7_ruleAt_12 : decode cX7_ruleAt 12 = .ok (.iload_n 1, 1) := by decide +kernel
theorem dX7_ruleAt_13 : decode cX7_ruleAt 13 = .ok (.aload_n 0, 1) := by decide +kernel
theorem dX7_ruleAt_14 : decode cX7_ruleAt 14 = .ok (.getfield 25, 3) := by decide +kernel
theorem dX7_ruleAt_17 : decode cX7_ruleAt 17 = .ok (.arraylength, 1) := by decide +kernel
theorem dX7_ruleAt_18 : decode cX7_ruleAt 18 = .ok (.if_icmp .ge 12, 3) := by decide +kernel
theorem dX7_ruleAt_21 : decode cX7_ruleAt 21 = .ok (.aload_n 0, 1) := by decide +kernel
theorem dX7_ruleAt_22 : decode cX7_ruleAt 22 = .ok (.getfield 25, 3) := by decide +kernel
theorem dX7_ruleAt_25 : decode cX7_ruleAt 25 = .ok (.iload_n 1, 1) := by decide +kernel
theorem dX7_ruleAt_26 : decode cX7_ruleAt 26 = .ok (.iaload, 1) := by decide +kernel
theorem dX7_ruleAt_27 : decode cX7_ruleAt 27 = .ok (.goto 4, 3) := by decide +kernel
theorem dX7_ruleAt_30 : decode cX7_ruleAt 30 = .ok (.iconst (-1), 1) := by decide +kernel
theorem dX7_ruleAt_31 : decode cX7_ruleAt 31 = .ok (.ireturn, 1) := by decide +kernel
theorem dX7_placeAt_0 : decode cX7_placeAt 0 = .ok (.iload_n 1, 1) := by decide +kernel
theorem dX7_placeAt_1 : decode cX7_placeAt 1 = .ok (.ifCond .lt 29, 3) := by decide +kernel
theorem dX7_placeAt_4 : decode cX7_placeAt 4 = .ok (.iload_n 1, 1) := by decide +kernel
theorem dX7_placeAt_5 : decode cX7_placeAt 5 = .ok (.aload_n 0, 1) := by decide +kernel
theorem dX7_placeAt_6 : decode cX7_placeAt 6 = .ok (.getfield 41, 3) := by decide +kernel
theorem dX7_placeAt_9 : decode cX7_placeAt 9 = .ok (.if_icmp .ge 21, 3) := by decide +kernel
theorem dX7_placeAt_12 : decode cX7_placeAt 12 = .ok (.iload_n 1, 1) := by decide +kernel
theorem dX7_placeAt_13 : decode cX7_placeAt 13 = .ok (.aload_n 0, 1) := by decide +kernel
theorem dX7_placeAt_14 : decode cX7_placeAt 14 = .ok (.getfield 28, 3) := by decide +kernel
theorem dX7_placeAt_17 : decode cX7_placeAt 17 = .ok (.arraylength, 1) := by decide +kernel
theorem dX7_placeAt_18 : decode cX7_placeAt 18 = .ok (.if_icmp .ge 12, 3) := by decide +kernel
theorem dX7_placeAt_21 : decode cX7_placeAt 21 = .ok (.aload_n 0, 1) := by decide +kernel
theorem dX7_placeAt_22 : decode cX7_placeAt 22 = .ok (.getfield 28, 3) := by decide +kernel
theorem dX7_placeAt_25 : decode cX7_placeAt 25 = .ok (.iload_n 1, 1) := by decide +kernel
theorem dX7_placeAt_26 : decode cX7_placeAt 26 = .ok (.iaload, 1) := by decide +kernel
theorem dX7_placeAt_27 : decode cX7_placeAt 27 = .ok (.goto 4, 3) := by decide +kernel
theorem dX7_placeAt_30 : decode cX7_placeAt 30 = .ok (.iconst (-1), 1) := by decide +kernel
theorem dX7_placeAt_31 : decode cX7_placeAt 31 = .ok (.ireturn, 1) := by decide +kernel
theorem dX7_numberOf_0 : decode cX7_numberOf 0 = .ok (.aload_n 0, 1) := by decide +kernel
theorem dX7_numberOf_1 : decode cX7_numberOf 1 = .ok (.getfield 12, 3) := by decide +kernel
theorem dX7_numberOf_4 : decode cX7_numberOf 4 = .ok (.iload_n 1, 1) := by decide +kernel
theorem dX7_numberOf_5 : decode cX7_numberOf 5 = .ok (.invokevirtual 51, 3) := by decide +kernel
theorem dX7_numberOf_8 : decode cX7_numberOf 8 = .ok (.ifCond .eq 25, 3) := by decide +kernel
theorem dX7_numberOf_11 : decode cX7_numberOf 11 = .ok (.aload_n 0, 1) := by decide +kernel
theorem dX7_numberOf_12 : decode cX7_numberOf 12 = .ok (.getfield 18, 3) := by decide +kernel
theorem dX7_numberOf_15 : decode cX7_numberOf 15 = .ok (.iload_n 1, 1) := by decide +kernel
theorem dX7_numberOf_16 : decode cX7_numberOf 16 = .ok (.iaload, 1) := by decide +kernel
theorem dX7_numberOf_17 : decode cX7_numberOf 17 = .ok (.aload_n 0, 1) := by decide +kernel
theorem dX7_numberOf_18 : decode cX7_numberOf 18 = .ok (.getfield 37, 3) := by decide +kernel
theorem dX7_numberOf_21 : decode cX7_numberOf 21 = .ok (.if_icmp .ne 12, 3) := by decide +kernel
theorem dX7_numberOf_24 : decode cX7_numberOf 24 = .ok (.aload_n 0, 1) := by decide +kernel
theorem dX7_numberOf_25 : decode cX7_numberOf 25 = .ok (.getfield 22, 3) := by decide +kernel
theorem dX7_numberOf_28 : decode cX7_numberOf 28 = .ok (.iload_n 1, 1) := by decide +kernel
theorem dX7_numberOf_29 : decode cX7_numberOf 29 = .ok (.iaload, 1) := by decide +kernel
theorem dX7_numberOf_30 : decode cX7_numberOf 30 = .ok (.goto 4, 3) := by decide +kernel
theorem dX7_numberOf_33 : decode cX7_numberOf 33 = .ok (.iconst (-1), 1) := by decide +kernel
theorem dX7_numberOf_34 : decode cX7_numberOf 34 = .ok (.ireturn, 1) := by decide +kernel
theorem dX7_howOften_0 : decode cX7_howOften 0 = .ok (.iconst 0, 1) := by decide +kernel
theorem dX7_howOften_1 : decode cX7_howOften 1 = .ok (.istore_n 3, 1) := by decide +kernel
theorem dX7_howOften_2 : decode cX7_howOften 2 = .ok (.aload_n 0, 1) := by decide +kernel
theorem dX7_howOften_3 : decode cX7_howOften 3 = .ok (.iconst 0, 1) := by decide +kernel
theorem dX7_howOften_4 : decode cX7_howOften 4 = .ok (.putfield 44, 3) := by decide +kernel
theorem dX7_howOften_7 : decode cX7_howOften 7 = .ok (.aload_n 0, 1) := by decide +kernel
theorem dX7_howOften_8 : decode cX7_howOften 8 = .ok (.iload_n 1, 1) := by decide +kernel
theorem dX7_howOften_9 : decode cX7_howOften 9 = .ok (.iconst 1, 1) := by decide +kernel
theorem dX7_howOften_10 : decode cX7_howOften 10 = .ok (.invokevirtual 47, 3) := by decide +kernel
theorem dX7_howOften_13 : decode cX7_howOften 13 = .ok (.iconst 0, 1) := by decide +kernel
theorem dX7_howOften_14 : decode cX7_howOften 14 = .ok (.istore 4, 2) := by decide +kernel
theorem dX7_howOften_16 : decode cX7_howOften 16 = .ok (.iload 4, 2) := by decide +kernel
theorem dX7_howOften_18 : decode cX7_howOften 18 = .ok (.sipush 2400, 3) := by decide +kernel
theorem dX7_howOften_21 : decode cX7_howOften 21 = .ok (.if_icmp .ge 146, 3) := by decide +kernel
theorem dX7_howOften_24 : decode cX7_howOften 24 = .ok (.aload_n 0, 1) := by decide +kernel
theorem dX7_howOften_25 : decode cX7_howOften 25 = .ok (.getfield 44, 3) := by decide +kernel
theorem dX7_howOften_28 : decode cX7_howOften 28 = .ok (.ifCond .le 139, 3) := by decide +kernel
theorem dX7_howOften_31 : decode cX7_howOften 31 = .ok (.aload_n 0, 1) := by decide +kernel
theorem dX7_howOften_32 : decode cX7_howOften 32 = .ok (.dup, 1) := by decide +kernel
theorem dX7_howOften_33 : decode cX7_howOften 33 = .ok (.getfield 44, 3) := by decide +kernel
theorem dX7_howOften_36 : decode cX7_howOften 36 = .ok (.iconst 1, 1) := by decide +kernel
theorem dX7_howOften_37 : decode cX7_howOften 37 = .ok (.isub, 1) := by decide +kernel
theorem dX7_howOften_38 : decode cX7_howOften 38 = .ok (.putfield 44, 3) := by decide +kernel
theorem dX7_howOften_41 : decode cX7_howOften 41 = .ok (.aload_n 0, 1) := by decide +kernel
theorem dX7_howOften_42 : decode cX7_howOften 42 = .ok (.getfield 31, 3) := by decide +kernel
theorem dX7_howOften_45 : decode cX7_howOften 45 = .ok (.aload_n 0, 1) := by decide +kernel
theorem dX7_howOften_46 : decode cX7_howOften 46 = .ok (.getfield 44, 3) := by decide +kernel
theorem dX7_howOften_49 : decode cX7_howOften 49 = .ok (.iaload, 1) := by decide +kernel
theorem dX7_howOften_50 : decode cX7_howOften 50 = .ok (.istore 5, 2) := by decide +kernel
theorem dX7_howOften_52 : decode cX7_howOften 52 = .ok (.aload_n 0, 1) := by decide +kernel
theorem dX7_howOften_53 : decode cX7_howOften 53 = .ok (.getfield 34, 3) := by decide +kernel
theorem dX7_howOften_56 : decode cX7_howOften 56 = .ok (.aload_n 0, 1) := by decide +kernel
theorem dX7_howOften_57 : decode cX7_howOften 57 = .ok (.getfield 44, 3) := by decide +kernel
theorem dX7_howOften_60 : decode cX7_howOften 60 = .ok (.iaload, 1) := by decide +kernel
theorem dX7_howOften_61 : decode cX7_howOften 61 = .ok (.istore 6, 2) := by decide +kernel
theorem dX7_howOften_63 : decode cX7_howOften 63 = .ok (.iload 5, 2) := by decide +kernel
theorem dX7_howOften_65 : decode cX7_howOften 65 = .ok (.iload_n 2, 1) := by decide +kernel
theorem dX7_howOften_66 : decode cX7_howOften 66 = .ok (.if_icmp .ne 11, 3) := by decide +kernel
theorem dX7_howOften_69 : decode cX7_howOften 69 = .ok (.iload_n 3, 1) := by decide +kernel
theorem dX7_howOften_70 : decode cX7_howOften 70 = .ok (.iload 6, 2) := by decide +kernel
theorem dX7_howOften_72 : decode cX7_howOften 72 = .ok (.iadd, 1) := by decide +kernel
theorem dX7_howOften_73 : decode cX7_howOften 73 = .ok (.istore_n 3, 1) := by decide +kernel
theorem dX7_howOften_74 : decode cX7_howOften 74 = .ok (.goto 87, 3) := by decide +kernel
theorem dX7_howOften_77 : decode cX7_howOften 77 = .ok (.aload_n 0, 1) := by decide +kernel
theorem dX7_howOften_78 : decode cX7_howOften 78 = .ok (.getfield 12, 3) := by decide +kernel
theorem dX7_howOften_81 : decode cX7_howOften 81 = .ok (.iload 5, 2) := by decide +kernel
theorem dX7_howOften_83 : decode cX7_howOften 83 = .ok (.invokevirtual 62, 3) := by decide +kernel
theorem dX7_howOften_86 : decode cX7_howOften 86 = .ok (.iconst 2, 1) := by decide +kernel
theorem dX7_howOften_87 : decode cX7_howOften 87 = .ok (.if_icmp .ne 31, 3) := by decide +kernel
theorem dX7_howOften_90 : decode cX7_howOften 90 = .ok (.aload_n 0, 1) := by decide +kernel
theorem dX7_howOften_91 : decode cX7_howOften 91 = .ok (.aload_n 0, 1) := by decide +kernel
theorem dX7_howOften_92 : decode cX7_howOften 92 = .ok (.getfield 12, 3) := by decide +kernel
theorem dX7_howOften_95 : decode cX7_howOften 95 = .ok (.iload 5, 2) := by decide +kernel
theorem dX7_howOften_97 : decode cX7_howOften 97 = .ok (.invokevirtual 58, 3) := by decide +kernel
theorem dX7_howOften_100 : decode cX7_howOften 100 = .ok (.iload 6, 2) := by decide +kernel
theorem dX7_howOften_102 : decode cX7_howOften 102 = .ok (.aload_n 0, 1) := by decide +kernel
theorem dX7_howOften_103 : decode cX7_howOften 103 = .ok (.getfield 12, 3) := by decide +kernel
theorem dX7_howOften_106 : decode cX7_howOften 106 = .ok (.iload 5, 2) := by decide +kernel
theorem dX7_howOften_108 : decode cX7_howOften 108 = .ok (.invokevirtual 65, 3) := by decide +kernel
theorem dX7_howOften_111 : decode cX7_howOften 111 = .ok (.imul, 1) := by decide +kernel
theorem dX7_howOften_112 : decode cX7_howOften 112 = .ok (.invokevirtual 47, 3) := by decide +kernel
theorem dX7_howOften_115 : decode cX7_howOften 115 = .ok (.goto 46, 3) := by decide +kernel
theorem dX7_howOften_118 : decode cX7_howOften 118 = .ok (.aload_n 0, 1) := by decide +kernel
theorem dX7_howOften_119 : decode cX7_howOften 119 = .ok (.getfield 12, 3) := by decide +kernel
theorem dX7_howOften_122 : decode cX7_howOften 122 = .ok (.iload 5, 2) := by decide +kernel
theorem dX7_howOften_124 : decode cX7_howOften 124 = .ok (.invokevirtual 62, 3) := by decide +kernel
theorem dX7_howOften_127 : decode cX7_howOften 127 = .ok (.iconst 1, 1) := by decide +kernel
theorem dX7_howOften_128 : decode cX7_howOften 128 = .ok (.if_icmp .ne 33, 3) := by decide +kernel
theorem dX7_howOften_131 : decode cX7_howOften 131 = .ok (.aload_n 0, 1) := by decide +kernel
theorem dX7_howOften_132 : decode cX7_howOften 132 = .ok (.aload_n 0, 1) := by decide +kernel
theorem dX7_howOften_133 : decode cX7_howOften 133 = .ok (.getfield 12, 3) := by decide +kernel
theorem dX7_howOften_136 : decode cX7_howOften 136 = .ok (.iload 5, 2) := by decide +kernel
theorem dX7_howOften_138 : decode cX7_howOften 138 = .ok (.invokevirtual 58, 3) := by decide +kernel
theorem dX7_howOften_141 : decode cX7_howOften 141 = .ok (.iload 6, 2) := by decide +kernel
theorem dX7_howOften_143 : decode cX7_howOften 143 = .ok (.invokevirtual 47, 3) := by decide +kernel
theorem dX7_howOften_146 : decode cX7_howOften 146 = .ok (.aload_n 0, 1) := by decide +kernel
theorem dX7_howOften_147 : decode cX7_howOften 147 = .ok (.aload_n 0, 1) := by decide +kernel
theorem dX7_howOften_148 : decode cX7_howOften 148 = .ok (.getfield 12, 3) := by decide +kernel
theorem dX7_howOften_151 : decode cX7_howOften 151 = .ok (.iload 5, 2) := by decide +kernel
theorem dX7_howOften_153 : decode cX7_howOften 153 = .ok (.invokevirtual 65, 3) := by decide +kernel
theorem dX7_howOften_156 : decode cX7_howOften 156 = .ok (.iload 6, 2) := by decide +kernel
theorem dX7_howOften_158 : decode cX7_howOften 158 = .ok (.invokevirtual 47, 3) := by decide +kernel
theorem dX7_howOften_161 : decode cX7_howOften 161 = .ok (.iinc 4 1, 3) := by decide +kernel
theorem dX7_howOften_164 : decode cX7_howOften 164 = .ok (.goto (-148), 3) := by decide +kernel
theorem dX7_howOften_167 : decode cX7_howOften 167 = .ok (.iload_n 3, 1) := by decide +kernel
theorem dX7_howOften_168 : decode cX7_howOften 168 = .ok (.ireturn, 1) := by decide +kernel
theorem dX8_init_0 : decode cX8_init 0 = .ok (.aload_n 0, 1) := by decide +kernel
theorem dX8_init_1 : decode cX8_init 1 = .ok (.invokespecial 3, 3) := by decide +kernel
theorem dX8_init_4 : decode cX8_init 4 = .ok (.aload_n 0, 1) := by decide +kernel
theorem dX8_init_5 : decode cX8_init 5 = .ok (.new 9, 3) := by decide +kernel
theorem dX8_init_8 : decode cX8_init 8 = .ok (.dup, 1) := by decide +kernel
theorem dX8_init_9 : decode cX8_init 9 = .ok (.invokespecial 11, 3) := by decide +kernel
theorem dX8_init_12 : decode cX8_init 12 = .ok (.putfield 12, 3) := by decide +kernel
theorem dX8_init_15 : decode cX8_init 15 = .ok (.aload_n 0, 1) := by decide +kernel
theorem dX8_init_16 : decode cX8_init 16 = .ok (.aload_n 0, 1) := by decide +kernel
theorem dX8_init_17 : decode cX8_init 17 = .ok (.getfield 12, 3) := by decide +kernel
theorem dX8_init_20 : decode cX8_init 20 = .ok (.getfield 16, 3) := by decide +kernel
theorem dX8_init_23 : decode cX8_init 23 = .ok (.getfield 20, 3) := by decide +kernel
theorem dX8_init_26 : decode cX8_init 26 = .ok (.putfield 26, 3) := by decide +kernel
theorem dX8_init_29 : decode cX8_init 29 = .ok (.aload_n 0, 1) := by decide +kernel
theorem dX8_init_30 : decode cX8_init 30 = .ok (.new 29, 3) := by decide +kernel
theorem dX8_init_33 : decode cX8_init 33 = .ok (.dup, 1) := by decide +kernel
theorem dX8_init_34 : decode cX8_init 34 = .ok (.invokespecial 31, 3) := by decide +kernel
theorem dX8_init_37 : decode cX8_init 37 = .ok (.putfield 32, 3) := by decide +kernel
theorem dX8_init_40 : decode cX8_init 40 = .ok (.aload_n 0, 1) := by decide +kernel
theorem dX8_init_41 : decode cX8_init 41 = .ok (.new 36, 3) := by decide +kernel
theorem dX8_init_44 : decode cX8_init 44 = .ok (.dup, 1) := by decide +kernel
theorem dX8_init_45 : decode cX8_init 45 = .ok (.sipush 600, 3) := by decide +kernel
theorem dX8_init_48 : decode cX8_init 48 = .ok (.invokespecial 38, 3) := by decide +kernel
theorem dX8_init_51 : decode cX8_init 51 = .ok (.putfield 41, 3) := by decide +kernel
theorem dX8_init_54 : decode cX8_init 54 = .ok (.aload_n 0, 1) := by decide +kernel
theorem dX8_init_55 : decode cX8_init 55 = .ok (.new 45, 3) := by decide +kernel
theorem dX8_init_58 : decode cX8_init 58 = .ok (.dup, 1) := by decide +kernel
theorem dX8_init_59 : decode cX8_init 59 = .ok (.bipush 8, 2) := by decide +kernel
theorem dX8_init_61 : decode cX8_init 61 = .ok (.invokespecial 47, 3) := by decide +kernel
theorem dX8_init_64 : decode cX8_init 64 = .ok (.putfield 48, 3) := by decide +kernel
theorem dX8_init_67 : decode cX8_init 67 = .ok (.aload_n 0, 1) := by decide +kernel
theorem dX8_init_68 : decode cX8_init 68 = .ok (.new 45, 3) := by decide +kernel
theorem dX8_init_71 : decode cX8_init 71 = .ok (.dup, 1) := by decide +kernel
theorem dX8_init_72 : decode cX8_init 72 = .ok (.iconst 3, 1) := by decide +kernel
theorem dX8_init_73 : decode cX8_init 73 = .ok (.invokespecial 47, 3) := by decide +kernel
theorem dX8_init_76 : decode cX8_init 76 = .ok (.putfield 52, 3) := by decide +kernel
theorem dX8_init_79 : decode cX8_init 79 = .ok (.aload_n 0, 1) := by decide +kernel
theorem dX8_init_80 : decode cX8_init 80 = .ok (.new 55, 3) := by decide +kernel
theorem dX8_init_83 : decode cX8_init 83 = .ok (.dup, 1) := by decide +kernel
theorem dX8_init_84 : decode cX8_init 84 = .ok (.invokespecial 57, 3) := by decide +kernel
theorem dX8_init_87 : decode cX8_init 87 = .ok (.putfield 58, 3) := by decide +kernel
theorem dX8_init_90 : decode cX8_init 90 = .ok (.aload_n 0, 1) := by decide +kernel
theorem dX8_init_91 : decode cX8_init 91 = .ok (.aload_n 0, 1) := by decide +kernel
theorem dX8_init_92 : decode cX8_init 92 = .ok (.getfield 58, 3) := by decide +kernel
theorem dX8_init_95 : decode cX8_init 95 = .ok (.getfield 62, 3) := by decide +kernel
theorem dX8_init_98 : decode cX8_init 98 = .ok (.putfield 66, 3) := by decide +kernel
theorem dX8_init_101 : decode cX8_init 101 = .ok (.aload_n 0, 1) := by decide +kernel
theorem dX8_init_102 : decode cX8_init 102 = .ok (.new 67, 3) := by decide +kernel
theorem dX8_init_105 : decode cX8_init 105 = .ok (.dup, 1) := by decide +kernel
theorem dX8_init_106 : decode cX8_init 106 = .ok (.invokespecial 69, 3) := by decide +kernel
theorem dX8_init_109 : decode cX8_init 109 = .ok (.putfield 70, 3) := by decide +kernel
theorem dX8_init_112 : decode cX8_init 112 = .ok (.return_, 1) := by decide +kernel
theorem dX8_status_0 : decode cX8_status 0 = .ok (.aload_n 0, 1) := by decide +kernel
theorem dX8_status_1 : decode cX8_status 1 = .ok (.getfield 74, 3) := by decide +kernel
theorem dX8_status_4 : decode cX8_status 4 = .ok (.ireturn, 1) := by decide +kernel
theorem dX8_feed_0 : decode cX8_feed 0 = .ok (.aload_n 0, 1) := by decide +kernel
theorem dX8_feed_1 : decode cX8_feed 1 = .ok (.getfield 78, 3) := by decide +kernel
theorem dX8_feed_4 : decode cX8_feed 4 = .ok (.sipush 880, 3) := by decide +kernel
theorem dX8_feed_7 : decode cX8_feed 7 = .ok (.if_icmp .le 5, 3) := by decide +kernel
theorem dX8_feed_10 : decode cX8_feed 10 = .ok (.iconst (-1), 1) := by decide +kernel
theorem dX8_feed_11 : decode cX8_feed 11 = .ok (.ireturn, 1) := by decide +kernel
theorem dX8_feed_12 : decode cX8_feed 12 = .ok (.aload_n 0, 1) := by decide +kernel
theorem dX8_feed_13 : decode cX8_feed 13 = .ok (.iload_n 1, 1) := by decide +kernel
theorem dX8_feed_14 : decode cX8_feed 14 = .ok (.invokevirtual 81, 3) := by decide +kernel
theorem dX8_feed_17 : decode cX8_feed 17 = .ok (.aload_n 0, 1) := by decide +kernel
theorem dX8_feed_18 : decode cX8_feed 18 = .ok (.iload_n 2, 1) := by decide +kernel
theorem dX8_feed_19 : decode cX8_feed 19 = .ok (.invokevirtual 81, 3) := by decide +kernel
theorem dX8_feed_22 : decode cX8_feed 22 = .ok (.aload_n 0, 1) := by decide +kernel
theorem dX8_feed_23 : decode cX8_feed 23 = .ok (.iload_n 3, 1) := by decide +kernel
theorem dX8_feed_24 : decode cX8_feed 24 = .ok (.invokevirtual 81, 3) := by decide +kernel
theorem dX8_feed_27 : decode cX8_feed 27 = .ok (.aload_n 0, 1) := by decide +kernel
theorem dX8_feed_28 : decode cX8_feed 28 = .ok (.iload 4, 2) := by decide +kernel
theorem dX8_feed_30 : decode cX8_feed 30 = .ok (.invokevirtual 81, 3) := by decide +kernel
theorem dX8_feed_33 : decode cX8_feed 33 = .ok (.aload_n 0, 1) := by decide +kernel
theorem dX8_feed_34 : decode cX8_feed 34 = .ok (.iload 5, 2) := by decide +kernel
theorem dX8_feed_36 : decode cX8_feed 36 = .ok (.invokevirtual 81, 3) := by decide +kernel
theorem dX8_feed_39 : decode cX8_feed 39 = .ok (.aload_n 0, 1) := by decide +kernel
theorem dX8_feed_40 : decode cX8_feed 40 = .ok (.getfield 78, 3) := by decide +kernel
theorem dX8_feed_43 : decode cX8_feed 43 = .ok (.ireturn, 1) := by decide +kernel
theorem dX8_load_0 : decode cX8_load 0 = .ok (.iload_n 1, 1) := by decide +kernel
theorem dX8_load_1 : decode cX8_load 1 = .ok (.ifCond .lt 11, 3) := by decide +kernel
theorem dX8_load_4 : decode cX8_load 4 = .ok (.iload_n 1, 1) := by decide +kernel
theorem dX8_load_5 : decode cX8_load 5 = .ok (.aload_n 0, 1) := by decide +kernel
theorem dX8_load_6 : decode cX8_load 6 = .ok (.getfield 78, 3) := by decide +kernel
theorem dX8_load_9 : decode cX8_load 9 = .ok (.if_icmp .le 9, 3) := by decide +kernel
theorem dX8_load_12 : decode cX8_load 12 = .ok (.aload_n 0, 1) := by decide +kernel
theorem dX8_load_13 : decode cX8_load 13 = .ok (.iconst 1, 1) := by decide +kernel
theorem dX8_load_14 : decode cX8_load 14 = .ok (.invokevirtual 84, 3) := by decide +kernel
theorem dX8_load_17 : decode cX8_load 17 = .ok (.ireturn, 1) := by decide +kernel
theorem dX8_load_18 : decode cX8_load 18 = .ok (.aload_n 0, 1) := by decide +kernel
theorem dX8_load_19 : decode cX8_load 19 = .ok (.iconst 0, 1) := by decide +kernel
theorem dX8_load_20 : decode cX8_load 20 = .ok (.putfield 78, 3) := by decide +kernel
theorem dX8_load_23 : decode cX8_load 23 = .ok (.aload_n 0, 1) := by decide +kernel
theorem dX8_load_24 : decode cX8_load 24 = .ok (.getfield 12, 3) := by decide +kernel
theorem dX8_load_27 : decode cX8_load 27 = .ok (.iload_n 1, 1) := by decide +kernel
theorem dX8_load_28 : decode cX8_load 28 = .ok (.invokevirtual 88, 3) := by decide +kernel
theorem dX8_load_31 : decode cX8_load 31 = .ok (.aload_n 0, 1) := by decide +kernel
theorem dX8_load_32 : decode cX8_load 32 = .ok (.getfield 12, 3) := by decide +kernel
theorem dX8_load_35 : decode cX8_load 35 = .ok (.getfield 91, 3) := by decide +kernel
theorem dX8_load_38 : decode cX8_load 38 = .ok (.ifCond .eq 10, 3) := by decide +kernel
theorem dX8_load_41 : decode cX8_load 41 = .ok (.aload_n 0, 1) := by decide +kernel
theorem dX8_load_42 : decode cX8_load 42 = .ok (.bipush 9, 2) := by decide +kernel
theorem dX8_load_44 : decode cX8_load 44 = .ok (.invokevirtual 84, 3) := by decide +kernel
theorem dX8_load_47 : decode cX8_load 47 = .ok (.ireturn, 1) := by decide +kernel
theorem dX8_load_48 : decode cX8_load 48 = .ok (.aload_n 0, 1) := by decide +kernel
theorem dX8_load_49 : decode cX8_load 49 = .ok (.sipush 4800, 3) := by decide +kernel
theorem dX8_load_52 : decode cX8_load 52 = .ok (.invokevirtual 94, 3) := by decide +kernel
theorem dX8_load_55 : decode cX8_load 55 = .ok (.aload_n 0, 1) := by decide +kernel
theorem dX8_load_56 : decode cX8_load 56 = .ok (.invokevirtual 97, 3) := by decide +kernel
theorem dX8_load_59 : decode cX8_load 59 = .ok (.aload_n 0, 1) := by decide +kernel
theorem dX8_load_60 : decode cX8_load 60 = .ok (.getfield 32, 3) := by decide +kernel
theorem dX8_load_63 : decode cX8_load 63 = .ok (.aload_n 0, 1) := by decide +kernel
theorem dX8_load_64 : decode cX8_load 64 = .ok (.getfield 12, 3) := by decide +kernel
theorem dX8_load_67 : decode cX8_load 67 = .ok (.getfield 100, 3) := by decide +kernel
theorem dX8_load_70 : decode cX8_load 70 = .ok (.invokevirtual 103, 3) := by decide +kernel
theorem dX8_load_73 : decode cX8_load 73 = .ok (.aload_n 0, 1) := by decide +kernel
theorem dX8_load_74 : decode cX8_load 74 = .ok (.iconst 0, 1) := by decide +kernel
theorem dX8_load_75 : decode cX8_load 75 = .ok (.invokevirtual 94, 3) := by decide +kernel
theorem dX8_load_78 : decode cX8_load 78 = .ok (.aload_n 0, 1) := by decide +kernel
theorem dX8_load_79 : decode cX8_load 79 = .ok (.invokevirtual 107, 3) := by decide +kernel
theorem dX8_load_82 : decode cX8_load 82 = .ok (.aload_n 0, 1) := by decide +kernel
theorem dX8_load_83 : decode cX8_load 83 = .ok (.aload_n 0, 1) := by decide +kernel
theorem dX8_load_84 : decode cX8_load 84 = .ok (.getfield 32, 3) := by decide +kernel
theorem dX8_load_87 : decode cX8_load 87 = .ok (.getfield 110, 3) := by decide +kernel
theorem dX8_load_90 : decode cX8_load 90 = .ok (.invokevirtual 113, 3) := by decide +kernel
theorem dX8_load_93 : decode cX8_load 93 = .ok (.ireturn, 1) := by decide +kernel
theorem dX8_fault_0 : decode cX8_fault 0 = .ok (.aload_n 0, 1) := by decide +kernel
theorem dX8_fault_1 : decode cX8_fault 1 = .ok (.getfield 12, 3) := by decide +kernel
theorem dX8_fault_4 : decode cX8_fault 4 = .ok (.getfield 116, 3) := by decide +kernel
theorem dX8_fault_7 : decode cX8_fault 7 = .ok (.ifCond .ne 5, 3) := by decide +kernel
theorem dX8_fault_10 : decode cX8_fault 10 = .ok (.iconst (-1), 1) := by decide +kernel
theorem dX8_fault_11 : decode cX8_fault 11 = .ok (.ireturn, 1) := by decide +kernel
theorem dX8_fault_12 : decode cX8_fault 12 = .ok (.iload_n 1, 1) := by decide +kernel
theorem dX8_fault_13 : decode cX8_fault 13 = .ok (.tableswitch 69 0 2 #[27, 35, 57], 27) := by decide +kernel
theorem dX8_fault_40 : decode cX8_fault 40 = .ok (.aload_n 0, 1) := by decide +kernel
theorem dX8_fault_41 : decode cX8_fault 41 = .ok (.getfield 12, 3) := by decide +kernel
theorem dX8_fault_44 : decode cX8_fault 44 = .ok (.getfield 91, 3) := by decide +kernel
theorem dX8_fault_47 : decode cX8_fault 47 = .ok (.ireturn, 1) := by decide +kernel
theorem dX8_fault_48 : decode cX8_fault 48 = .ok (.aload_n 0, 1) := by decide +kernel
theorem dX8_fault_49 : decode cX8_fault 49 = .ok (.getfield 12, 3) := by decide +kernel
theorem dX8_fault_52 : decode cX8_fault 52 = .ok (.getfield 91, 3) := by decide +kernel
theorem dX8_fault_55 : decode cX8_fault 55 = .ok (.ifCond .ne 7, 3) := by decide +kernel
theorem dX8_fault_58 : decode cX8_fault 58 = .ok (.iconst (-1), 1) := by decide +kernel
theorem dX8_fault_59 : decode cX8_fault 59 = .ok (.goto 10, 3) := by decide +kernel
theorem dX8_fault_62 : decode cX8_fault 62 = .ok (.aload_n 0, 1) := by decide +kernel
theorem dX8_fault_63 : decode cX8_fault 63 = .ok (.getfield 12, 3) := by decide +kernel
theorem dX8_fault_66 : decode cX8_fault 66 = .ok (.getfield 120, 3) := by decide +kernel
theorem dX8_fault_69 : decode cX8_fault 69 = .ok (.ireturn, 1) := by decide +kernel
theorem dX8_fault_70 : decode cX8_fault 70 = .ok (.aload_n 0, 1) := by decide +kernel
theorem dX8_fault_71 : decode cX8_fault 71 = .ok (.getfield 12, 3) := by decide +kernel
theorem dX8_fault_74 : decode cX8_fault 74 = .ok (.getfield 91, 3) := by decide +kernel
theorem dX8_fault_77 : decode cX8_fault 77 = .ok (.iconst 1, 1) := by decide +kernel
theorem dX8_fault_78 : decode cX8_fault 78 = .ok (.iadd, 1) := by decide +kernel
theorem dX8_fault_79 : decode cX8_fault 79 = .ok (.iconst 2, 1) := by decide +kernel
theorem dX8_fault_80 : decode cX8_fault 80 = .ok (.idiv, 1) := by decide +kernel
theorem dX8_fault_81 : decode cX8_fault 81 = .ok (.ireturn, 1) := by decide +kernel
theorem dX8_fault_82 : decode cX8_fault 82 = .ok (.iconst (-1), 1) := by decide +kernel
theorem dX8_fault_83 : decode cX8_fault 83 = .ok (.ireturn, 1) := by decide +kernel
theorem dX8_many_0 : decode cX8_many 0 = .ok (.iload_n 1, 1) := by decide +kernel
theorem dX8_many_1 : decode cX8_many 1 = .ok (.tableswitch 112 0 5 #[39, 51, 67, 79, 91, 103], 39) := by decide +kernel
theorem dX8_many_40 : decode cX8_many 40 = .ok (.aload_n 0, 1) := by decide +kernel
theorem dX8_many_41 : decode cX8_many 41 = .ok (.aload_n 0, 1) := by decide +kernel
theorem dX8_many_42 : decode cX8_many 42 = .ok (.getfield 32, 3) := by decide +kernel
theorem dX8_many_45 : decode cX8_many 45 = .ok (.getfield 110, 3) := by decide +kernel
theorem dX8_many_48 : decode cX8_many 48 = .ok (.invokevirtual 113, 3) := by decide +kernel
theorem dX8_many_51 : decode cX8_many 51 = .ok (.ireturn, 1) := by decide +kernel
theorem dX8_many_52 : decode cX8_many 52 = .ok (.aload_n 0, 1) := by decide +kernel
theorem dX8_many_53 : decode cX8_many 53 = .ok (.getfield 58, 3) := by decide +kernel
theorem dX8_many_56 : decode cX8_many 56 = .ok (.invokevirtual 123, 3) := by decide +kernel
theorem dX8_many_59 : decode cX8_many 59 = .ok (.aload_n 0, 1) := by decide +kernel
theorem dX8_many_60 : decode cX8_many 60 = .ok (.aload_n 0, 1) := by decide +kernel
theorem dX8_many_61 : decode cX8_many 61 = .ok (.invokevirtual 126, 3) := by decide +kernel
theorem dX8_many_64 : decode cX8_many 64 = .ok (.invokevirtual 113, 3) := by decide +kernel
theorem dX8_many_67 : decode cX8_many 67 = .ok (.ireturn, 1) := by decide +kernel
theorem dX8_many_68 : decode cX8_many 68 = .ok (.aload_n 0, 1) := by decide +kernel
theorem dX8_many_69 : decode cX8_many 69 = .ok (.aload_n 0, 1) := by decide +kernel
theorem dX8_many_70 : decode cX8_many 70 = .ok (.getfield 32, 3) := by decide +kernel
theorem dX8_many_73 : decode cX8_many 73 = .ok (.invokevirtual 130, 3) := by decide +kernel
theorem dX8_many_76 : decode cX8_many 76 = .ok (.invokevirtual 113, 3) := by decide +kernel
theorem dX8_many_79 : decode cX8_many 79 = .ok (.ireturn, 1) := by decide +kernel
theorem dX8_many_80 : decode cX8_many 80 = .ok (.aload_n 0, 1) := by decide +kernel
theorem dX8_many_81 : decode cX8_many 81 = .ok (.aload_n 0, 1) := by decide +kernel
theorem dX8_many_82 : decode cX8_many 82 = .ok (.getfield 48, 3) := by decide +kernel
theorem dX8_many_85 : decode cX8_many 85 = .ok (.getfield 133, 3) := by decide +kernel
theorem dX8_many_88 : decode cX8_many 88 = .ok (.invokevirtual 113, 3) := by decide +kernel
theorem dX8_many_91 : decode cX8_many 91 = .ok (.ireturn, 1) := by decide +kernel
theorem dX8_many_92 : decode cX8_many 92 = .ok (.aload_n 0, 1) := by decide +kernel
theorem dX8_many_93 : decode cX8_many 93 = .ok (.aload_n 0, 1) := by decide +kernel
theorem dX8_many_94 : decode cX8_many 94 = .ok (.getfield 52, 3) := by decide +kernel
theorem dX8_many_97 : decode cX8_many 97 = .ok (.getfield 133, 3) := by decide +kernel
theorem dX8_many_100 : decode cX8_many 100 = .ok (.invokevirtual 113, 3) := by decide +kernel
theorem dX8_many_103 : decode cX8_many 103 = .ok (.ireturn, 1) := by decide +kernel
theorem dX8_many_104 : decode cX8_many 104 = .ok (.aload_n 0, 1) := by decide +kernel
theorem dX8_many_105 : decode cX8_many 105 = .ok (.aload_n 0, 1) := by decide +kernel
theorem dX8_many_106 : decode cX8_many 106 = .ok (.invokevirtual 134, 3) := by decide +kernel
theorem dX8_many_109 : decode cX8_many 109 = .ok (.invokevirtual 113, 3) := by decide +kernel
theorem dX8_many_112 : decode cX8_many 112 = .ok (.ireturn, 1) := by decide +kernel
theorem dX8_many_113 : decode cX8_many 113 = .ok (.aload_n 0, 1) := by decide +kernel
theorem dX8_many_114 : decode cX8_many 114 = .ok (.iconst 1, 1) := by decide +kernel
theorem dX8_many_115 : decode cX8_many 115 = .ok (.invokevirtual 84, 3) := by decide +kernel
theorem dX8_many_118 : decode cX8_many 118 = .ok (.ireturn, 1) := by decide +kernel
theorem dX8_of_0 : decode cX8_of 0 = .ok (.iload_n 2, 1) := by decide +kernel
theorem dX8_of_1 : decode cX8_of 1 = .ok (.ifCond .lt 9, 3) := by decide +kernel
theorem dX8_of_4 : decode cX8_of 4 = .ok (.iload_n 2, 1) := by decide +kernel
theorem dX8_of_5 : decode cX8_of 5 = .ok (.bipush 6, 2) := by decide +kernel
theorem dX8_of_7 : decode cX8_of 7 = .ok (.if_icmp .le 9, 3) := by decide +kernel
theorem dX8_of_10 : decode cX8_of 10 = .ok (.aload_n 0, 1) := by decide +kernel
theorem dX8_of_11 : decode cX8_of 11 = .ok (.iconst 1, 1) := by decide +kernel
theorem dX8_of_12 : decode cX8_of 12 = .ok (.invokevirtual 84, 3) := by decide +kernel
theorem dX8_of_15 : decode cX8_of 15 = .ok (.ireturn, 1) := by decide +kernel
theorem dX8_of_16 : decode cX8_of 16 = .ok (.aload_n 0, 1) := by decide +kernel
theorem dX8_of_17 : decode cX8_of 17 = .ok (.getfield 32, 3) := by decide +kernel
theorem dX8_of_20 : decode cX8_of 20 = .ok (.iload_n 1, 1) := by decide +kernel
theorem dX8_of_21 : decode cX8_of 21 = .ok (.invokevirtual 137, 3) := by decide +kernel
theorem dX8_of_24 : decode cX8_of 24 = .ok (.ifCond .ne 9, 3) := by decide +kernel
theorem dX8_of_27 : decode cX8_of 27 = .ok (.aload_n 0, 1) := by decide +kernel
theorem dX8_of_28 : decode cX8_of 28 = .ok (.iconst 2, 1) := by decide +kernel
theorem dX8_of_29 : decode cX8_of 29 = .ok (.invokevirtual 84, 3) := by decide +kernel
theorem dX8_of_32 : decode cX8_of 32 = .ok (.ireturn, 1) := by decide +kernel
theorem dX8_of_33 : decode cX8_of 33 = .ok (.iload_n 2, 1) := by decide +kernel
theorem dX8_of_34 : decode cX8_of 34 = .ok (.tableswitch 131 0 5 #[38, 51, 61, 81, 94, 114], 38) := by decide +kernel
theorem dX8_of_72 : decode cX8_of 72 = .ok (.aload_n 0, 1) := by decide +kernel
theorem dX8_of_73 : decode cX8_of 73 = .ok (.aload_n 0, 1) := by decide +kernel
theorem dX8_of_74 : decode cX8_of 74 = .ok (.getfield 32, 3) := by decide +kernel
theorem dX8_of_77 : decode cX8_of 77 = .ok (.iload_n 1, 1) := by decide +kernel
theorem dX8_of_78 : decode cX8_of 78 = .ok (.invokevirtual 141, 3) := by decide +kernel
theorem dX8_of_81 : decode cX8_of 81 = .ok (.invokevirtual 113, 3) := by decide +kernel
theorem dX8_of_84 : decode cX8_of 84 = .ok (.ireturn, 1) := by decide +kernel
theorem dX8_of_85 : decode cX8_of 85 = .ok (.aload_n 0, 1) := by decide +kernel
theorem dX8_of_86 : decode cX8_of 86 = .ok (.aload_n 0, 1) := by decide +kernel
theorem dX8_of_87 : decode cX8_of 87 = .ok (.iload_n 1, 1) := by decide +kernel
theorem dX8_of_88 : decode cX8_of 88 = .ok (.invokevirtual 144, 3) := by decide +kernel
theorem dX8_of_91 : decode cX8_of 91 = .ok (.invokevirtual 113, 3) := by decide +kernel
theorem dX8_of_94 : decode cX8_of 94 = .ok (.ireturn, 1) := by decide +kernel
theorem dX8_of_95 : decode cX8_of 95 = .ok (.aload_n 0, 1) := by decide +kernel
theorem dX8_of_96 : decode cX8_of 96 = .ok (.aload_n 0, 1) := by decide +kernel
theorem dX8_of_97 : decode cX8_of 97 = .ok (.getfield 66, 3) := by decide +kernel
theorem dX8_of_100 : decode cX8_of 100 = .ok (.aload_n 0, 1) := by decide +kernel
theorem dX8_of_101 : decode cX8_of 101 = .ok (.getfield 32, 3) := by decide +kernel
theorem dX8_of_104 : decode cX8_of 104 = .ok (.iload_n 1, 1) := by decide +kernel
theorem dX8_of_105 : decode cX8_of 105 = .ok (.invokevirtual 147, 3) := by decide +kernel
theorem dX8_of_108 : decode cX8_of 108 = .ok (.invokevirtual 150, 3) := by decide +kernel
theorem dX8_of_111 : decode cX8_of 111 = .ok (.invokevirtual 113, 3) := by decide +kernel
theorem dX8_of_114 : decode cX8_of 114 = .ok (.ireturn, 1) := by decide +kernel
theorem dX8_of_115 : decode cX8_of 115 = .ok (.aload_n 0, 1) := by decide +kernel
theorem dX8_of_116 : decode cX8_of 116 = .ok (.aload_n 0, 1) := by decide +kernel
theorem dX8_of_117 : decode cX8_of 117 = .ok (.getfield 32, 3) := by decide +kernel
theorem dX8_of_120 : decode cX8_of 120 = .ok (.iload_n 1, 1) := by decide +kernel
theorem dX8_of_121 : decode cX8_of 121 = .ok (.invokevirtual 155, 3) := by decide +kernel
theorem dX8_of_124 : decode cX8_of 124 = .ok (.invokevirtual 113, 3) := by decide +kernel
theorem dX8_of_127 : decode cX8_of 127 = .ok (.ireturn, 1) := by decide +kernel
theorem dX8_of_128 : decode cX8_of 128 = .ok (.aload_n 0, 1) := by decide +kernel
theorem dX8_of_129 : decode cX8_of 129 = .ok (.aload_n 0, 1) := by decide +kernel
theorem dX8_of_130 : decode cX8_of 130 = .ok (.getfield 66, 3) := by decide +kernel
theorem dX8_of_133 : decode cX8_of 133 = .ok (.aload_n 0, 1) := by decide +kernel
theorem dX8_of_134 : decode cX8_of 134 = .ok (.getfield 32, 3) := by decide +kernel
theorem dX8_of_137 : decode cX8_of 137 = .ok (.iload_n 1, 1) := by decide +kernel
theorem dX8_of_138 : decode cX8_of 138 = .ok (.invokevirtual 147, 3) := by decide +kernel
theorem dX8_of_141 : decode cX8_of 141 = .ok (.invokevirtual 158, 3) := by decide +kernel
theorem dX8_of_144 : decode cX8_of 144 = .ok (.invokevirtual 113, 3) := by decide +kernel
theorem dX8_of_147 : decode cX8_of 147 = .ok (.ireturn, 1) := by decide +kernel
theorem dX8_of_148 : decode cX8_of 148 = .ok (.aload_n 0, 1) := by decide +kernel
theorem dX8_of_149 : decode cX8_of 149 = .ok (.aload_n 0, 1) := by decide +kernel
theorem dX8_of_150 : decode cX8_of 150 = .ok (.getfield 70, 3) := by decide +kernel
theorem dX8_of_153 : decode cX8_of 153 = .ok (.aload_n 0, 1) := by decide +kernel
theorem dX8_of_154 : decode cX8_of 154 = .ok (.getfield 32, 3) := by decide +kernel
theorem dX8_of_157 : decode cX8_of 157 = .ok (.iload_n 1, 1) := by decide +kernel
theorem dX8_of_158 : decode cX8_of 158 = .ok (.invokevirtual 161, 3) := by decide +kernel
theorem dX8_of_161 : decode cX8_of 161 = .ok (.invokevirtual 113, 3) := by decide +kernel
theorem dX8_of_164 : decode cX8_of 164 = .ok (.ireturn, 1) := by decide +kernel
theorem dX8_of_165 : decode cX8_of 165 = .ok (.aload_n 0, 1) := by decide +kernel
theorem dX8_of_166 : decode cX8_of 166 = .ok (.aload_n 0, 1) := by decide +kernel
theorem dX8_of_167 : decode cX8_of 167 = .ok (.getfield 32, 3) := by decide +kernel
theorem dX8_of_170 : decode cX8_of 170 = .ok (.iload_n 1, 1) := by decide +kernel
theorem dX8_of_171 : decode cX8_of 171 = .ok (.invokevirtual 165, 3) := by decide +kernel
theorem dX8_of_174 : decode cX8_of 174 = .ok (.invokevirtual 113, 3) := by decide +kernel
theorem dX8_of_177 : decode cX8_of 177 = .ok (.ireturn, 1) := by decide +kernel
theorem dX8_letter_0 : decode cX8_letter 0 = .ok (.aload_n 0, 1) := by decide +kernel
theorem dX8_letter_1 : decode cX8_letter 1 = .ok (.iload_n 1, 1) := by decide +kernel
theorem dX8_letter_2 : decode cX8_letter 2 = .ok (.iload_n 2, 1) := by decide +kernel
theorem dX8_letter_3 : decode cX8_letter 3 = .ok (.iconst 0, 1) := by decide +kernel
theorem dX8_letter_4 : decode cX8_letter 4 = .ok (.invokevirtual 168, 3) := by decide +kernel
theorem dX8_letter_7 : decode cX8_letter 7 = .ok (.istore_n 3, 1) := by decide +kernel
theorem dX8_letter_8 : decode cX8_letter 8 = .ok (.iload_n 3, 1) := by decide +kernel
theorem dX8_letter_9 : decode cX8_letter 9 = .ok (.ifCond .eq 11, 3) := by decide +kernel
theorem dX8_letter_12 : decode cX8_letter 12 = .ok (.aload_n 0, 1) := by decide +kernel
theorem dX8_letter_13 : decode cX8_letter 13 = .ok (.iload_n 3, 1) := by decide +kernel
theorem dX8_letter_14 : decode cX8_letter 14 = .ok (.invokevirtual 84, 3) := by decide +kernel
theorem dX8_letter_17 : decode cX8_letter 17 = .ok (.goto 16, 3) := by decide +kernel
theorem dX8_letter_20 : decode cX8_letter 20 = .ok (.aload_n 0, 1) := by decide +kernel
theorem dX8_letter_21 : decode cX8_letter 21 = .ok (.aload_n 0, 1) := by decide +kernel
theorem dX8_letter_22 : decode cX8_letter 22 = .ok (.getfield 32, 3) := by decide +kernel
theorem dX8_letter_25 : decode cX8_letter 25 = .ok (.iload_n 1, 1) := by decide +kernel
theorem dX8_letter_26 : decode cX8_letter 26 = .ok (.iload_n 2, 1) := by decide +kernel
theorem dX8_letter_27 : decode cX8_letter 27 = .ok (.invokevirtual 172, 3) := by decide +kernel
theorem dX8_letter_30 : decode cX8_letter 30 = .ok (.invokevirtual 113, 3) := by decide +kernel
theorem dX8_letter_33 : decode cX8_letter 33 = .ok (.ireturn, 1) := by decide +kernel
theorem dX8_rule_0 : decode cX8_rule 0 = .ok (.iload_n 2, 1) := by decide +kernel
theorem dX8_rule_1 : decode cX8_rule 1 = .ok (.ifCond .lt 13, 3) := by decide +kernel
theorem dX8_rule_4 : decode cX8_rule 4 = .ok (.iload_n 3, 1) := by decide +kernel
theorem dX8_rule_5 : decode cX8_rule 5 = .ok (.ifCond .lt 9, 3) := by decide +kernel
theorem dX8_rule_8 : decode cX8_rule 8 = .ok (.iload_n 3, 1) := by decide +kernel
theorem dX8_rule_9 : decode cX8_rule 9 = .ok (.bipush 6, 2) := by decide +kernel
theorem dX8_rule_11 : decode cX8_rule 11 = .ok (.if_icmp .le 9, 3) := by decide +kernel
theorem dX8_rule_14 : decode cX8_rule 14 = .ok (.aload_n 0, 1) := by decide +kernel
theorem dX8_rule_15 : decode cX8_rule 15 = .ok (.iconst 1, 1) := by decide +kernel
theorem dX8_rule_16 : decode cX8_rule 16 = .ok (.invokevirtual 84, 3) := by decide +kernel
theorem dX8_rule_19 : decode cX8_rule 19 = .ok (.ireturn, 1) := by decide +kernel
theorem dX8_rule_20 : decode cX8_rule 20 = .ok (.aload_n 0, 1) := by decide +kernel
theorem dX8_rule_21 : decode cX8_rule 21 = .ok (.getfield 32, 3) := by decide +kernel
theorem dX8_rule_24 : decode cX8_rule 24 = .ok (.iload_n 1, 1) := by decide +kernel
theorem dX8_rule_25 : decode cX8_rule 25 = .ok (.invokevirtual 137, 3) := by decide +kernel
theorem dX8_rule_28 : decode cX8_rule 28 = .ok (.ifCond .ne 9, 3) := by decide +kernel
theorem dX8_rule_31 : decode cX8_rule 31 = .ok (.aload_n 0, 1) := by decide +kernel
theorem dX8_rule_32 : decode cX8_rule 32 = .ok (.iconst 2, 1) := by decide +kernel
theorem dX8_rule_33 : decode cX8_rule 33 = .ok (.invokevirtual 84, 3) := by decide +kernel
theorem dX8_rule_36 : decode cX8_rule 36 = .ok (.ireturn, 1) := by decide +kernel
theorem dX8_rule_37 : decode cX8_rule 37 = .ok (.iload_n 2, 1) := by decide +kernel
theorem dX8_rule_38 : decode cX8_rule 38 = .ok (.aload_n 0, 1) := by decide +kernel
theorem dX8_rule_39 : decode cX8_rule 39 = .ok (.iload_n 1, 1) := by decide +kernel
theorem dX8_rule_40 : decode cX8_rule 40 = .ok (.invokevirtual 144, 3) := by decide +kernel
theorem dX8_rule_43 : decode cX8_rule 43 = .ok (.if_icmp .lt 9, 3) := by decide +kernel
theorem dX8_rule_46 : decode cX8_rule 46 = .ok (.aload_n 0, 1) := by decide +kernel
theorem dX8_rule_47 : decode cX8_rule 47 = .ok (.iconst 5, 1) := by decide +kernel
theorem dX8_rule_48 : decode cX8_rule 48 = .ok (.invokevirtual 84, 3) := by decide +kernel
theorem dX8_rule_51 : decode cX8_rule 51 = .ok (.ireturn, 1) := by decide +kernel
theorem dX8_rule_52 : decode cX8_rule 52 = .ok (.aload_n 0, 1) := by decide +kernel
theorem dX8_rule_53 : decode cX8_rule 53 = .ok (.getfield 58, 3) := by decide +kernel
theorem dX8_rule_56 : decode cX8_rule 56 = .ok (.iload_n 2, 1) := by decide +kernel
theorem dX8_rule_57 : decode cX8_rule 57 = .ok (.invokevirtual 176, 3) := by decide +kernel
theorem dX8_rule_60 : decode cX8_rule 60 = .ok (.istore 4, 2) := by decide +kernel
theorem dX8_rule_62 : decode cX8_rule 62 = .ok (.iload_n 3, 1) := by decide +kernel
theorem dX8_rule_63 : decode cX8_rule 63 = .ok (.tableswitch 123 0 5 #[37, 51, 65, 76, 87, 109], 37) := by decide +kernel
theorem dX8_rule_100 : decode cX8_rule 100 = .ok (.aload_n 0, 1) := by decide +kernel
theorem dX8_rule_101 : decode cX8_rule 101 = .ok (.aload_n 0, 1) := by decide +kernel
theorem dX8_rule_102 : decode cX8_rule 102 = .ok (.getfield 66, 3) := by decide +kernel
theorem dX8_rule_105 : decode cX8_rule 105 = .ok (.iload 4, 2) := by decide +kernel
theorem dX8_rule_107 : decode cX8_rule 107 = .ok (.invokevirtual 179, 3) := by decide +kernel
theorem dX8_rule_110 : decode cX8_rule 110 = .ok (.invokevirtual 113, 3) := by decide +kernel
theorem dX8_rule_113 : decode cX8_rule 113 = .ok (.ireturn, 1) := by decide +kernel
theorem dX8_rule_114 : decode cX8_rule 114 = .ok (.aload_n 0, 1) := by decide +kernel
theorem dX8_rule_115 : decode cX8_rule 115 = .ok (.aload_n 0, 1) := by decide +kernel
theorem dX8_rule_116 : decode cX8_rule 116 = .ok (.getfield 66, 3) := by decide +kernel
theorem dX8_rule_119 : decode cX8_rule 119 = .ok (.iload 4, 2) := by decide +kernel
theorem dX8_rule_121 : decode cX8_rule 121 = .ok (.invokevirtual 182, 3) := by decide +kernel
theorem dX8_rule_124 : decode cX8_rule 124 = .ok (.invokevirtual 113, 3) := by decide +kernel
theorem dX8_rule_127 : decode cX8_rule 127 = .ok (.ireturn, 1) := by decide +kernel
theorem dX8_rule_128 : decode cX8_rule 128 = .ok (.aload_n 0, 1) := by decide +kernel
theorem dX8_rule_129 : decode cX8_rule 129 = .ok (.aload_n 0, 1) := by decide +kernel
theorem dX8_rule_130 : decode cX8_rule 130 = .ok (.iload 4, 2) := by decide +kernel
theorem dX8_rule_132 : decode cX8_rule 132 = .ok (.invokevirtual 183, 3) := by decide +kernel
theorem dX8_rule_135 : decode cX8_rule 135 = .ok (.invokevirtual 113, 3) := by decide +kernel
theorem dX8_rule_138 : decode cX8_rule 138 = .ok (.ireturn, 1) := by decide +kernel
theorem dX8_rule_139 : decode cX8_rule 139 = .ok (.aload_n 0, 1) := by decide +kernel
theorem dX8_rule_140 : decode cX8_rule 140 = .ok (.aload_n 0, 1) := by decide +kernel
theorem dX8_rule_141 : decode cX8_rule 141 = .ok (.iload 4, 2) := by decide +kernel
theorem dX8_rule_143 : decode cX8_rule 143 = .ok (.invokevirtual 186, 3) := by decide +kernel
theorem dX8_rule_146 : decode cX8_rule 146 = .ok (.invokevirtual 113, 3) := by decide +kernel
theorem dX8_rule_149 : decode cX8_rule 149 = .ok (.ireturn, 1) := by decide +kernel
theorem dX8_rule_150 : decode cX8_rule 150 = .ok (.aload_n 0, 1) := by decide +kernel
theorem dX8_rule_151 : decode cX8_rule 151 = .ok (.aload_n 0, 1) := by decide +kernel
theorem dX8_rule_152 : decode cX8_rule 152 = .ok (.getfield 58, 3) := by decide +kernel
theorem dX8_rule_155 : decode cX8_rule 155 = .ok (.aload_n 0, 1) := by decide +kernel
theorem dX8_rule_156 : decode cX8_rule 156 = .ok (.getfield 32, 3) := by decide +kernel
theorem dX8_rule_159 : decode cX8_rule 159 = .ok (.iload_n 1, 1) := by decide +kernel
theorem dX8_rule_160 : decode cX8_rule 160 = .ok (.invokevirtual 147, 3) := by decide +kernel
theorem dX8_rule_163 : decode cX8_rule 163 = .ok (.iload 4, 2) := by decide +kernel
theorem dX8_rule_165 : decode cX8_rule 165 = .ok (.invokevirtual 189, 3) := by decide +kernel
theorem dX8_rule_168 : decode cX8_rule 168 = .ok (.invokevirtual 113, 3) := by decide +kernel
theorem dX8_rule_171 : decode cX8_rule 171 = .ok (.ireturn, 1) := by decide +kernel
theorem dX8_rule_172 : decode cX8_rule 172 = .ok (.aload_n 0, 1) := by decide +kernel
theorem dX8_rule_173 : decode cX8_rule 173 = .ok (.aload_n 0, 1) := by decide +kernel
theorem dX8_rule_174 : decode cX8_rule 174 = .ok (.getfield 66, 3) := by decide +kernel
theorem dX8_rule_177 : decode cX8_rule 177 = .ok (.iload 4, 2) := by decide +kernel
theorem dX8_rule_179 : decode cX8_rule 179 = .ok (.invokevirtual 158, 3) := by decide +kernel
theorem dX8_rule_182 : decode cX8_rule 182 = .ok (.invokevirtual 113, 3) := by decide +kernel
theorem dX8_rule_185 : decode cX8_rule 185 = .ok (.ireturn, 1) := by decide +kernel
theorem dX8_rule_186 : decode cX8_rule 186 = .ok (.aload_n 0, 1) := by decide +kernel
theorem dX8_rule_187 : decode cX8_rule 187 = .ok (.aload_n 0, 1) := by decide +kernel
theorem dX8_rule_188 : decode cX8_rule 188 = .ok (.getfield 58, 3) := by decide +kernel
theorem dX8_rule_191 : decode cX8_rule 191 = .ok (.iload_n 2, 1) := by decide +kernel
theorem dX8_rule_192 : decode cX8_rule 192 = .ok (.invokevirtual 192, 3) := by decide +kernel
theorem dX8_rule_195 : decode cX8_rule 195 = .ok (.invokevirtual 113, 3) := by decide +kernel
theorem dX8_rule_198 : decode cX8_rule 198 = .ok (.ireturn, 1) := by decide +kernel
theorem dX8_around_0 : decode cX8_around 0 = .ok (.iload_n 3, 1) := by decide +kernel
theorem dX8_around_1 : decode cX8_around 1 = .ok (.ifCond .ge 7, 3) := by decide +kernel
theorem dX8_around_4 : decode cX8_around 4 = .ok (.iconst 1, 1) := by decide +kernel
theorem dX8_around_5 : decode cX8_around 5 = .ok (.goto 10, 3) := by decide +kernel
theorem dX8_around_8 : decode cX8_around 8 = .ok (.aload_n 0, 1) := by decide +kernel
theorem dX8_around_9 : decode cX8_around 9 = .ok (.iload_n 1, 1) := by decide +kernel
theorem dX8_around_10 : decode cX8_around 10 = .ok (.iload_n 2, 1) := by decide +kernel
theorem dX8_around_11 : decode cX8_around 11 = .ok (.iconst 0, 1) := by decide +kernel
theorem dX8_around_12 : decode cX8_around 12 = .ok (.invokevirtual 168, 3) := by decide +kernel
theorem dX8_around_15 : decode cX8_around 15 = .ok (.istore 4, 2) := by decide +kernel
theorem dX8_around_17 : decode cX8_around 17 = .ok (.iload 4, 2) := by decide +kernel
theorem dX8_around_19 : decode cX8_around 19 = .ok (.ifCond .eq 10, 3) := by decide +kernel
theorem dX8_around_22 : decode cX8_around 22 = .ok (.aload_n 0, 1) := by decide +kernel
theorem dX8_around_23 : decode cX8_around 23 = .ok (.iload 4, 2) := by decide +kernel
theorem dX8_around_25 : decode cX8_around 25 = .ok (.invokevirtual 84, 3) := by decide +kernel
theorem dX8_around_28 : decode cX8_around 28 = .ok (.ireturn, 1) := by decide +kernel
theorem dX8_around_29 : decode cX8_around 29 = .ok (.aload_n 0, 1) := by decide +kernel
theorem dX8_around_30 : decode cX8_around 30 = .ok (.getfield 66, 3) := by decide +kernel
theorem dX8_around_33 : decode cX8_around 33 = .ok (.aload_n 0, 1) := by decide +kernel
theorem dX8_around_34 : decode cX8_around 34 = .ok (.getfield 32, 3) := by decide +kernel
theorem dX8_around_37 : decode cX8_around 37 = .ok (.iload_n 1, 1) := by decide +kernel
theorem dX8_around_38 : decode cX8_around 38 = .ok (.invokevirtual 147, 3) := by decide +kernel
theorem dX8_around_41 : decode cX8_around 41 = .ok (.iload_n 2, 1) := by decide +kernel
theorem dX8_around_42 : decode cX8_around 42 = .ok (.iload_n 3, 1) := by decide +kernel
theorem dX8_around_43 : decode cX8_around 43 = .ok (.invokevirtual 195, 3) := by decide +kernel
theorem dX8_around_46 : decode cX8_around 46 = .ok (.istore 5, 2) := by decide +kernel
theorem dX8_around_48 : decode cX8_around 48 = .ok (.iload 5, 2) := by decide +kernel
theorem dX8_around_50 : decode cX8_around 50 = .ok (.iconst (-1), 1) := by decide +kernel
theorem dX8_around_51 : decode cX8_around 51 = .ok (.if_icmp .ne 9, 3) := by decide +kernel
theorem dX8_around_54 : decode cX8_around 54 = .ok (.aload_n 0, 1) := by decide +kernel
theorem dX8_around_55 : decode cX8_around 55 = .ok (.iconst 5, 1) := by decide +kernel
theorem dX8_around_56 : decode cX8_around 56 = .ok (.invokevirtual 84, 3) := by decide +kernel
theorem dX8_around_59 : decode cX8_around 59 = .ok (.ireturn, 1) := by decide +kernel
theorem dX8_around_60 : decode cX8_around 60 = .ok (.aload_n 0, 1) := by decide +kernel
theorem dX8_around_61 : decode cX8_around 61 = .ok (.iload_n 1, 1) := by decide +kernel
theorem dX8_around_62 : decode cX8_around 62 = .ok (.invokevirtual 144, 3) := by decide +kernel
theorem dX8_around_65 : decode cX8_around 65 = .ok (.pop, 1) := by decide +kernel
theorem dX8_around_66 : decode cX8_around 66 = .ok (.aload_n 0, 1) := by decide +kernel
theorem dX8_around_67 : decode cX8_around 67 = .ok (.aload_n 0, 1) := by decide +kernel
theorem dX8_around_68 : decode cX8_around 68 = .ok (.getfield 58, 3) := by decide +kernel
theorem dX8_around_71 : decode cX8_around 71 = .ok (.iload 5, 2) := by decide +kernel
theorem dX8_around_73 : decode cX8_around 73 = .ok (.invokevirtual 199, 3) := by decide +kernel
theorem dX8_around_76 : decode cX8_around 76 = .ok (.invokevirtual 113, 3) := by decide +kernel
theorem dX8_around_79 : decode cX8_around 79 = .ok (.ireturn, 1) := by decide +kernel
theorem dX8_value_0 : decode cX8_value 0 = .ok (.aload_n 0, 1) := by decide +kernel
theorem dX8_value_1 : decode cX8_value 1 = .ok (.getfield 32, 3) := by decide +kernel
theorem dX8_value_4 : decode cX8_value 4 = .ok (.iload_n 1, 1) := by decide +kernel
theorem dX8_value_5 : decode cX8_value 5 = .ok (.invokevirtual 137, 3) := by decide +kernel
theorem dX8_value_8 : decode cX8_value 8 = .ok (.ifCond .ne 10, 3) := by decide +kernel
theorem dX8_value_11 : decode cX8_value 11 = .ok (.aload_n 0, 1) := by decide +kernel
theorem dX8_value_12 : decode cX8_value 12 = .ok (.iconst 2, 1) := by decide +kernel
theorem dX8_value_13 : decode cX8_value 13 = .ok (.invokevirtual 84, 3) := by decide +kernel
theorem dX8_value_16 : decode cX8_value 16 = .ok (.i2l, 1) := by decide +kernel
theorem dX8_value_17 : decode cX8_value 17 = .ok (.lreturn, 1) := by decide +kernel
theorem dX8_value_18 : decode cX8_value 18 = .ok (.lconst 0, 1) := by decide +kernel
theorem dX8_value_19 : decode cX8_value 19 = .ok (.lstore_n 2, 1) := by decide +kernel
