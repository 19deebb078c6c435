theorem dX0_init_0 : decode cX0_init 0 = .ok (.aload_n 0, 1) := by decide +kernel
theorem dX0_init_1 : decode cX0_init 1 = .ok (.invokespecial 3, 3) := by decide +kernel
theorem dX0_init_4 : decode cX0_init 4 = .ok (.aload_n 0, 1) := by decide +kernel
theorem dX0_init_5 : decode cX0_init 5 = .ok (.new 9, 3) := by decide +kernel
theorem dX0_init_8 : decode cX0_init 8 = .ok (.dup, 1) := by decide +kernel
theorem dX0_init_9 : decode cX0_init 9 = .ok (.invokespecial 11, 3) := by decide +kernel
theorem dX0_init_12 : decode cX0_init 12 = .ok (.putfield 12, 3) := by decide +kernel
theorem dX0_init_15 : decode cX0_init 15 = .ok (.aload_n 0, 1) := by decide +kernel
theorem dX0_init_16 : decode cX0_init 16 = .ok (.new 18, 3) := by decide +kernel
theorem dX0_init_19 : decode cX0_init 19 = .ok (.dup, 1) := by decide +kernel
theorem dX0_init_20 : decode cX0_init 20 = .ok (.invokespecial 20, 3) := by decide +kernel
theorem dX0_init_23 : decode cX0_init 23 = .ok (.putfield 21, 3) := by decide +kernel
theorem dX0_init_26 : decode cX0_init 26 = .ok (.aload_n 0, 1) := by decide +kernel
theorem dX0_init_27 : decode cX0_init 27 = .ok (.new 25, 3) := by decide +kernel
theorem dX0_init_30 : decode cX0_init 30 = .ok (.dup, 1) := by decide +kernel
theorem dX0_init_31 : decode cX0_init 31 = .ok (.sipush 4800, 3) := by decide +kernel
theorem dX0_init_34 : decode cX0_init 34 = .ok (.invokespecial 27, 3) := by decide +kernel
theorem dX0_init_37 : decode cX0_init 37 = .ok (.putfield 30, 3) := by decide +kernel
theorem dX0_init_40 : decode cX0_init 40 = .ok (.aload_n 0, 1) := by decide +kernel
theorem dX0_init_41 : decode cX0_init 41 = .ok (.bipush 6, 2) := by decide +kernel
theorem dX0_init_43 : decode cX0_init 43 = .ok (.newarray .int, 2) := by decide +kernel
theorem dX0_init_45 : decode cX0_init 45 = .ok (.putfield 34, 3) := by decide +kernel
theorem dX0_init_48 : decode cX0_init 48 = .ok (.aload_n 0, 1) := by decide +kernel
theorem dX0_init_49 : decode cX0_init 49 = .ok (.bipush 6, 2) := by decide +kernel
theorem dX0_init_51 : decode cX0_init 51 = .ok (.newarray .int, 2) := by decide +kernel
theorem dX0_init_53 : decode cX0_init 53 = .ok (.putfield 38, 3) := by decide +kernel
theorem dX0_init_56 : decode cX0_init 56 = .ok (.aload_n 0, 1) := by decide +kernel
theorem dX0_init_57 : decode cX0_init 57 = .ok (.bipush 6, 2) := by decide +kernel
theorem dX0_init_59 : decode cX0_init 59 = .ok (.newarray .int, 2) := by decide +kernel
theorem dX0_init_61 : decode cX0_init 61 = .ok (.putfield 41, 3) := by decide +kernel
theorem dX0_init_64 : decode cX0_init 64 = .ok (.return_, 1) := by decide +kernel
theorem dX0_read_0 : decode cX0_read 0 = .ok (.aload_n 0, 1) := by decide +kernel
theorem dX0_read_1 : decode cX0_read 1 = .ok (.iconst 1, 1) := by decide +kernel
theorem dX0_read_2 : decode cX0_read 2 = .ok (.putfield 44, 3) := by decide +kernel
theorem dX0_read_5 : decode cX0_read 5 = .ok (.aload_n 0, 1) := by decide +kernel
theorem dX0_read_6 : decode cX0_read 6 = .ok (.iconst 0, 1) := by decide +kernel
theorem dX0_read_7 : decode cX0_read 7 = .ok (.putfield 48, 3) := by decide +kernel
theorem dX0_read_10 : decode cX0_read 10 = .ok (.aload_n 0, 1) := by decide +kernel
theorem dX0_read_11 : decode cX0_read 11 = .ok (.iconst (-1), 1) := by decide +kernel
theorem dX0_read_12 : decode cX0_read 12 = .ok (.putfield 52, 3) := by decide +kernel
theorem dX0_read_15 : decode cX0_read 15 = .ok (.aload_n 0, 1) := by decide +kernel
theorem dX0_read_16 : decode cX0_read 16 = .ok (.getfield 21, 3) := by decide +kernel
theorem dX0_read_19 : decode cX0_read 19 = .ok (.iconst 0, 1) := by decide +kernel
theorem dX0_read_20 : decode cX0_read 20 = .ok (.putfield 55, 3) := by decide +kernel
theorem dX0_read_23 : decode cX0_read 23 = .ok (.aload_n 0, 1) := by decide +kernel
theorem dX0_read_24 : decode cX0_read 24 = .ok (.getfield 12, 3) := by decide +kernel
theorem dX0_read_27 : decode cX0_read 27 = .ok (.iload_n 1, 1) := by decide +kernel
theorem dX0_read_28 : decode cX0_read 28 = .ok (.invokevirtual 58, 3) := by decide +kernel
theorem dX0_read_31 : decode cX0_read 31 = .ok (.iconst 0, 1) := by decide +kernel
theorem dX0_read_32 : decode cX0_read 32 = .ok (.istore_n 2, 1) := by decide +kernel
theorem dX0_read_33 : decode cX0_read 33 = .ok (.iload_n 2, 1) := by decide +kernel
theorem dX0_read_34 : decode cX0_read 34 = .ok (.sipush 900, 3) := by decide +kernel
theorem dX0_read_37 : decode cX0_read 37 = .ok (.if_icmp .gt 30, 3) := by decide +kernel
theorem dX0_read_40 : decode cX0_read 40 = .ok (.aload_n 0, 1) := by decide +kernel
theorem dX0_read_41 : decode cX0_read 41 = .ok (.getfield 48, 3) := by decide +kernel
theorem dX0_read_44 : decode cX0_read 44 = .ok (.ifCond .ne 23, 3) := by decide +kernel
theorem dX0_read_47 : decode cX0_read 47 = .ok (.aload_n 0, 1) := by decide +kernel
theorem dX0_read_48 : decode cX0_read 48 = .ok (.getfield 12, 3) := by decide +kernel
theorem dX0_read_51 : decode cX0_read 51 = .ok (.invokevirtual 61, 3) := by decide +kernel
theorem dX0_read_54 : decode cX0_read 54 = .ok (.ifCond .eq 13, 3) := by decide +kernel
theorem dX0_read_57 : decode cX0_read 57 = .ok (.aload_n 0, 1) := by decide +kernel
theorem dX0_read_58 : decode cX0_read 58 = .ok (.invokevirtual 64, 3) := by decide +kernel
theorem dX0_read_61 : decode cX0_read 61 = .ok (.iinc 2 1, 3) := by decide +kernel
theorem dX0_read_64 : decode cX0_read 64 = .ok (.goto (-31), 3) := by decide +kernel
theorem dX0_read_67 : decode cX0_read 67 = .ok (.return_, 1) := by decide +kernel
theorem dX0_blame_0 : decode cX0_blame 0 = .ok (.aload_n 0, 1) := by decide +kernel
theorem dX0_blame_1 : decode cX0_blame 1 = .ok (.getfield 48, 3) := by decide +kernel
theorem dX0_blame_4 : decode cX0_blame 4 = .ok (.ifCond .ne 13, 3) := by decide +kernel
theorem dX0_blame_7 : decode cX0_blame 7 = .ok (.aload_n 0, 1) := by decide +kernel
theorem dX0_blame_8 : decode cX0_blame 8 = .ok (.iload_n 1, 1) := by decide +kernel
theorem dX0_blame_9 : decode cX0_blame 9 = .ok (.putfield 48, 3) := by decide +kernel
theorem dX0_blame_12 : decode cX0_blame 12 = .ok (.aload_n 0, 1) := by decide +kernel
theorem dX0_blame_13 : decode cX0_blame 13 = .ok (.iload_n 2, 1) := by decide +kernel
theorem dX0_blame_14 : decode cX0_blame 14 = .ok (.putfield 52, 3) := by decide +kernel
theorem dX0_blame_17 : decode cX0_blame 17 = .ok (.return_, 1) := by decide +kernel
theorem dX0_blameToken_0 : decode cX0_blameToken 0 = .ok (.aload_n 0, 1) := by decide +kernel
theorem dX0_blameToken_1 : decode cX0_blameToken 1 = .ok (.aload_n 0, 1) := by decide +kernel
theorem dX0_blameToken_2 : decode cX0_blameToken 2 = .ok (.getfield 12, 3) := by decide +kernel
theorem dX0_blameToken_5 : decode cX0_blameToken 5 = .ok (.invokevirtual 61, 3) := by decide +kernel
theorem dX0_blameToken_8 : decode cX0_blameToken 8 = .ok (.iconst 1, 1) := by decide +kernel
theorem dX0_blameToken_9 : decode cX0_blameToken 9 = .ok (.if_icmp .ne 7, 3) := by decide +kernel
theorem dX0_blameToken_12 : decode cX0_blameToken 12 = .ok (.iconst 1, 1) := by decide +kernel
theorem dX0_blameToken_13 : decode cX0_blameToken 13 = .ok (.goto 4, 3) := by decide +kernel
theorem dX0_blameToken_16 : decode cX0_blameToken 16 = .ok (.iconst 2, 1) := by decide +kernel
theorem dX0_blameToken_17 : decode cX0_blameToken 17 = .ok (.aload_n 0, 1) := by decide +kernel
theorem dX0_blameToken_18 : decode cX0_blameToken 18 = .ok (.getfield 12, 3) := by decide +kernel
theorem dX0_blameToken_21 : decode cX0_blameToken 21 = .ok (.invokevirtual 67, 3) := by decide +kernel
theorem dX0_blameToken_24 : decode cX0_blameToken 24 = .ok (.invokevirtual 69, 3) := by decide +kernel
theorem dX0_blameToken_27 : decode cX0_blameToken 27 = .ok (.return_, 1) := by decide +kernel
theorem dX0_expect_0 : decode cX0_expect 0 = .ok (.aload_n 0, 1) := by decide +kernel
theorem dX0_expect_1 : decode cX0_expect 1 = .ok (.getfield 12, 3) := by decide +kernel
theorem dX0_expect_4 : decode cX0_expect 4 = .ok (.invokevirtual 61, 3) := by decide +kernel
theorem dX0_expect_7 : decode cX0_expect 7 = .ok (.iload_n 1, 1) := by decide +kernel
theorem dX0_expect_8 : decode cX0_expect 8 = .ok (.if_icmp .ne 13, 3) := by decide +kernel
theorem dX0_expect_11 : decode cX0_expect 11 = .ok (.aload_n 0, 1) := by decide +kernel
theorem dX0_expect_12 : decode cX0_expect 12 = .ok (.getfield 12, 3) := by decide +kernel
theorem dX0_expect_15 : decode cX0_expect 15 = .ok (.invokevirtual 73, 3) := by decide +kernel
theorem dX0_expect_18 : decode cX0_expect 18 = .ok (.goto 7, 3) := by decide +kernel
theorem dX0_expect_21 : decode cX0_expect 21 = .ok (.aload_n 0, 1) := by decide +kernel
theorem dX0_expect_22 : decode cX0_expect 22 = .ok (.invokevirtual 76, 3) := by decide +kernel
theorem dX0_expect_25 : decode cX0_expect 25 = .ok (.return_, 1) := by decide +kernel
theorem dX0_readNumber_0 : decode cX0_readNumber 0 = .ok (.aload_n 0, 1) := by decide +kernel
theorem dX0_readNumber_1 : decode cX0_readNumber 1 = .ok (.getfield 12, 3) := by decide +kernel
theorem dX0_readNumber_4 : decode cX0_readNumber 4 = .ok (.invokevirtual 61, 3) := by decide +kernel
theorem dX0_readNumber_7 : decode cX0_readNumber 7 = .ok (.iconst 5, 1) := by decide +kernel
theorem dX0_readNumber_8 : decode cX0_readNumber 8 = .ok (.if_icmp .eq 9, 3) := by decide +kernel
theorem dX0_readNumber_11 : decode cX0_readNumber 11 = .ok (.aload_n 0, 1) := by decide +kernel
theorem dX0_readNumber_12 : decode cX0_readNumber 12 = .ok (.invokevirtual 76, 3) := by decide +kernel
theorem dX0_readNumber_15 : decode cX0_readNumber 15 = .ok (.iconst (-1), 1) := by decide +kernel
theorem dX0_readNumber_16 : decode cX0_readNumber 16 = .ok (.ireturn, 1) := by decide +kernel
theorem dX0_readNumber_17 : decode cX0_readNumber 17 = .ok (.aload_n 0, 1) := by decide +kernel
theorem dX0_readNumber_18 : decode cX0_readNumber 18 = .ok (.getfield 12, 3) := by decide +kernel
theorem dX0_readNumber_21 : decode cX0_readNumber 21 = .ok (.invokevirtual 79, 3) := by decide +kernel
theorem dX0_readNumber_24 : decode cX0_readNumber 24 = .ok (.istore 4, 2) := by decide +kernel
theorem dX0_readNumber_26 : decode cX0_readNumber 26 = .ok (.iload 4, 2) := by decide +kernel
theorem dX0_readNumber_28 : decode cX0_readNumber 28 = .ok (.iload_n 1, 1) := by decide +kernel
theorem dX0_readNumber_29 : decode cX0_readNumber 29 = .ok (.if_icmp .lt 9, 3) := by decide +kernel
theorem dX0_readNumber_32 : decode cX0_readNumber 32 = .ok (.iload 4, 2) := by decide +kernel
theorem dX0_readNumber_34 : decode cX0_readNumber 34 = .ok (.iload_n 2, 1) := by decide +kernel
theorem dX0_readNumber_35 : decode cX0_readNumber 35 = .ok (.if_icmp .le 15, 3) := by decide +kernel
theorem dX0_readNumber_38 : decode cX0_readNumber 38 = .ok (.aload_n 0, 1) := by decide +kernel
theorem dX0_readNumber_39 : decode cX0_readNumber 39 = .ok (.iload_n 3, 1) := by decide +kernel
theorem dX0_readNumber_40 : decode cX0_readNumber 40 = .ok (.aload_n 0, 1) := by decide +kernel
theorem dX0_readNumber_41 : decode cX0_readNumber 41 = .ok (.getfield 12, 3) := by decide +kernel
theorem dX0_readNumber_44 : decode cX0_readNumber 44 = .ok (.invokevirtual 67, 3) := by decide +kernel
theorem dX0_readNumber_47 : decode cX0_readNumber 47 = .ok (.invokevirtual 69, 3) := by decide +kernel
theorem dX0_readNumber_50 : decode cX0_readNumber 50 = .ok (.aload_n 0, 1) := by decide +kernel
theorem dX0_readNumber_51 : decode cX0_readNumber 51 = .ok (.getfield 12, 3) := by decide +kernel
theorem dX0_readNumber_54 : decode cX0_readNumber 54 = .ok (.invokevirtual 73, 3) := by decide +kernel
theorem dX0_readNumber_57 : decode cX0_readNumber 57 = .ok (.iload 4, 2) := by decide +kernel
theorem dX0_readNumber_59 : decode cX0_readNumber 59 = .ok (.ireturn, 1) := by decide +kernel
theorem dX0_readLine_0 : decode cX0_readLine 0 = .ok (.aload_n 0, 1) := by decide +kernel
theorem dX0_readLine_1 : decode cX0_readLine 1 = .ok (.invokevirtual 82, 3) := by decide +kernel
theorem dX0_readLine_4 : decode cX0_readLine 4 = .ok (.istore_n 1, 1) := by decide +kernel
theorem dX0_readLine_5 : decode cX0_readLine 5 = .ok (.aload_n 0, 1) := by decide +kernel
theorem dX0_readLine_6 : decode cX0_readLine 6 = .ok (.getfield 30, 3) := by decide +kernel
theorem dX0_readLine_9 : decode cX0_readLine 9 = .ok (.invokevirtual 85, 3) := by decide +kernel
theorem dX0_readLine_12 : decode cX0_readLine 12 = .ok (.aload_n 0, 1) := by decide +kernel
theorem dX0_readLine_13 : decode cX0_readLine 13 = .ok (.iconst 0, 1) := by decide +kernel
theorem dX0_readLine_14 : decode cX0_readLine 14 = .ok (.putfield 88, 3) := by decide +kernel
theorem dX0_readLine_17 : decode cX0_readLine 17 = .ok (.aload_n 0, 1) := by decide +kernel
theorem dX0_readLine_18 : decode cX0_readLine 18 = .ok (.iconst 0, 1) := by decide +kernel
theorem dX0_readLine_19 : decode cX0_readLine 19 = .ok (.putfield 91, 3) := by decide +kernel
theorem dX0_readLine_22 : decode cX0_readLine 22 = .ok (.aload_n 0, 1) := by decide +kernel
theorem dX0_readLine_23 : decode cX0_readLine 23 = .ok (.iconst 0, 1) := by decide +kernel
theorem dX0_readLine_24 : decode cX0_readLine 24 = .ok (.putfield 94, 3) := by decide +kernel
theorem dX0_readLine_27 : decode cX0_readLine 27 = .ok (.aload_n 0, 1) := by decide +kernel
theorem dX0_readLine_28 : decode cX0_readLine 28 = .ok (.iconst 0, 1) := by decide +kernel
theorem dX0_readLine_29 : decode cX0_readLine 29 = .ok (.putfield 97, 3) := by decide +kernel
theorem dX0_readLine_32 : decode cX0_readLine 32 = .ok (.iconst 0, 1) := by decide +kernel
theorem dX0_readLine_33 : decode cX0_readLine 33 = .ok (.istore_n 2, 1) := by decide +kernel
theorem dX0_readLine_34 : decode cX0_readLine 34 = .ok (.iload_n 2, 1) := by decide +kernel
theorem dX0_readLine_35 : decode cX0_readLine 35 = .ok (.sipush 900, 3) := by decide +kernel
theorem dX0_readLine_38 : decode cX0_readLine 38 = .ok (.if_icmp .gt 86, 3) := by decide +kernel
theorem dX0_readLine_41 : decode cX0_readLine 41 = .ok (.aload_n 0, 1) := by decide +kernel
theorem dX0_readLine_42 : decode cX0_readLine 42 = .ok (.getfield 48, 3) := by decide +kernel
theorem dX0_readLine_45 : decode cX0_readLine 45 = .ok (.ifCond .ne 79, 3) := by decide +kernel
theorem dX0_readLine_48 : decode cX0_readLine 48 = .ok (.aload_n 0, 1) := by decide +kernel
theorem dX0_readLine_49 : decode cX0_readLine 49 = .ok (.getfield 97, 3) := by decide +kernel
theorem dX0_readLine_52 : decode cX0_readLine 52 = .ok (.iconst 3, 1) := by decide +kernel
theorem dX0_readLine_53 : decode cX0_readLine 53 = .ok (.if_icmp .eq 71, 3) := by decide +kernel
theorem dX0_readLine_56 : decode cX0_readLine 56 = .ok (.aload_n 0, 1) := by decide +kernel
theorem dX0_readLine_57 : decode cX0_readLine 57 = .ok (.getfield 12, 3) := by decide +kernel
theorem dX0_readLine_60 : decode cX0_readLine 60 = .ok (.invokevirtual 61, 3) := by decide +kernel
theorem dX0_readLine_63 : decode cX0_readLine 63 = .ok (.istore_n 3, 1) := by decide +kernel
theorem dX0_readLine_64 : decode cX0_readLine 64 = .ok (.aload_n 0, 1) := by decide +kernel
theorem dX0_readLine_65 : decode cX0_readLine 65 = .ok (.getfield 97, 3) := by decide +kernel
theorem dX0_readLine_68 : decode cX0_readLine 68 = .ok (.ifCond .ne 11, 3) := by decide +kernel
theorem dX0_readLine_71 : decode cX0_readLine 71 = .ok (.aload_n 0, 1) := by decide +kernel
theorem dX0_readLine_72 : decode cX0_readLine 72 = .ok (.iload_n 3, 1) := by decide +kernel
theorem dX0_readLine_73 : decode cX0_readLine 73 = .ok (.invokevirtual 100, 3) := by decide +kernel
theorem dX0_readLine_76 : decode cX0_readLine 76 = .ok (.goto 42, 3) := by decide +kernel
theorem dX0_readLine_79 : decode cX0_readLine 79 = .ok (.iload_n 3, 1) := by decide +kernel
theorem dX0_readLine_80 : decode cX0_readLine 80 = .ok (.bipush 42, 2) := by decide +kernel
theorem dX0_readLine_82 : decode cX0_readLine 82 = .ok (.if_icmp .ne 10, 3) := by decide +kernel
theorem dX0_readLine_85 : decode cX0_readLine 85 = .ok (.aload_n 0, 1) := by decide +kernel
theorem dX0_readLine_86 : decode cX0_readLine 86 = .ok (.invokevirtual 103, 3) := by decide +kernel
theorem dX0_readLine_89 : decode cX0_readLine 89 = .ok (.goto 29, 3) := by decide +kernel
theorem dX0_readLine_92 : decode cX0_readLine 92 = .ok (.iload_n 3, 1) := by decide +kernel
theorem dX0_readLine_93 : decode cX0_readLine 93 = .ok (.bipush 91, 2) := by decide +kernel
theorem dX0_readLine_95 : decode cX0_readLine 95 = .ok (.if_icmp .ne 18, 3) := by decide +kernel
theorem dX0_readLine_98 : decode cX0_readLine 98 = .ok (.aload_n 0, 1) := by decide +kernel
theorem dX0_readLine_99 : decode cX0_readLine 99 = .ok (.getfield 97, 3) := by decide +kernel
theorem dX0_readLine_102 : decode cX0_readLine 102 = .ok (.iconst 1, 1) := by decide +kernel
theorem dX0_readLine_103 : decode cX0_readLine 103 = .ok (.if_icmp .ne 10, 3) := by decide +kernel
theorem dX0_readLine_106 : decode cX0_readLine 106 = .ok (.aload_n 0, 1) := by decide +kernel
theorem dX0_readLine_107 : decode cX0_readLine 107 = .ok (.invokevirtual 106, 3) := by decide +kernel
theorem dX0_readLine_110 : decode cX0_readLine 110 = .ok (.goto 8, 3) := by decide +kernel
theorem dX0_readLine_113 : decode cX0_readLine 113 = .ok (.aload_n 0, 1) := by decide +kernel
theorem dX0_readLine_114 : decode cX0_readLine 114 = .ok (.iload_n 3, 1) := by decide +kernel
theorem dX0_readLine_115 : decode cX0_readLine 115 = .ok (.invokevirtual 109, 3) := by decide +kernel
theorem dX0_readLine_118 : decode cX0_readLine 118 = .ok (.iinc 2 1, 3) := by decide +kernel
theorem dX0_readLine_121 : decode cX0_readLine 121 = .ok (.goto (-87), 3) := by decide +kernel
theorem dX0_readLine_124 : decode cX0_readLine 124 = .ok (.aload_n 0, 1) := by decide +kernel
theorem dX0_readLine_125 : decode cX0_readLine 125 = .ok (.getfield 48, 3) := by decide +kernel
theorem dX0_readLine_128 : decode cX0_readLine 128 = .ok (.ifCond .ne 15, 3) := by decide +kernel
theorem dX0_readLine_131 : decode cX0_readLine 131 = .ok (.aload_n 0, 1) := by decide +kernel
theorem dX0_readLine_132 : decode cX0_readLine 132 = .ok (.getfield 21, 3) := by decide +kernel
theorem dX0_readLine_135 : decode cX0_readLine 135 = .ok (.iload_n 1, 1) := by decide +kernel
theorem dX0_readLine_136 : decode cX0_readLine 136 = .ok (.aload_n 0, 1) := by decide +kernel
theorem dX0_readLine_137 : decode cX0_readLine 137 = .ok (.getfield 30, 3) := by decide +kernel
theorem dX0_readLine_140 : decode cX0_readLine 140 = .ok (.invokevirtual 112, 3) := by decide +kernel
theorem dX0_readLine_143 : decode cX0_readLine 143 = .ok (.return_, 1) := by decide +kernel
theorem dX0_readHead_0 : decode cX0_readHead 0 = .ok (.aload_n 0, 1) := by decide +kernel
theorem dX0_readHead_1 : decode cX0_readHead 1 = .ok (.getfield 12, 3) := by decide +kernel
theorem dX0_readHead_4 : decode cX0_readHead 4 = .ok (.invokevirtual 61, 3) := by decide +kernel
theorem dX0_readHead_7 : decode cX0_readHead 7 = .ok (.iconst 3, 1) := by decide +kernel
theorem dX0_readHead_8 : decode cX0_readHead 8 = .ok (.if_icmp .ne 43, 3) := by decide +kernel
theorem dX0_readHead_11 : decode cX0_readHead 11 = .ok (.aload_n 0, 1) := by decide +kernel
theorem dX0_readHead_12 : decode cX0_readHead 12 = .ok (.getfield 21, 3) := by decide +kernel
theorem dX0_readHead_15 : decode cX0_readHead 15 = .ok (.getfield 55, 3) := by decide +kernel
theorem dX0_readHead_18 : decode cX0_readHead 18 = .ok (.bipush 8, 2) := by decide +kernel
theorem dX0_readHead_20 : decode cX0_readHead 20 = .ok (.if_icmp .lt 16, 3) := by decide +kernel
theorem dX0_readHead_23 : decode cX0_readHead 23 = .ok (.aload_n 0, 1) := by decide +kernel
theorem dX0_readHead_24 : decode cX0_readHead 24 = .ok (.bipush 6, 2) := by decide +kernel
theorem dX0_readHead_26 : decode cX0_readHead 26 = .ok (.aload_n 0, 1) := by decide +kernel
theorem dX0_readHead_27 : decode cX0_readHead 27 = .ok (.getfield 12, 3) := by decide +kernel
theorem dX0_readHead_30 : decode cX0_readHead 30 = .ok (.invokevirtual 67, 3) := by decide +kernel
theorem dX0_readHead_33 : decode cX0_readHead 33 = .ok (.invokevirtual 69, 3) := by decide +kernel
theorem dX0_readHead_36 : decode cX0_readHead 36 = .ok (.aload_n 0, 1) := by decide +kernel
theorem dX0_readHead_37 : decode cX0_readHead 37 = .ok (.getfield 12, 3) := by decide +kernel
theorem dX0_readHead_40 : decode cX0_readHead 40 = .ok (.invokevirtual 73, 3) := by decide +kernel
theorem dX0_readHead_43 : decode cX0_readHead 43 = .ok (.aload_n 0, 1) := by decide +kernel
theorem dX0_readHead_44 : decode cX0_readHead 44 = .ok (.getfield 21, 3) := by decide +kernel
theorem dX0_readHead_47 : decode cX0_readHead 47 = .ok (.getfield 55, 3) := by decide +kernel
theorem dX0_readHead_50 : decode cX0_readHead 50 = .ok (.ireturn, 1) := by decide +kernel
theorem dX0_readHead_51 : decode cX0_readHead 51 = .ok (.aload_n 0, 1) := by decide +kernel
theorem dX0_readHead_52 : decode cX0_readHead 52 = .ok (.iconst 4, 1) := by decide +kernel
theorem dX0_readHead_53 : decode cX0_readHead 53 = .ok (.invokevirtual 116, 3) := by decide +kernel
theorem dX0_readHead_56 : decode cX0_readHead 56 = .ok (.aload_n 0, 1) := by decide +kernel
theorem dX0_readHead_57 : decode cX0_readHead 57 = .ok (.iconst 0, 1) := by decide +kernel
theorem dX0_readHead_58 : decode cX0_readHead 58 = .ok (.aload_n 0, 1) := by decide +kernel
theorem dX0_readHead_59 : decode cX0_readHead 59 = .ok (.getfield 21, 3) := by decide +kernel
theorem dX0_readHead_62 : decode cX0_readHead 62 = .ok (.getfield 55, 3) := by decide +kernel
theorem dX0_readHead_65 : decode cX0_readHead 65 = .ok (.iconst 1, 1) := by decide +kernel
theorem dX0_readHead_66 : decode cX0_readHead 66 = .ok (.isub, 1) := by decide +kernel
theorem dX0_readHead_67 : decode cX0_readHead 67 = .ok (.iconst 3, 1) := by decide +kernel
theorem dX0_readHead_68 : decode cX0_readHead 68 = .ok (.invokevirtual 119, 3) := by decide +kernel
theorem dX0_readHead_71 : decode cX0_readHead 71 = .ok (.istore_n 1, 1) := by decide +kernel
theorem dX0_readHead_72 : decode cX0_readHead 72 = .ok (.aload_n 0, 1) := by decide +kernel
theorem dX0_readHead_73 : decode cX0_readHead 73 = .ok (.bipush 61, 2) := by decide +kernel
theorem dX0_readHead_75 : decode cX0_readHead 75 = .ok (.invokevirtual 116, 3) := by decide +kernel
theorem dX0_readHead_78 : decode cX0_readHead 78 = .ok (.iload_n 1, 1) := by decide +kernel
theorem dX0_readHead_79 : decode cX0_readHead 79 = .ok (.ireturn, 1) := by decide +kernel
theorem dX0_readCore_0 : decode cX0_readCore 0 = .ok (.iload_n 1, 1) := by decide +kernel
theorem dX0_readCore_1 : decode cX0_readCore 1 = .ok (.bipush 6, 2) := by decide +kernel
theorem dX0_readCore_3 : decode cX0_readCore 3 = .ok (.if_icmp .ne 14, 3) := by decide +kernel
theorem dX0_readCore_6 : decode cX0_readCore 6 = .ok (.aload_n 0, 1) := by decide +kernel
theorem dX0_readCore_7 : decode cX0_readCore 7 = .ok (.invokevirtual 123, 3) := by decide +kernel
theorem dX0_readCore_10 : decode cX0_readCore 10 = .ok (.aload_n 0, 1) := by decide +kernel
theorem dX0_readCore_11 : decode cX0_readCore 11 = .ok (.invokevirtual 126, 3) := by decide +kernel
theorem dX0_readCore_14 : decode cX0_readCore 14 = .ok (.goto 73, 3) := by decide +kernel
theorem dX0_readCore_17 : decode cX0_readCore 17 = .ok (.iload_n 1, 1) := by decide +kernel
theorem dX0_readCore_18 : decode cX0_readCore 18 = .ok (.bipush 35, 2) := by decide +kernel
theorem dX0_readCore_20 : decode cX0_readCore 20 = .ok (.if_icmp .ne 43, 3) := by decide +kernel
theorem dX0_readCore_23 : decode cX0_readCore 23 = .ok (.aload_n 0, 1) := by decide +kernel
theorem dX0_readCore_24 : decode cX0_readCore 24 = .ok (.getfield 12, 3) := by decide +kernel
theorem dX0_readCore_27 : decode cX0_readCore 27 = .ok (.invokevirtual 73, 3) := by decide +kernel
theorem dX0_readCore_30 : decode cX0_readCore 30 = .ok (.aload_n 0, 1) := by decide +kernel
theorem dX0_readCore_31 : decode cX0_readCore 31 = .ok (.getfield 30, 3) := by decide +kernel
theorem dX0_readCore_34 : decode cX0_readCore 34 = .ok (.aload_n 0, 1) := by decide +kernel
theorem dX0_readCore_35 : decode cX0_readCore 35 = .ok (.getfield 21, 3) := by decide +kernel
theorem dX0_readCore_38 : decode cX0_readCore 38 = .ok (.aload_n 0, 1) := by decide +kernel
theorem dX0_readCore_39 : decode cX0_readCore 39 = .ok (.iconst 0, 1) := by decide +kernel
theorem dX0_readCore_40 : decode cX0_readCore 40 = .ok (.aload_n 0, 1) := by decide +kernel
theorem dX0_readCore_41 : decode cX0_readCore 41 = .ok (.getfield 21, 3) := by decide +kernel
theorem dX0_readCore_44 : decode cX0_readCore 44 = .ok (.getfield 55, 3) := by decide +kernel
theorem dX0_readCore_47 : decode cX0_readCore 47 = .ok (.iconst 1, 1) := by decide +kernel
theorem dX0_readCore_48 : decode cX0_readCore 48 = .ok (.isub, 1) := by decide +kernel
theorem dX0_readCore_49 : decode cX0_readCore 49 = .ok (.iconst 3, 1) := by decide +kernel
theorem dX0_readCore_50 : decode cX0_readCore 50 = .ok (.invokevirtual 119, 3) := by decide +kernel
theorem dX0_readCore_53 : decode cX0_readCore 53 = .ok (.invokevirtual 129, 3) := by decide +kernel
theorem dX0_readCore_56 : decode cX0_readCore 56 = .ok (.aload_n 0, 1) := by decide +kernel
theorem dX0_readCore_57 : decode cX0_readCore 57 = .ok (.invokevirtual 126, 3) := by decide +kernel
theorem dX0_readCore_60 : decode cX0_readCore 60 = .ok (.goto 27, 3) := by decide +kernel
theorem dX0_readCore_63 : decode cX0_readCore 63 = .ok (.iload_n 1, 1) := by decide +kernel
theorem dX0_readCore_64 : decode cX0_readCore 64 = .ok (.bipush 40, 2) := by decide +kernel
theorem dX0_readCore_66 : decode cX0_readCore 66 = .ok (.if_icmp .eq 9, 3) := by decide +kernel
theorem dX0_readCore_69 : decode cX0_readCore 69 = .ok (.iload_n 1, 1) := by decide +kernel
theorem dX0_readCore_70 : decode cX0_readCore 70 = .ok (.bipush 126, 2) := by decide +kernel
theorem dX0_readCore_72 : decode cX0_readCore 72 = .ok (.if_icmp .ne 11, 3) := by decide +kernel
theorem dX0_readCore_75 : decode cX0_readCore 75 = .ok (.aload_n 0, 1) := by decide +kernel
theorem dX0_readCore_76 : decode cX0_readCore 76 = .ok (.iload_n 1, 1) := by decide +kernel
theorem dX0_readCore_77 : decode cX0_readCore 77 = .ok (.invokevirtual 133, 3) := by decide +kernel
theorem dX0_readCore_80 : decode cX0_readCore 80 = .ok (.goto 7, 3) := by decide +kernel
theorem dX0_readCore_83 : decode cX0_readCore 83 = .ok (.aload_n 0, 1) := by decide +kernel
theorem dX0_readCore_84 : decode cX0_readCore 84 = .ok (.invokevirtual 76, 3) := by decide +kernel
theorem dX0_readCore_87 : decode cX0_readCore 87 = .ok (.return_, 1) := by decide +kernel
theorem dX0_readQuote_0 : decode cX0_readQuote 0 = .ok (.aload_n 0, 1) := by decide +kernel
theorem dX0_readQuote_1 : decode cX0_readQuote 1 = .ok (.getfield 12, 3) := by decide +kernel
theorem dX0_readQuote_4 : decode cX0_readQuote 4 = .ok (.invokevirtual 79, 3) := by decide +kernel
theorem dX0_readQuote_7 : decode cX0_readQuote 7 = .ok (.istore_n 1, 1) := by decide +kernel
theorem dX0_readQuote_8 : decode cX0_readQuote 8 = .ok (.iload_n 1, 1) := by decide +kernel
theorem dX0_readQuote_9 : decode cX0_readQuote 9 = .ok (.sipush 600, 3) := by decide +kernel
theorem dX0_readQuote_12 : decode cX0_readQuote 12 = .ok (.if_icmp .le 16, 3) := by decide +kernel
theorem dX0_readQuote_15 : decode cX0_readQuote 15 = .ok (.aload_n 0, 1) := by decide +kernel
theorem dX0_readQuote_16 : decode cX0_readQuote 16 = .ok (.iconst 5, 1) := by decide +kernel
theorem dX0_readQuote_17 : decode cX0_readQuote 17 = .ok (.aload_n 0, 1) := by decide +kernel
theorem dX0_readQuote_18 : decode cX0_readQuote 18 = .ok (.getfield 12, 3) := by decide +kernel
theorem dX0_readQuote_21 : decode cX0_readQuote 21 = .ok (.invokevirtual 67, 3) := by decide +kernel
theorem dX0_readQuote_24 : decode cX0_readQuote 24 = .ok (.invokevirtual 69, 3) := by decide +kernel
theorem dX0_readQuote_27 : decode cX0_readQuote 27 = .ok (.return_, 1) := by decide +kernel
theorem dX0_readQuote_28 : decode cX0_readQuote 28 = .ok (.iconst 1, 1) := by decide +kernel
theorem dX0_readQuote_29 : decode cX0_readQuote 29 = .ok (.istore_n 2, 1) := by decide +kernel
theorem dX0_readQuote_30 : decode cX0_readQuote 30 = .ok (.iload_n 2, 1) := by decide +kernel
theorem dX0_readQuote_31 : decode cX0_readQuote 31 = .ok (.iload_n 1, 1) := by decide +kernel
theorem dX0_readQuote_32 : decode cX0_readQuote 32 = .ok (.if_icmp .gt 35, 3) := by decide +kernel
theorem dX0_readQuote_35 : decode cX0_readQuote 35 = .ok (.aload_n 0, 1) := by decide +kernel
theorem dX0_readQuote_36 : decode cX0_readQuote 36 = .ok (.getfield 30, 3) := by decide +kernel
theorem dX0_readQuote_39 : decode cX0_readQuote 39 = .ok (.aload_n 0, 1) := by decide +kernel
theorem dX0_readQuote_40 : decode cX0_readQuote 40 = .ok (.getfield 12, 3) := by decide +kernel
theorem dX0_readQuote_43 : decode cX0_readQuote 43 = .ok (.aload_n 0, 1) := by decide +kernel
theorem dX0_readQuote_44 : decode cX0_readQuote 44 = .ok (.getfield 12, 3) := by decide +kernel
theorem dX0_readQuote_47 : decode cX0_readQuote 47 = .ok (.invokevirtual 67, 3) := by decide +kernel
theorem dX0_readQuote_50 : decode cX0_readQuote 50 = .ok (.iload_n 2, 1) := by decide +kernel
theorem dX0_readQuote_51 : decode cX0_readQuote 51 = .ok (.iadd, 1) := by decide +kernel
theorem dX0_readQuote_52 : decode cX0_readQuote 52 = .ok (.invokevirtual 136, 3) := by decide +kernel
theorem dX0_readQuote_55 : decode cX0_readQuote 55 = .ok (.bipush 97, 2) := by decide +kernel
theorem dX0_readQuote_57 : decode cX0_readQuote 57 = .ok (.isub, 1) := by decide +kernel
theorem dX0_readQuote_58 : decode cX0_readQuote 58 = .ok (.invokevirtual 140, 3) := by decide +kernel
theorem dX0_readQuote_61 : decode cX0_readQuote 61 = .ok (.iinc 2 1, 3) := by decide +kernel
theorem dX0_readQuote_64 : decode cX0_readQuote 64 = .ok (.goto (-34), 3) := by decide +kernel
theorem dX0_readQuote_67 : decode cX0_readQuote 67 = .ok (.aload_n 0, 1) := by decide +kernel
theorem dX0_readQuote_68 : decode cX0_readQuote 68 = .ok (.getfield 12, 3) := by decide +kernel
theorem dX0_readQuote_71 : decode cX0_readQuote 71 = .ok (.invokevirtual 73, 3) := by decide +kernel
theorem dX0_readQuote_74 : decode cX0_readQuote 74 = .ok (.return_, 1) := by decide +kernel
theorem dX0_open_0 : decode cX0_open 0 = .ok (.aload_n 0, 1) := by decide +kernel
theorem dX0_open_1 : decode cX0_open 1 = .ok (.getfield 88, 3) := by decide +kernel
theorem dX0_open_4 : decode cX0_open 4 = .ok (.bipush 6, 2) := by decide +kernel
theorem dX0_open_6 : decode cX0_open 6 = .ok (.if_icmp .lt 17, 3) := by decide +kernel
theorem dX0_open_9 : decode cX0_open 9 = .ok (.aload_n 0, 1) := by decide +kernel
theorem dX0_open_10 : decode cX0_open 10 = .ok (.bipush 6, 2) := by decide +kernel
theorem dX0_open_12 : decode cX0_open 12 = .ok (.aload_n 0, 1) := by decide +kernel
theorem dX0_open_13 : decode cX0_open 13 = .ok (.getfield 12, 3) := by decide +kernel
theorem dX0_open_16 : decode cX0_open 16 = .ok (.invokevirtual 67, 3) := by decide +kernel
theorem dX0_open_19 : decode cX0_open 19 = .ok (.invokevirtual 69, 3) := by decide +kernel
theorem dX0_open_22 : decode cX0_open 22 = .ok (.return_, 1) := by decide +kernel
theorem dX0_open_23 : decode cX0_open 23 = .ok (.aload_n 0, 1) := by decide +kernel
theorem dX0_open_24 : decode cX0_open 24 = .ok (.getfield 34, 3) := by decide +kernel
theorem dX0_open_27 : decode cX0_open 27 = .ok (.aload_n 0, 1) := by decide +kernel
theorem dX0_open_28 : decode cX0_open 28 = .ok (.getfield 88, 3) := by decide +kernel
theorem dX0_open_31 : decode cX0_open 31 = .ok (.iload_n 1, 1) := by decide +kernel
theorem dX0_open_32 : decode cX0_open 32 = .ok (.iastore, 1) := by decide +kernel
theorem dX0_open_33 : decode cX0_open 33 = .ok (.aload_n 0, 1) := by decide +kernel
theorem dX0_open_34 : decode cX0_open 34 = .ok (.getfield 38, 3) := by decide +kernel
theorem dX0_open_37 : decode cX0_open 37 = .ok (.aload_n 0, 1) := by decide +kernel
theorem dX0_open_38 : decode cX0_open 38 = .ok (.getfield 88, 3) := by decide +kernel
theorem dX0_open_41 : decode cX0_open 41 = .ok (.aload_n 0, 1) := by decide +kernel
theorem dX0_open_42 : decode cX0_open 42 = .ok (.getfield 91, 3) := by decide +kernel
theorem dX0_open_45 : decode cX0_open 45 = .ok (.iastore, 1) := by decide +kernel
theorem dX0_open_46 : decode cX0_open 46 = .ok (.aload_n 0, 1) := by decide +kernel
theorem dX0_open_47 : decode cX0_open 47 = .ok (.getfield 41, 3) := by decide +kernel
theorem dX0_open_50 : decode cX0_open 50 = .ok (.aload_n 0, 1) := by decide +kernel
theorem dX0_open_51 : decode cX0_open 51 = .ok (.getfield 88, 3) := by decide +kernel
theorem dX0_open_54 : decode cX0_open 54 = .ok (.aload_n 0, 1) := by decide +kernel
theorem dX0_open_55 : decode cX0_open 55 = .ok (.getfield 94, 3) := by decide +kernel
theorem dX0_open_58 : decode cX0_open 58 = .ok (.iastore, 1) := by decide +kernel
theorem dX0_open_59 : decode cX0_open 59 = .ok (.aload_n 0, 1) := by decide +kernel
theorem dX0_open_60 : decode cX0_open 60 = .ok (.dup, 1) := by decide +kernel
theorem dX0_open_61 : decode cX0_open 61 = .ok (.getfield 88, 3) := by decide +kernel
theorem dX0_open_64 : decode cX0_open 64 = .ok (.iconst 1, 1) := by decide +kernel
theorem dX0_open_65 : decode cX0_open 65 = .ok (.iadd, 1) := by decide +kernel
theorem dX0_open_66 : decode cX0_open 66 = .ok (.putfield 88, 3) := by decide +kernel
theorem dX0_open_69 : decode cX0_open 69 = .ok (.aload_n 0, 1) := by decide +kernel
theorem dX0_open_70 : decode cX0_open 70 = .ok (.getfield 12, 3) := by decide +kernel
theorem dX0_open_73 : decode cX0_open 73 = .ok (.invokevirtual 73, 3) := by decide +kernel
theorem dX0_open_76 : decode cX0_open 76 = .ok (.iload_n 1, 1) := by decide +kernel
theorem dX0_open_77 : decode cX0_open 77 = .ok (.bipush 40, 2) := by decide +kernel
theorem dX0_open_79 : decode cX0_open 79 = .ok (.if_icmp .ne 25, 3) := by decide +kernel
theorem dX0_open_82 : decode cX0_open 82 = .ok (.aload_n 0, 1) := by decide +kernel
theorem dX0_open_83 : decode cX0_open 83 = .ok (.aload_n 0, 1) := by decide +kernel
theorem dX0_open_84 : decode cX0_open 84 = .ok (.getfield 30, 3) := by decide +kernel
theorem dX0_open_87 : decode cX0_open 87 = .ok (.getfield 143, 3) := by decide +kernel
theorem dX0_open_90 : decode cX0_open 90 = .ok (.putfield 91, 3) := by decide +kernel
theorem dX0_open_93 : decode cX0_open 93 = .ok (.aload_n 0, 1) := by decide +kernel
theorem dX0_open_94 : decode cX0_open 94 = .ok (.aload_n 0, 1) := by decide +kernel
theorem dX0_open_95 : decode cX0_open 95 = .ok (.getfield 30, 3) := by decide +kernel
theorem dX0_open_98 : decode cX0_open 98 = .ok (.getfield 143, 3) := by decide +kernel
theorem dX0_open_101 : decode cX0_open 101 = .ok (.putfield 94, 3) := by decide +kernel
theorem dX0_open_104 : decode cX0_open 104 = .ok (.return_, 1) := by decide +kernel
theorem dX0_endCore_0 : decode cX0_endCore 0 = .ok (.aload_n 0, 1) := by decide +kernel
theorem dX0_endCore_1 : decode cX0_endCore 1 = .ok (.getfield 88, 3) := by decide +kernel
theorem dX0_endCore_4 : decode cX0_endCore 4 = .ok (.iconst 1, 1) := by decide +kernel
theorem dX0_endCore_5 : decode cX0_endCore 5 = .ok (.isub, 1) := by decide +kernel
theorem dX0_endCore_6 : decode cX0_endCore 6 = .ok (.istore_n 1, 1) := by decide +kernel
theorem dX0_endCore_7 : decode cX0_endCore 7 = .ok (.iload_n 1, 1) := by decide +kernel
theorem dX0_endCore_8 : decode cX0_endCore 8 = .ok (.ifCond .lt 47, 3) := by decide +kernel
theorem dX0_endCore_11 : decode cX0_endCore 11 = .ok (.iload_n 1, 1) := by decide +kernel
theorem dX0_endCore_12 : decode cX0_endCore 12 = .ok (.bipush 6, 2) := by decide +kernel
theorem dX0_endCore_14 : decode cX0_endCore 14 = .ok (.if_icmp .ge 41, 3) := by decide +kernel
theorem dX0_endCore_17 : decode cX0_endCore 17 = .ok (.aload_n 0, 1) := by decide +kernel
theorem dX0_endCore_18 : decode cX0_endCore 18 = .ok (.getfield 34, 3) := by decide +kernel
theorem dX0_endCore_21 : decode cX0_endCore 21 = .ok (.iload_n 1, 1) := by decide +kernel
theorem dX0_endCore_22 : decode cX0_endCore 22 = .ok (.iaload, 1) := by decide +kernel
theorem dX0_endCore_23 : decode cX0_endCore 23 = .ok (.bipush 126, 2) := by decide +kernel
theorem dX0_endCore_25 : decode cX0_endCore 25 = .ok (.if_icmp .ne 30, 3) := by decide +kernel
theorem dX0_endCore_28 : decode cX0_endCore 28 = .ok (.aload_n 0, 1) := by decide +kernel
theorem dX0_endCore_29 : decode cX0_endCore 29 = .ok (.getfield 30, 3) := by decide +kernel
theorem dX0_endCore_32 : decode cX0_endCore 32 = .ok (.aload_n 0, 1) := by decide +kernel
theorem dX0_endCore_33 : decode cX0_endCore 33 = .ok (.getfield 94, 3) := by decide +kernel
theorem dX0_endCore_36 : decode cX0_endCore 36 = .ok (.invokevirtual 146, 3) := by decide +kernel
theorem dX0_endCore_39 : decode cX0_endCore 39 = .ok (.aload_n 0, 1) := by decide +kernel
theorem dX0_endCore_40 : decode cX0_endCore 40 = .ok (.dup, 1) := by decide +kernel
theorem dX0_endCore_41 : decode cX0_endCore 41 = .ok (.getfield 88, 3) := by decide +kernel
theorem dX0_endCore_44 : decode cX0_endCore 44 = .ok (.iconst 1, 1) := by decide +kernel
theorem dX0_endCore_45 : decode cX0_endCore 45 = .ok (.isub, 1) := by decide +kernel
theorem dX0_endCore_46 : decode cX0_endCore 46 = .ok (.putfield 88, 3) := by decide +kernel
theorem dX0_endCore_49 : decode cX0_endCore 49 = .ok (.iinc 1 (-1), 3) := by decide +kernel
theorem dX0_endCore_52 : decode cX0_endCore 52 = .ok (.goto (-45), 3) := by decide +kernel
theorem dX0_endCore_55 : decode cX0_endCore 55 = .ok (.aload_n 0, 1) := by decide +kernel
theorem dX0_endCore_56 : decode cX0_endCore 56 = .ok (.iconst 1, 1) := by decide +kernel
theorem dX0_endCore_57 : decode cX0_endCore 57 = .ok (.putfield 97, 3) := by decide +kernel
theorem dX0_endCore_60 : decode cX0_endCore 60 = .ok (.return_, 1) := by decide +kernel
theorem dX0_readTimes_0 : decode cX0_readTimes 0 = .ok (.aload_n 0, 1) := by decide +kernel
theorem dX0_readTimes_1 : decode cX0_readTimes 1 = .ok (.getfield 12, 3) := by decide +kernel
theorem dX0_readTimes_4 : decode cX0_readTimes 4 = .ok (.invokevirtual 73, 3) := by decide +kernel
theorem dX0_readTimes_7 : decode cX0_readTimes 7 = .ok (.aload_n 0, 1) := by decide +kernel
theorem dX0_readTimes_8 : decode cX0_readTimes 8 = .ok (.iconst 1, 1) := by decide +kernel
theorem dX0_readTimes_9 : decode cX0_readTimes 9 = .ok (.sipush 600, 3) := by decide +kernel
theorem dX0_readTimes_12 : decode cX0_readTimes 12 = .ok (.iconst 4, 1) := by decide +kernel
theorem dX0_readTimes_13 : decode cX0_readTimes 13 = .ok (.invokevirtual 119, 3) := by decide +kernel
theorem dX0_readTimes_16 : decode cX0_readTimes 16 = .ok (.istore_n 1, 1) := by decide +kernel
theorem dX0_readTimes_17 : decode cX0_readTimes 17 = .ok (.aload_n 0, 1) := by decide +kernel
theorem dX0_readTimes_18 : decode cX0_readTimes 18 = .ok (.getfield 48, 3) := by decide +kernel
theorem dX0_readTimes_21 : decode cX0_readTimes 21 = .ok (.ifCond .eq 4, 3) := by decide +kernel
theorem dX0_readTimes_24 : decode cX0_readTimes 24 = .ok (.return_, 1) := by decide +kernel
theorem dX0_readTimes_25 : decode cX0_readTimes 25 = .ok (.aload_n 0, 1) := by decide +kernel
theorem dX0_readTimes_26 : decode cX0_readTimes 26 = .ok (.getfield 30, 3) := by decide +kernel
theorem dX0_readTimes_29 : decode cX0_readTimes 29 = .ok (.getfield 143, 3) := by decide +kernel
theorem dX0_readTimes_32 : decode cX0_readTimes 32 = .ok (.aload_n 0, 1) := by decide +kernel
theorem dX0_readTimes_33 : decode cX0_readTimes 33 = .ok (.getfield 94, 3) := by decide +kernel
theorem dX0_readTimes_36 : decode cX0_readTimes 36 = .ok (.isub, 1) := by decide +kernel
theorem dX0_readTimes_37 : decode cX0_readTimes 37 = .ok (.iload_n 1, 1) := by decide +kernel
theorem dX0_readTimes_38 : decode cX0_readTimes 38 = .ok (.imul, 1) := by decide +kernel
theorem dX0_readTimes_39 : decode cX0_readTimes 39 = .ok (.sipush 600, 3) := by decide +kernel
theorem dX0_readTimes_42 : decode cX0_readTimes 42 = .ok (.if_icmp .le 16, 3) := by decide +kernel
theorem dX0_readTimes_45 : decode cX0_readTimes 45 = .ok (.aload_n 0, 1) := by decide +kernel
theorem dX0_readTimes_46 : decode cX0_readTimes 46 = .ok (.iconst 5, 1) := by decide +kernel
theorem dX0_readTimes_47 : decode cX0_readTimes 47 = .ok (.aload_n 0, 1) := by decide +kernel
theorem dX0_readTimes_48 : decode cX0_readTimes 48 = .ok (.getfield 12, 3) := by decide +kernel
theorem dX0_readTimes_51 : decode cX0_readTimes 51 = .ok (.getfield 149, 3) := by decide +kernel
theorem dX0_readTimes_54 : decode cX0_readTimes 54 = .ok (.invokevirtual 69, 3) := by decide +kernel
theorem dX0_readTimes_57 : decode cX0_readTimes 57 = .ok (.return_, 1) := by decide +kernel
theorem dX0_readTimes_58 : decode cX0_readTimes 58 = .ok (.aload_n 0, 1) := by decide +kernel
theorem dX0_readTimes_59 : decode cX0_readTimes 59 = .ok (.getfield 30, 3) := by decide +kernel
theorem dX0_readTimes_62 : decode cX0_readTimes 62 = .ok (.aload_n 0, 1) := by decide +kernel
theorem dX0_readTimes_63 : decode cX0_readTimes 63 = .ok (.getfield 94, 3) := by decide +kernel
theorem dX0_readTimes_66 : decode cX0_readTimes 66 = .ok (.iload_n 1, 1) := by decide +kernel
theorem dX0_readTimes_67 : decode cX0_readTimes 67 = .ok (.invokevirtual 152, 3) := by decide +kernel
theorem dX0_readTimes_70 : decode cX0_readTimes 70 = .ok (.aload_n 0, 1) := by decide +kernel
theorem dX0_readTimes_71 : decode cX0_readTimes 71 = .ok (.iconst 2, 1) := by decide +kernel
theorem dX0_readTimes_72 : decode cX0_readTimes 72 = .ok (.putfield 97, 3) := by decide +kernel
theorem dX0_readTimes_75 : decode cX0_readTimes 75 = .ok (.return_, 1) := by decide +kernel
theorem dX0_readCut_0 : decode cX0_readCut 0 = .ok (.aload_n 0, 1) := by decide +kernel
theorem dX0_readCut_1 : decode cX0_readCut 1 = .ok (.getfield 12, 3) := by decide +kernel
theorem dX0_readCut_4 : decode cX0_readCut 4 = .ok (.invokevirtual 73, 3) := by decide +kernel
theorem dX0_readCut_7 : decode cX0_readCut 7 = .ok (.aload_n 0, 1) := by decide +kernel
theorem dX0_readCut_8 : decode cX0_readCut 8 = .ok (.getfield 30, 3) := by decide +kernel
theorem dX0_readCut_11 : decode cX0_readCut 11 = .ok (.getfield 143, 3) := by decide +kernel
theorem dX0_readCut_14 : decode cX0_readCut 14 = .ok (.aload_n 0, 1) := by decide +kernel
theorem dX0_readCut_15 : decode cX0_readCut 15 = .ok (.getfield 94, 3) := by decide +kernel
theorem dX0_readCut_18 : decode cX0_readCut 18 = .ok (.isub, 1) := by decide +kernel
theorem dX0_readCut_19 : decode cX0_readCut 19 = .ok (.istore_n 1, 1) := by decide +kernel
theorem dX0_readCut_20 : decode cX0_readCut 20 = .ok (.aload_n 0, 1) := by decide +kernel
theorem dX0_readCut_21 : decode cX0_readCut 21 = .ok (.iconst 0, 1) := by decide +kernel
theorem dX0_readCut_22 : decode cX0_readCut 22 = .ok (.iload_n 1, 1) := by decide +kernel
theorem dX0_readCut_23 : decode cX0_readCut 23 = .ok (.iconst 1, 1) := by decide +kernel
theorem dX0_readCut_24 : decode cX0_readCut 24 = .ok (.isub, 1) := by decide +kernel
theorem dX0_readCut_25 : decode cX0_readCut 25 = .ok (.iconst 4, 1) := by decide +kernel
theorem dX0_readCut_26 : decode cX0_readCut 26 = .ok (.invokevirtual 119, 3) := by decide +kernel
theorem dX0_readCut_29 : decode cX0_readCut 29 = .ok (.istore_n 2, 1) := by decide +kernel
theorem dX0_readCut_30 : decode cX0_readCut 30 = .ok (.aload_n 0, 1) := by decide +kernel
theorem dX0_readCut_31 : decode cX0_readCut 31 = .ok (.bipush 44, 2) := by decide +kernel
theorem dX0_readCut_33 : decode cX0_readCut 33 = .ok (.invokevirtual 116, 3) := by decide +kernel
theorem dX0_readCut_36 : decode cX0_readCut 36 = .ok (.aload_n 0, 1) := by decide +kernel
theorem dX0_readCut_37 : decode cX0_readCut 37 = .ok (.iconst 1, 1) := by decide +kernel
theorem dX0_readCut_38 : decode cX0_readCut 38 = .ok (.iload_n 1, 1) := by decide +kernel
theorem dX0_readCut_39 : decode cX0_readCut 39 = .ok (.iload_n 2, 1) := by decide +kernel
theorem dX0_readCut_40 : decode cX0_readCut 40 = .ok (.isub, 1) := by decide +kernel
theorem dX0_readCut_41 : decode cX0_readCut 41 = .ok (.iconst 4, 1) := by decide +kernel
theorem dX0_readCut_42 : decode cX0_readCut 42 = .ok (.invokevirtual 119, 3) := by decide +kernel
theorem dX0_readCut_45 : decode cX0_readCut 45 = .ok (.istore_n 3, 1) := by decide +kernel
theorem dX0_readCut_46 : decode cX0_readCut 46 = .ok (.aload_n 0, 1) := by decide +kernel
theorem dX0_readCut_47 : decode cX0_readCut 47 = .ok (.bipush 93, 2) := by decide +kernel
theorem dX0_readCut_49 : decode cX0_readCut 49 = .ok (.invokevirtual 116, 3) := by decide +kernel
theorem dX0_readCut_52 : decode cX0_readCut 52 = .ok (.aload_n 0, 1) := by decide +kernel
theorem dX0_readCut_53 : decode cX0_readCut 53 = .ok (.getfield 48, 3) := by decide +kernel
theorem dX0_readCut_56 : decode cX0_readCut 56 = .ok (.ifCond .ne 16, 3) := by decide +kernel
theorem dX0_readCut_59 : decode cX0_readCut 59 = .ok (.aload_n 0, 1) := by decide +kernel
theorem dX0_readCut_60 : decode cX0_readCut 60 = .ok (.getfield 30, 3) := by decide +kernel
theorem dX0_readCut_63 : decode cX0_readCut 63 = .ok (.aload_n 0, 1) := by decide +kernel
theorem dX0_readCut_64 : decode cX0_readCut 64 = .ok (.getfield 94, 3) := by decide +kernel
theorem dX0_readCut_67 : decode cX0_readCut 67 = .ok (.iload_n 2, 1) := by decide +kernel
theorem dX0_readCut_68 : decode cX0_readCut 68 = .ok (.iload_n 3, 1) := by decide +kernel
theorem dX0_readCut_69 : decode cX0_readCut 69 = .ok (.invokevirtual 155, 3) := by decide +kernel
theorem dX0_readCut_72 : decode cX0_readCut 72 = .ok (.return_, 1) := by decide +kernel
theorem dX0_endProduct_0 : decode cX0_endProduct 0 = .ok (.aload_n 0, 1) := by decide +kernel
theorem dX0_endProduct_1 : decode cX0_endProduct 1 = .ok (.getfield 30, 3) := by decide +kernel
theorem dX0_endProduct_4 : decode cX0_endProduct 4 = .ok (.getfield 143, 3) := by decide +kernel
theorem dX0_endProduct_7 : decode cX0_endProduct 7 = .ok (.aload_n 0, 1) := by decide +kernel
theorem dX0_endProduct_8 : decode cX0_endProduct 8 = .ok (.getfield 91, 3) := by decide +kernel
theorem dX0_endProduct_11 : decode cX0_endProduct 11 = .ok (.isub, 1) := by decide +kernel
theorem dX0_endProduct_12 : decode cX0_endProduct 12 = .ok (.sipush 600, 3) := by decide +kernel
theorem dX0_endProduct_15 : decode cX0_endProduct 15 = .ok (.if_icmp .le 18, 3) := by decide +kernel
theorem dX0_endProduct_18 : decode cX0_endProduct 18 = .ok (.aload_n 0, 1) := by decide +kernel
theorem dX0_endProduct_19 : decode cX0_endProduct 19 = .ok (.iconst 5, 1) := by decide +kernel
theorem dX0_endProduct_20 : decode cX0_endProduct 20 = .ok (.aload_n 0, 1) := by decide +kernel
theorem dX0_endProduct_21 : decode cX0_endProduct 21 = .ok (.getfield 12, 3) := by decide +kernel
theorem dX0_endProduct_24 : decode cX0_endProduct 24 = .ok (.getfield 149, 3) := by decide +kernel
theorem dX0_endProduct_27 : decode cX0_endProduct 27 = .ok (.invokevirtual 69, 3) := by decide +kernel
theorem dX0_endProduct_30 : decode cX0_endProduct 30 = .ok (.goto 139, 3) := by decide +kernel
theorem dX0_endProduct_33 : decode cX0_endProduct 33 = .ok (.iload_n 1, 1) := by decide +kernel
theorem dX0_endProduct_34 : decode cX0_endProduct 34 = .ok (.bipush 43, 2) := by decide +kernel
theorem dX0_endProduct_36 : decode cX0_endProduct 36 = .ok (.if_icmp .ne 29, 3) := by decide +kernel
theorem dX0_endProduct_39 : decode cX0_endProduct 39 = .ok (.aload_n 0, 1) := by decide +kernel
theorem dX0_endProduct_40 : decode cX0_endProduct 40 = .ok (.getfield 12, 3) := by decide +kernel
theorem dX0_endProduct_43 : decode cX0_endProduct 43 = .ok (.invokevirtual 73, 3) := by decide +kernel
theorem dX0_endProduct_46 : decode cX0_endProduct 46 = .ok (.aload_n 0, 1) := by decide +kernel
theorem dX0_endProduct_47 : decode cX0_endProduct 47 = .ok (.aload_n 0, 1) := by decide +kernel
theorem dX0_endProduct_48 : decode cX0_endProduct 48 = .ok (.getfield 30, 3) := by decide +kernel
theorem dX0_endProduct_51 : decode cX0_endProduct 51 = .ok (.getfield 143, 3) := by decide +kernel
theorem dX0_endProduct_54 : decode cX0_endProduct 54 = .ok (.putfield 94, 3) := by decide +kernel
theorem dX0_endProduct_57 : decode cX0_endProduct 57 = .ok (.aload_n 0, 1) := by decide +kernel
theorem dX0_endProduct_58 : decode cX0_endProduct 58 = .ok (.iconst 0, 1) := by decide +kernel
theorem dX0_endProduct_59 : decode cX0_endProduct 59 = .ok (.putfield 97, 3) := by decide +kernel
theorem dX0_endProduct_62 : decode cX0_endProduct 62 = .ok (.goto 107, 3) := by decide +kernel
theorem dX0_endProduct_65 : decode cX0_endProduct 65 = .ok (.iload_n 1, 1) := by decide +kernel
theorem dX0_endProduct_66 : decode cX0_endProduct 66 = .ok (.bipush 41, 2) := by decide +kernel
theorem dX0_endProduct_68 : decode cX0_endProduct 68 = .ok (.if_icmp .ne 69, 3) := by decide +kernel
theorem dX0_endProduct_71 : decode cX0_endProduct 71 = .ok (.aload_n 0, 1) := by decide +kernel
theorem dX0_endProduct_72 : decode cX0_endProduct 72 = .ok (.getfield 88, 3) := by decide +kernel
theorem dX0_endProduct_75 : decode cX0_endProduct 75 = .ok (.ifCond .le 62, 3) := by decide +kernel
theorem dX0_endProduct_78 : decode cX0_endProduct 78 = .ok (.aload_n 0, 1) := by decide +kernel
theorem dX0_endProduct_79 : decode cX0_endProduct 79 = .ok (.getfield 88, 3) := by decide +kernel
theorem dX0_endProduct_82 : decode cX0_endProduct 82 = .ok (.bipush 6, 2) := by decide +kernel
theorem dX0_endProduct_84 : decode cX0_endProduct 84 = .ok (.if_icmp .gt 53, 3) := by decide +kernel
theorem dX0_endProduct_87 : decode cX0_endProduct 87 = .ok (.aload_n 0, 1) := by decide +kernel
theorem dX0_endProduct_88 : decode cX0_endProduct 88 = .ok (.getfield 12, 3) := by decide +kernel
theorem dX0_endProduct_91 : decode cX0_endProduct 91 = .ok (.invokevirtual 73, 3) := by decide +kernel
theorem dX0_endProduct_94 : decode cX0_endProduct 94 = .ok (.aload_n 0, 1) := by decide +kernel
theorem dX0_endProduct_95 : decode cX0_endProduct 95 = .ok (.dup, 1) := by decide +kernel
theorem dX0_endProduct_96 : decode cX0_endProduct 96 = .ok (.getfield 88, 3) := by decide +kernel
theorem dX0_endProduct_99 : decode cX0_endProduct 99 = .ok (.iconst 1, 1) := by decide +kernel
theorem dX0_endProduct_100 : decode cX0_endProduct 100 = .ok (.isub, 1) := by decide +kernel
theorem dX0_endProduct_101 : decode cX0_endProduct 101 = .ok (.putfield 88, 3) := by decide +kernel
theorem dX0_endProduct_104 : decode cX0_endProduct 104 = .ok (.aload_n 0, 1) := by decide +kernel
theorem dX0_endProduct_105 : decode cX0_endProduct 105 = .ok (.aload_n 0, 1) := by decide +kernel
theorem dX0_endProduct_106 : decode cX0_endProduct 106 = .ok (.getfield 38, 3) := by decide +kernel
theorem dX0_endProduct_109 : decode cX0_endProduct 109 = .ok (.aload_n 0, 1) := by decide +kernel
theorem dX0_endProduct_110 : decode cX0_endProduct 110 = .ok (.getfield 88, 3) := by decide +kernel
theorem dX0_endProduct_113 : decode cX0_endProduct 113 = .ok (.iaload, 1) := by decide +kernel
theorem dX0_endProduct_114 : decode cX0_endProduct 114 = .ok (.putfield 91, 3) := by decide +kernel
theorem dX0_endProduct_117 : decode cX0_endProduct 117 = .ok (.aload_n 0, 1) := by decide +kernel
theorem dX0_endProduct_118 : decode cX0_endProduct 118 = .ok (.aload_n 0, 1) := by decide +kernel
theorem dX0_endProduct_119 : decode cX0_endProduct 119 = .ok (.getfield 41, 3) := by decide +kernel
theorem dX0_endProduct_122 : decode cX0_endProduct 122 = .ok (.aload_n 0, 1) := by decide +kernel
theorem dX0_endProduct_123 : decode cX0_endProduct 123 = .ok (.getfield 88, 3) := by decide +kernel
theorem dX0_endProduct_126 : decode cX0_endProduct 126 = .ok (.iaload, 1) := by decide +kernel
theorem dX0_endProduct_127 : decode cX0_endProduct 127 = .ok (.putfield 94, 3) := by decide +kernel
theorem dX0_endProduct_130 : decode cX0_endProduct 130 = .ok (.aload_n 0, 1) := by decide +kernel
theorem dX0_endProduct_131 : decode cX0_endProduct 131 = .ok (.invokevirtual 126, 3) := by decide +kernel
theorem dX0_endProduct_134 : decode cX0_endProduct 134 = .ok (.goto 35, 3) := by decide +kernel
theorem dX0_endProduct_137 : decode cX0_endProduct 137 = .ok (.iload_n 1, 1) := by decide +kernel
theorem dX0_endProduct_138 : decode cX0_endProduct 138 = .ok (.bipush 59, 2) := by decide +kernel
theorem dX0_endProduct_140 : decode cX0_endProduct 140 = .ok (.if_icmp .ne 25, 3) := by decide +kernel
theorem dX0_endProduct_143 : decode cX0_endProduct 143 = .ok (.aload_n 0, 1) := by decide +kernel
theorem dX0_endProduct_144 : decode cX0_endProduct 144 = .ok (.getfield 88, 3) := by decide +kernel
theorem dX0_endProduct_147 : decode cX0_endProduct 147 = .ok (.ifCond .ne 18, 3) := by decide +kernel
theorem dX0_endProduct_150 : decode cX0_endProduct 150 = .ok (.aload_n 0, 1) := by decide +kernel
theorem dX0_endProduct_151 : decode cX0_endProduct 151 = .ok (.getfield 12, 3) := by decide +kernel
theorem dX0_endProduct_154 : decode cX0_endProduct 154 = .ok (.invokevirtual 73, 3) := by decide +kernel
theorem dX0_endProduct_157 : decode cX0_endProduct 157 = .ok (.aload_n 0, 1) := by decide +kernel
theorem dX0_endProduct_158 : decode cX0_endProduct 158 = .ok (.iconst 3, 1) := by decide +kernel
theorem dX0_endProduct_159 : decode cX0_endProduct 159 = .ok (.putfield 97, 3) := by decide +kernel
theorem dX0_endProduct_162 : decode cX0_endProduct 162 = .ok (.goto 7, 3) := by decide +kernel
theorem dX0_endProduct_165 : decode cX0_endProduct 165 = .ok (.aload_n 0, 1) := by decide +kernel
theorem dX0_endProduct_166 : decode cX0_endProduct 166 = .ok (.invokevirtual 76, 3) := by decide +kernel
theorem dX0_endProduct_169 : decode cX0_endProduct 169 = .ok (.return_, 1) := by decide +kernel
theorem dX1_init_0 : decode cX1_init 0 = .ok (.aload_n 0, 1) := by decide +kernel
theorem dX1_init_1 : decode cX1_init 1 = .ok (.invokespecial 1, 3) := by decide +kernel
theorem dX1_init_4 : decode cX1_init 4 = .ok (.aload_n 0, 1) := by decide +kernel
theorem dX1_init_5 : decode cX1_init 5 = .ok (.iload_n 1, 1) := by decide +kernel
theorem dX1_init_6 : decode cX1_init 6 = .ok (.iconst 1, 1) := by decide +kernel
theorem dX1_init_7 : decode cX1_init 7 = .ok (.invokestatic 7, 3) := by decide +kernel
theorem dX1_init_10 : decode cX1_init 10 = .ok (.anewarray 13, 3) := by decide +kernel
theorem dX1_init_13 : decode cX1_init 13 = .ok (.putfield 15, 3) := by decide +kernel
theorem dX1_init_16 : decode cX1_init 16 = .ok (.iconst 0, 1) := by decide +kernel
theorem dX1_init_17 : decode cX1_init 17 = .ok (.istore_n 2, 1) := by decide +kernel
theorem dX1_init_18 : decode cX1_init 18 = .ok (.iload_n 2, 1) := by decide +kernel
theorem dX1_init_19 : decode cX1_init 19 = .ok (.aload_n 0, 1) := by decide +kernel
theorem dX1_init_20 : decode cX1_init 20 = .ok (.getfield 15, 3) := by decide +kernel
theorem dX1_init_23 : decode cX1_init 23 = .ok (.arraylength, 1) := by decide +kernel
theorem dX1_init_24 : decode cX1_init 24 = .ok (.if_icmp .ge 22, 3) := by decide +kernel
theorem dX1_init_27 : decode cX1_init 27 = .ok (.aload_n 0, 1) := by decide +kernel
theorem dX1_init_28 : decode cX1_init 28 = .ok (.getfield 15, 3) := by decide +kernel
theorem dX1_init_31 : decode cX1_init 31 = .ok (.iload_n 2, 1) := by decide +kernel
theorem dX1_init_32 : decode cX1_init 32 = .ok (.new 13, 3) := by decide +kernel
theorem dX1_init_35 : decode cX1_init 35 = .ok (.dup, 1) := by decide +kernel
theorem dX1_init_36 : decode cX1_init 36 = .ok (.invokespecial 21, 3) := by decide +kernel
theorem dX1_init_39 : decode cX1_init 39 = .ok (.aastore, 1) := by decide +kernel
theorem dX1_init_40 : decode cX1_init 40 = .ok (.iinc 2 1, 3) := by decide +kernel
theorem dX1_init_43 : decode cX1_init 43 = .ok (.goto (-25), 3) := by decide +kernel
theorem dX1_init_46 : decode cX1_init 46 = .ok (.return_, 1) := by decide +kernel
theorem dX1_isFull_0 : decode cX1_isFull 0 = .ok (.aload_n 0, 1) := by decide +kernel
theorem dX1_isFull_1 : decode cX1_isFull 1 = .ok (.getfield 22, 3) := by decide +kernel
theorem dX1_isFull_4 : decode cX1_isFull 4 = .ok (.aload_n 0, 1) := by decide +kernel
theorem dX1_isFull_5 : decode cX1_isFull 5 = .ok (.getfield 15, 3) := by decide +kernel
theorem dX1_isFull_8 : decode cX1_isFull 8 = .ok (.arraylength, 1) := by decide +kernel
theorem dX1_isFull_9 : decode cX1_isFull 9 = .ok (.if_icmp .lt 7, 3) := by decide +kernel
theorem dX1_isFull_12 : decode cX1_isFull 12 = .ok (.iconst 1, 1) := by decide +kernel
theorem dX1_isFull_13 : decode cX1_isFull 13 = .ok (.goto 4, 3) := by decide +kernel
theorem dX1_isFull_16 : decode cX1_isFull 16 = .ok (.iconst 0, 1) := by decide +kernel
theorem dX1_isFull_17 : decode cX1_isFull 17 = .ok (.ireturn, 1) := by decide +kernel
theorem dX1_push_0 : decode cX1_push 0 = .ok (.aload_n 0, 1) := by decide +kernel
theorem dX1_push_1 : decode cX1_push 1 = .ok (.invokevirtual 26, 3) := by decide +kernel
theorem dX1_push_4 : decode cX1_push 4 = .ok (.ifCond .eq 29, 3) := by decide +kernel
theorem dX1_push_7 : decode cX1_push 7 = .ok (.aload_n 0, 1) := by decide +kernel
theorem dX1_push_8 : decode cX1_push 8 = .ok (.aload_n 0, 1) := by decide +kernel
theorem dX1_push_9 : decode cX1_push 9 = .ok (.getfield 30, 3) := by decide +kernel
theorem dX1_push_12 : decode cX1_push 12 = .ok (.iconst 1, 1) := by decide +kernel
theorem dX1_push_13 : decode cX1_push 13 = .ok (.iadd, 1) := by decide +kernel
theorem dX1_push_14 : decode cX1_push 14 = .ok (.aload_n 0, 1) := by decide +kernel
theorem dX1_push_15 : decode cX1_push 15 = .ok (.getfield 15, 3) := by decide +kernel
theorem dX1_push_18 : decode cX1_push 18 = .ok (.arraylength, 1) := by decide +kernel
theorem dX1_push_19 : decode cX1_push 19 = .ok (.irem, 1) := by decide +kernel
theorem dX1_push_20 : decode cX1_push 20 = .ok (.putfield 30, 3) := by decide +kernel
theorem dX1_push_23 : decode cX1_push 23 = .ok (.aload_n 0, 1) := by decide +kernel
theorem dX1_push_24 : decode cX1_push 24 = .ok (.dup, 1) := by decide +kernel
theorem dX1_push_25 : decode cX1_push 25 = .ok (.getfield 22, 3) := by decide +kernel
theorem dX1_push_28 : decode cX1_push 28 = .ok (.iconst 1, 1) := by decide +kernel
theorem dX1_push_29 : decode cX1_push 29 = .ok (.isub, 1) := by decide +kernel
theorem dX1_push_30 : decode cX1_push 30 = .ok (.putfield 22, 3) := by decide +kernel
theorem dX1_push_33 : decode cX1_push 33 = .ok (.aload_n 0, 1) := by decide +kernel
theorem dX1_push_34 : decode cX1_push 34 = .ok (.dup, 1) := by decide +kernel
theorem dX1_push_35 : decode cX1_push 35 = .ok (.getfield 22, 3) := by decide +kernel
theorem dX1_push_38 : decode cX1_push 38 = .ok (.iconst 1, 1) := by decide +kernel
theorem dX1_push_39 : decode cX1_push 39 = .ok (.iadd, 1) := by decide +kernel
theorem dX1_push_40 : decode cX1_push 40 = .ok (.putfield 22, 3) := by decide +kernel
theorem dX1_push_43 : decode cX1_push 43 = .ok (.aload_n 0, 1) := by decide +kernel
theorem dX1_push_44 : decode cX1_push 44 = .ok (.invokevirtual 33, 3) := by decide +kernel
theorem dX1_push_47 : decode cX1_push 47 = .ok (.astore_n 2, 1) := by decide +kernel
theorem dX1_push_48 : decode cX1_push 48 = .ok (.aload_n 2, 1) := by decide +kernel
theorem dX1_push_49 : decode cX1_push 49 = .ok (.ifnull 8, 3) := by decide +kernel
theorem dX1_push_52 : decode cX1_push 52 = .ok (.aload_n 2, 1) := by decide +kernel
theorem dX1_push_53 : decode cX1_push 53 = .ok (.aload_n 1, 1) := by decide +kernel
theorem dX1_push_54 : decode cX1_push 54 = .ok (.invokevirtual 37, 3) := by decide +kernel
theorem dX1_push_57 : decode cX1_push 57 = .ok (.return_, 1) := by decide +kernel
theorem dX1_latest_0 : decode cX1_latest 0 = .ok (.aload_n 0, 1) := by decide +kernel
theorem dX1_latest_1 : decode cX1_latest 1 = .ok (.getfield 22, 3) := by decide +kernel
theorem dX1_latest_4 : decode cX1_latest 4 = .ok (.ifCond .le 28, 3) := by decide +kernel
theorem dX1_latest_7 : decode cX1_latest 7 = .ok (.aload_n 0, 1) := by decide +kernel
theorem dX1_latest_8 : decode cX1_latest 8 = .ok (.getfield 15, 3) := by decide +kernel
theorem dX1_latest_11 : decode cX1_latest 11 = .ok (.aload_n 0, 1) := by decide +kernel
theorem dX1_latest_12 : decode cX1_latest 12 = .ok (.getfield 30, 3) := by decide +kernel
theorem dX1_latest_15 : decode cX1_latest 15 = .ok (.aload_n 0, 1) := by decide +kernel
theorem dX1_latest_16 : decode cX1_latest 16 = .ok (.getfield 22, 3) := by decide +kernel
theorem dX1_latest_19 : decode cX1_latest 19 = .ok (.iadd, 1) := by decide +kernel
theorem dX1_latest_20 : decode cX1_latest 20 = .ok (.iconst 1, 1) := by decide +kernel
theorem dX1_latest_21 : decode cX1_latest 21 = .ok (.isub, 1) := by decide +kernel
theorem dX1_latest_22 : decode cX1_latest 22 = .ok (.aload_n 0, 1) := by decide +kernel
theorem dX1_latest_23 : decode cX1_latest 23 = .ok (.getfield 15, 3) := by decide +kernel
theorem dX1_latest_26 : decode cX1_latest 26 = .ok (.arraylength, 1) := by decide +kernel
theorem dX1_latest_27 : decode cX1_latest 27 = .ok (.irem, 1) := by decide +kernel
theorem dX1_latest_28 : decode cX1_latest 28 = .ok (.aaload, 1) := by decide +kernel
theorem dX1_latest_29 : decode cX1_latest 29 = .ok (.goto 4, 3) := by decide +kernel
theorem dX1_latest_32 : decode cX1_latest 32 = .ok (.aconst_null, 1) := by decide +kernel
theorem dX1_latest_33 : decode cX1_latest 33 = .ok (.areturn, 1) := by decide +kernel
theorem dX1_forgetLatest_0 : decode cX1_forgetLatest 0 = .ok (.aload_n 0, 1) := by decide +kernel
theorem dX1_forgetLatest_1 : decode cX1_forgetLatest 1 = .ok (.getfield 22, 3) := by decide +kernel
theorem dX1_forgetLatest_4 : decode cX1_forgetLatest 4 = .ok (.ifCond .le 13, 3) := by decide +kernel
theorem dX1_forgetLatest_7 : decode cX1_forgetLatest 7 = .ok (.aload_n 0, 1) := by decide +kernel
theorem dX1_forgetLatest_8 : decode cX1_forgetLatest 8 = .ok (.dup, 1) := by decide +kernel
theorem dX1_forgetLatest_9 : decode cX1_forgetLatest 9 = .ok (.getfield 22, 3) := by decide +kernel
theorem dX1_forgetLatest_12 : decode cX1_forgetLatest 12 = .ok (.iconst 1, 1) := by decide +kernel
theorem dX1_forgetLatest_13 : decode cX1_forgetLatest 13 = .ok (.isub, 1) := by decide +kernel
theorem dX1_forgetLatest_14 : decode cX1_forgetLatest 14 = .ok (.putfield 22, 3) := by decide +kernel
theorem dX1_forgetLatest_17 : decode cX1_forgetLatest 17 = .ok (.return_, 1) := by decide +kernel
theorem dX2_init_0 : decode cX2_init 0 = .ok (.aload_n 0, 1) := by decide +kernel
theorem dX2_init_1 : decode cX2_init 1 = .ok (.invokespecial 3, 3) := by decide +kernel
theorem dX2_init_4 : decode cX2_init 4 = .ok (.aload_n 0, 1) := by decide +kernel
theorem dX2_init_5 : decode cX2_init 5 = .ok (.iload_n 1, 1) := by decide +kernel
theorem dX2_init_6 : decode cX2_init 6 = .ok (.iconst 0, 1) := by decide +kernel
theorem dX2_init_7 : decode cX2_init 7 = .ok (.invokestatic 9, 3) := by decide +kernel
theorem dX2_init_10 : decode cX2_init 10 = .ok (.newarray .byte, 2) := by decide +kernel
theorem dX2_init_12 : decode cX2_init 12 = .ok (.putfield 15, 3) := by decide +kernel
theorem dX2_init_15 : decode cX2_init 15 = .ok (.return_, 1) := by decide +kernel
theorem dX2_clear_0 : decode cX2_clear 0 = .ok (.aload_n 0, 1) := by decide +kernel
theorem dX2_clear_1 : decode cX2_clear 1 = .ok (.iconst 0, 1) := by decide +kernel
theorem dX2_clear_2 : decode cX2_clear 2 = .ok (.putfield 21, 3) := by decide +kernel
theorem dX2_clear_5 : decode cX2_clear 5 = .ok (.return_, 1) := by decide +kernel
theorem dX2_addLetter_0 : decode cX2_addLetter 0 = .ok (.aload_n 0, 1) := by decide +kernel
theorem dX2_addLetter_1 : decode cX2_addLetter 1 = .ok (.getfield 21, 3) := by decide +kernel
theorem dX2_addLetter_4 : decode cX2_addLetter 4 = .ok (.aload_n 0, 1) := by decide +kernel
theorem dX2_addLetter_5 : decode cX2_addLetter 5 = .ok (.getfield 15, 3) := by decide +kernel
theorem dX2_addLetter_8 : decode cX2_addLetter 8 = .ok (.arraylength, 1) := by decide +kernel
theorem dX2_addLetter_9 : decode cX2_addLetter 9 = .ok (.if_icmp .ge 24, 3) := by decide +kernel
theorem dX2_addLetter_12 : decode cX2_addLetter 12 = .ok (.aload_n 0, 1) := by decide +kernel
theorem dX2_addLetter_13 : decode cX2_addLetter 13 = .ok (.getfield 15, 3) := by decide +kernel
theorem dX2_addLetter_16 : decode cX2_addLetter 16 = .ok (.aload_n 0, 1) := by decide +kernel
theorem dX2_addLetter_17 : decode cX2_addLetter 17 = .ok (.getfield 21, 3) := by decide +kernel
theorem dX2_addLetter_20 : decode cX2_addLetter 20 = .ok (.iload_n 1, 1) := by decide +kernel
theorem dX2_addLetter_21 : decode cX2_addLetter 21 = .ok (.i2b, 1) := by decide +kernel
theorem dX2_addLetter_22 : decode cX2_addLetter 22 = .ok (.bastore, 1) := by decide +kernel
theorem dX2_addLetter_23 : decode cX2_addLetter 23 = .ok (.aload_n 0, 1) := by decide +kernel
theorem dX2_addLetter_24 : decode cX2_addLetter 24 = .ok (.dup, 1) := by decide +kernel
theorem dX2_addLetter_25 : decode cX2_addLetter 25 = .ok (.getfield 21, 3) := by decide +kernel
theorem dX2_addLetter_28 : decode cX2_addLetter 28 = .ok (.iconst 1, 1) := by decide +kernel
theorem dX2_addLetter_29 : decode cX2_addLetter 29 = .ok (.iadd, 1) := by decide +kernel
theorem dX2_addLetter_30 : decode cX2_addLetter 30 = .ok (.putfield 21, 3) := by decide +kernel
theorem dX2_addLetter_33 : decode cX2_addLetter 33 = .ok (.return_, 1) := by decide +kernel
theorem dX2_add_0 : decode cX2_add 0 = .ok (.iload_n 2, 1) := by decide +kernel
theorem dX2_add_1 : decode cX2_add 1 = .ok (.ifCond .lt 29, 3) := by decide +kernel
theorem dX2_add_4 : decode cX2_add 4 = .ok (.iload_n 3, 1) := by decide +kernel
theorem dX2_add_5 : decode cX2_add 5 = .ok (.ifCond .le 25, 3) := by decide +kernel
theorem dX2_add_8 : decode cX2_add 8 = .ok (.iload_n 3, 1) := by decide +kernel
theorem dX2_add_9 : decode cX2_add 9 = .ok (.aload_n 1, 1) := by decide +kernel
theorem dX2_add_10 : decode cX2_add 10 = .ok (.arraylength, 1) := by decide +kernel
theorem dX2_add_11 : decode cX2_add 11 = .ok (.iload_n 2, 1) := by decide +kernel
theorem dX2_add_12 : decode cX2_add 12 = .ok (.isub, 1) := by decide +kernel
theorem dX2_add_13 : decode cX2_add 13 = .ok (.if_icmp .gt 17, 3) := by decide +kernel
theorem dX2_add_16 : decode cX2_add 16 = .ok (.iload_n 3, 1) := by decide +kernel
theorem dX2_add_17 : decode cX2_add 17 = .ok (.aload_n 0, 1) := by decide +kernel
theorem dX2_add_18 : decode cX2_add 18 = .ok (.getfield 15, 3) := by decide +kernel
theorem dX2_add_21 : decode cX2_add 21 = .ok (.arraylength, 1) := by decide +kernel
theorem dX2_add_22 : decode cX2_add 22 = .ok (.aload_n 0, 1) := by decide +kernel
theorem dX2_add_23 : decode cX2_add 23 = .ok (.getfield 21, 3) := by decide +kernel
theorem dX2_add_26 : decode cX2_add 26 = .ok (.isub, 1) := by decide +kernel
theorem dX2_add_27 : decode cX2_add 27 = .ok (.if_icmp .le 4, 3) := by decide +kernel
theorem dX2_add_30 : decode cX2_add 30 = .ok (.return_, 1) := by decide +kernel
theorem dX2_add_31 : decode cX2_add 31 = .ok (.aload_n 1, 1) := by decide +kernel
theorem dX2_add_32 : decode cX2_add 32 = .ok (.iload_n 2, 1) := by decide +kernel
theorem dX2_add_33 : decode cX2_add 33 = .ok (.aload_n 0, 1) := by decide +kernel
theorem dX2_add_34 : decode cX2_add 34 = .ok (.getfield 15, 3) := by decide +kernel
theorem dX2_add_37 : decode cX2_add 37 = .ok (.aload_n 0, 1) := by decide +kernel
theorem dX2_add_38 : decode cX2_add 38 = .ok (.getfield 21, 3) := by decide +kernel
theorem dX2_add_41 : decode cX2_add 41 = .ok (.iload_n 3, 1) := by decide +kernel
theorem dX2_add_42 : decode cX2_add 42 = .ok (.invokestatic 25, 3) := by decide +kernel
theorem dX2_add_45 : decode cX2_add 45 = .ok (.aload_n 0, 1) := by decide +kernel
theorem dX2_add_46 : decode cX2_add 46 = .ok (.dup, 1) := by decide +kernel
theorem dX2_add_47 : decode cX2_add 47 = .ok (.getfield 21, 3) := by decide +kernel
theorem dX2_add_50 : decode cX2_add 50 = .ok (.iload_n 3, 1) := by decide +kernel
theorem dX2_add_51 : decode cX2_add 51 = .ok (.iadd, 1) := by decide +kernel
theorem dX2_add_52 : decode cX2_add 52 = .ok (.putfield 21, 3) := by decide +kernel
theorem dX2_add_55 : decode cX2_add 55 = .ok (.return_, 1) := by decide +kernel
theorem dX2_addPart_0 : decode cX2_addPart 0 = .ok (.aload_n 1, 1) := by decide +kernel
theorem dX2_addPart_1 : decode cX2_addPart 1 = .ok (.iload_n 2, 1) := by decide +kernel
theorem dX2_addPart_2 : decode cX2_addPart 2 = .ok (.iload_n 3, 1) := by decide +kernel
theorem dX2_addPart_3 : decode cX2_addPart 3 = .ok (.iload 4, 2) := by decide +kernel
theorem dX2_addPart_5 : decode cX2_addPart 5 = .ok (.invokevirtual 31, 3) := by decide +kernel
theorem dX2_addPart_8 : decode cX2_addPart 8 = .ok (.ifCond .eq 20, 3) := by decide +kernel
theorem dX2_addPart_11 : decode cX2_addPart 11 = .ok (.aload_n 0, 1) := by decide +kernel
theorem dX2_addPart_12 : decode cX2_addPart 12 = .ok (.aload_n 1, 1) := by decide +kernel
theorem dX2_addPart_13 : decode cX2_addPart 13 = .ok (.getfield 37, 3) := by decide +kernel
theorem dX2_addPart_16 : decode cX2_addPart 16 = .ok (.iload_n 2, 1) := by decide +kernel
theorem dX2_addPart_17 : decode cX2_addPart 17 = .ok (.sipush 600, 3) := by decide +kernel
theorem dX2_addPart_20 : decode cX2_addPart 20 = .ok (.imul, 1) := by decide +kernel
theorem dX2_addPart_21 : decode cX2_addPart 21 = .ok (.iload_n 3, 1) := by decide +kernel
theorem dX2_addPart_22 : decode cX2_addPart 22 = .ok (.iadd, 1) := by decide +kernel
theorem dX2_addPart_23 : decode cX2_addPart 23 = .ok (.iload 4, 2) := by decide +kernel
theorem dX2_addPart_25 : decode cX2_addPart 25 = .ok (.invokevirtual 38, 3) := by decide +kernel
theorem dX2_addPart_28 : decode cX2_addPart 28 = .ok (.return_, 1) := by decide +kernel
theorem dX2_addWhole_0 : decode cX2_addWhole 0 = .ok (.aload_n 1, 1) := by decide +kernel
theorem dX2_addWhole_1 : decode cX2_addWhole 1 = .ok (.iload_n 2, 1) := by decide +kernel
theorem dX2_addWhole_2 : decode cX2_addWhole 2 = .ok (.invokevirtual 42, 3) := by decide +kernel
theorem dX2_addWhole_5 : decode cX2_addWhole 5 = .ok (.ifCond .eq 22, 3) := by decide +kernel
theorem dX2_addWhole_8 : decode cX2_addWhole 8 = .ok (.aload_n 0, 1) := by decide +kernel
theorem dX2_addWhole_9 : decode cX2_addWhole 9 = .ok (.aload_n 1, 1) := by decide +kernel
theorem dX2_addWhole_10 : decode cX2_addWhole 10 = .ok (.getfield 37, 3) := by decide +kernel
theorem dX2_addWhole_13 : decode cX2_addWhole 13 = .ok (.iload_n 2, 1) := by decide +kernel
theorem dX2_addWhole_14 : decode cX2_addWhole 14 = .ok (.sipush 600, 3) := by decide +kernel
theorem dX2_addWhole_17 : decode cX2_addWhole 17 = .ok (.imul, 1) := by decide +kernel
theorem dX2_addWhole_18 : decode cX2_addWhole 18 = .ok (.aload_n 1, 1) := by decide +kernel
theorem dX2_addWhole_19 : decode cX2_addWhole 19 = .ok (.getfield 46, 3) := by decide +kernel
theorem dX2_addWhole_22 : decode cX2_addWhole 22 = .ok (.iload_n 2, 1) := by decide +kernel
theorem dX2_addWhole_23 : decode cX2_addWhole 23 = .ok (.iaload, 1) := by decide +kernel
theorem dX2_addWhole_24 : decode cX2_addWhole 24 = .ok (.invokevirtual 38, 3) := by decide +kernel
theorem dX2_addWhole_27 : decode cX2_addWhole 27 = .ok (.return_, 1) := by decide +kernel
theorem dX2_multiplyFrom_0 : decode cX2_multiplyFrom 0 = .ok (.aload_n 0, 1) := by decide +kernel
theorem dX2_multiplyFrom_1 : decode cX2_multiplyFrom 1 = .ok (.getfield 21, 3) := by decide +kernel
theorem dX2_multiplyFrom_4 : decode cX2_multiplyFrom 4 = .ok (.iload_n 1, 1) := by decide +kernel
theorem dX2_multiplyFrom_5 : decode cX2_multiplyFrom 5 = .ok (.isub, 1) := by decide +kernel
theorem dX2_multiplyFrom_6 : decode cX2_multiplyFrom 6 = .ok (.istore_n 3, 1) := by decide +kernel
theorem dX2_multiplyFrom_7 : decode cX2_multiplyFrom 7 = .ok (.iconst 1, 1) := by decide +kernel
theorem dX2_multiplyFrom_8 : decode cX2_multiplyFrom 8 = .ok (.istore 4, 2) := by decide +kernel
theorem dX2_multiplyFrom_10 : decode cX2_multiplyFrom 10 = .ok (.iload 4, 2) := by decide +kernel
theorem dX2_multiplyFrom_12 : decode cX2_multiplyFrom 12 = .ok (.iload_n 2, 1) := by decide +kernel
theorem dX2_multiplyFrom_13 : decode cX2_multiplyFrom 13 = .ok (.if_icmp .ge 19, 3) := by decide +kernel
theorem dX2_multiplyFrom_16 : decode cX2_multiplyFrom 16 = .ok (.aload_n 0, 1) := by decide +kernel
theorem dX2_multiplyFrom_17 : decode cX2_multiplyFrom 17 = .ok (.aload_n 0, 1) := by decide +kernel
theorem dX2_multiplyFrom_18 : decode cX2_multiplyFrom 18 = .ok (.getfield 15, 3) := by decide +kernel
theorem dX2_multiplyFrom_21 : decode cX2_multiplyFrom 21 = .ok (.iload_n 1, 1) := by decide +kernel
theorem dX2_multiplyFrom_22 : decode cX2_multiplyFrom 22 = .ok (.iload_n 3, 1) := by decide +kernel
theorem dX2_multiplyFrom_23 : decode cX2_multiplyFrom 23 = .ok (.invokevirtual 38, 3) := by decide +kernel
theorem dX2_multiplyFrom_26 : decode cX2_multiplyFrom 26 = .ok (.iinc 4 1, 3) := by decide +kernel
theorem dX2_multiplyFrom_29 : decode cX2_multiplyFrom 29 = .ok (.goto (-19), 3) := by decide +kernel
theorem dX2_multiplyFrom_32 : decode cX2_multiplyFrom 32 = .ok (.return_, 1) := by decide +kernel
theorem dX2_cutFrom_0 : decode cX2_cutFrom 0 = .ok (.iload_n 1, 1) := by decide +kernel
theorem dX2_cutFrom_1 : decode cX2_cutFrom 1 = .ok (.ifCond .lt 23, 3) := by decide +kernel
theorem dX2_cutFrom_4 : decode cX2_cutFrom 4 = .ok (.iload_n 2, 1) := by decide +kernel
theorem dX2_cutFrom_5 : decode cX2_cutFrom 5 = .ok (.ifCond .lt 19, 3) := by decide +kernel
theorem dX2_cutFrom_8 : decode cX2_cutFrom 8 = .ok (.iload_n 3, 1) := by decide +kernel
theorem dX2_cutFrom_9 : decode cX2_cutFrom 9 = .ok (.ifCond .lt 15, 3) := by decide +kernel
theorem dX2_cutFrom_12 : decode cX2_cutFrom 12 = .ok (.iload_n 3, 1) := by decide +kernel
theorem dX2_cutFrom_13 : decode cX2_cutFrom 13 = .ok (.aload_n 0, 1) := by decide +kernel
theorem dX2_cutFrom_14 : decode cX2_cutFrom 14 = .ok (.getfield 21, 3) := by decide +kernel
theorem dX2_cutFrom_17 : decode cX2_cutFrom 17 = .ok (.iload_n 1, 1) := by decide +kernel
theorem dX2_cutFrom_18 : decode cX2_cutFrom 18 = .ok (.isub, 1) := by decide +kernel
theorem dX2_cutFrom_19 : decode cX2_cutFrom 19 = .ok (.iload_n 2, 1) := by decide +kernel
theorem dX2_cutFrom_20 : decode cX2_cutFrom 20 = .ok (.isub, 1) := by decide +kernel
theorem dX2_cutFrom_21 : decode cX2_cutFrom 21 = .ok (.if_icmp .le 4, 3) := by decide +kernel
theorem dX2_cutFrom_24 : decode cX2_cutFrom 24 = .ok (.return_, 1) := by decide +kernel
theorem dX2_cutFrom_25 : decode cX2_cutFrom 25 = .ok (.aload_n 0, 1) := by decide +kernel
theorem dX2_cutFrom_26 : decode cX2_cutFrom 26 = .ok (.getfield 15, 3) := by decide +kernel
theorem dX2_cutFrom_29 : decode cX2_cutFrom 29 = .ok (.iload_n 1, 1) := by decide +kernel
theorem dX2_cutFrom_30 : decode cX2_cutFrom 30 = .ok (.iload_n 2, 1) := by decide +kernel
theorem dX2_cutFrom_31 : decode cX2_cutFrom 31 = .ok (.iadd, 1) := by decide +kernel
theorem dX2_cutFrom_32 : decode cX2_cutFrom 32 = .ok (.aload_n 0, 1) := by decide +kernel
theorem dX2_cutFrom_33 : decode cX2_cutFrom 33 = .ok (.getfield 15, 3) := by decide +kernel
theorem dX2_cutFrom_36 : decode cX2_cutFrom 36 = .ok (.iload_n 1, 1) := by decide +kernel
theorem dX2_cutFrom_37 : decode cX2_cutFrom 37 = .ok (.iload_n 3, 1) := by decide +kernel
theorem dX2_cutFrom_38 : decode cX2_cutFrom 38 = .ok (.invokestatic 25, 3) := by decide +kernel
theorem dX2_cutFrom_41 : decode cX2_cutFrom 41 = .ok (.aload_n 0, 1) := by decide +kernel
theorem dX2_cutFrom_42 : decode cX2_cutFrom 42 = .ok (.iload_n 1, 1) := by decide +kernel
theorem dX2_cutFrom_43 : decode cX2_cutFrom 43 = .ok (.iload_n 3, 1) := by decide +kernel
theorem dX2_cutFrom_44 : decode cX2_cutFrom 44 = .ok (.iadd, 1) := by decide +kernel
theorem dX2_cutFrom_45 : decode cX2_cutFrom 45 = .ok (.putfield 21, 3) := by decide +kernel
theorem dX2_cutFrom_48 : decode cX2_cutFrom 48 = .ok (.return_, 1) := by decide +kernel
theorem dX2_reverseFrom_0 : decode cX2_reverseFrom 0 = .ok (.iload_n 1, 1) := by decide +kernel
theorem dX2_reverseFrom_1 : decode cX2_reverseFrom 1 = .ok (.istore_n 2, 1) := by decide +kernel
theorem dX2_reverseFrom_2 : decode cX2_reverseFrom 2 = .ok (.aload_n 0, 1) := by decide +kernel
theorem dX2_reverseFrom_3 : decode cX2_reverseFrom 3 = .ok (.getfield 21, 3) := by decide +kernel
theorem dX2_reverseFrom_6 : decode cX2_reverseFrom 6 = .ok (.iconst 1, 1) := by decide +kernel
theorem dX2_reverseFrom_7 : decode cX2_reverseFrom 7 = .ok (.isub, 1) := by decide +kernel
theorem dX2_reverseFrom_8 : decode cX2_reverseFrom 8 = .ok (.istore_n 3, 1) := by decide +kernel
theorem dX2_reverseFrom_9 : decode cX2_reverseFrom 9 = .ok (.iload_n 2, 1) := by decide +kernel
theorem dX2_reverseFrom_10 : decode cX2_reverseFrom 10 = .ok (.ifCond .lt 45, 3) := by decide +kernel
theorem dX2_reverseFrom_13 : decode cX2_reverseFrom 13 = .ok (.iload_n 2, 1) := by decide +kernel
theorem dX2_reverseFrom_14 : decode cX2_reverseFrom 14 = .ok (.iload_n 3, 1) := by decide +kernel
theorem dX2_reverseFrom_15 : decode cX2_reverseFrom 15 = .ok (.if_icmp .ge 40, 3) := by decide +kernel
theorem dX2_reverseFrom_18 : decode cX2_reverseFrom 18 = .ok (.aload_n 0, 1) := by decide +kernel
theorem dX2_reverseFrom_19 : decode cX2_reverseFrom 19 = .ok (.getfield 15, 3) := by decide +kernel
theorem dX2_reverseFrom_22 : decode cX2_reverseFrom 22 = .ok (.iload_n 2, 1) := by decide +kernel
theorem dX2_reverseFrom_23 : decode cX2_reverseFrom 23 = .ok (.baload, 1) := by decide +kernel
theorem dX2_reverseFrom_24 : decode cX2_reverseFrom 24 = .ok (.istore 4, 2) := by decide +kernel
theorem dX2_reverseFrom_26 : decode cX2_reverseFrom 26 = .ok (.aload_n 0, 1) := by decide +kernel
theorem dX2_reverseFrom_27 : decode cX2_reverseFrom 27 = .ok (.getfield 15, 3) := by decide +kernel
theorem dX2_reverseFrom_30 : decode cX2_reverseFrom 30 = .ok (.iload_n 2, 1) := by decide +kernel
theorem dX2_reverseFrom_31 : decode cX2_reverseFrom 31 = .ok (.aload_n 0, 1) := by decide +kernel
theorem dX2_reverseFrom_32 : decode cX2_reverseFrom 32 = .ok (.getfield 15, 3) := by decide +kernel
theorem dX2_reverseFrom_35 : decode cX2_reverseFrom 35 = .ok (.iload_n 3, 1) := by decide +kernel
theorem dX2_reverseFrom_36 : decode cX2_reverseFrom 36 = .ok (.baload, 1) := by decide +kernel
theorem dX2_reverseFrom_37 : decode cX2_reverseFrom 37 = .ok (.bastore, 1) := by decide +kernel
theorem dX2_reverseFrom_38 : decode cX2_reverseFrom 38 = .ok (.aload_n 0, 1) := by decide +kernel
theorem dX2_reverseFrom_39 : decode cX2_reverseFrom 39 = .ok (.getfield 15, 3) := by decide +kernel
theorem dX2_reverseFrom_42 : decode cX2_reverseFrom 42 = .ok (.iload_n 3, 1) := by decide +kernel
theorem dX2_reverseFrom_43 : decode cX2_reverseFrom 43 = .ok (.iload 4, 2) := by decide +kernel
theorem dX2_reverseFrom_45 : decode cX2_reverseFrom 45 = .ok (.bastore, 1) := by decide +kernel
theorem dX2_reverseFrom_46 : decode cX2_reverseFrom 46 = .ok (.iinc 2 1, 3) := by decide +kernel
theorem dX2_reverseFrom_49 : decode cX2_reverseFrom 49 = .ok (.iinc 3 (-1), 3) := by decide +kernel
theorem dX2_reverseFrom_52 : decode cX2_reverseFrom 52 = .ok (.goto (-43), 3) := by decide +kernel
theorem dX2_reverseFrom_55 : decode cX2_reverseFrom 55 = .ok (.return_, 1) := by decide +kernel
theorem dX2_exchange_0 : decode cX2_exchange 0 = .ok (.iconst 0, 1) := by decide +kernel
theorem dX2_exchange_1 : decode cX2_exchange 1 = .ok (.istore_n 3, 1) := by decide +kernel
theorem dX2_exchange_2 : decode cX2_exchange 2 = .ok (.iload_n 3, 1) := by decide +kernel
theorem dX2_exchange_3 : decode cX2_exchange 3 = .ok (.aload_n 0, 1) := by decide +kernel
theorem dX2_exchange_4 : decode cX2_exchange 4 = .ok (.getfield 21, 3) := by decide +kernel
theorem dX2_exchange_7 : decode cX2_exchange 7 = .ok (.if_icmp .ge 27, 3) := by decide +kernel
theorem dX2_exchange_10 : decode cX2_exchange 10 = .ok (.aload_n 0, 1) := by decide +kernel
theorem dX2_exchange_11 : decode cX2_exchange 11 = .ok (.getfield 15, 3) := by decide +kernel
theorem dX2_exchange_14 : decode cX2_exchange 14 = .ok (.iload_n 3, 1) := by decide +kernel
theorem dX2_exchange_15 : decode cX2_exchange 15 = .ok (.baload, 1) := by decide +kernel
theorem dX2_exchange_16 : decode cX2_exchange 16 = .ok (.iload_n 1, 1) := by decide +kernel
theorem dX2_exchange_17 : decode cX2_exchange 17 = .ok (.if_icmp .ne 11, 3) := by decide +kernel
theorem dX2_exchange_20 : decode cX2_exchange 20 = .ok (.aload_n 0, 1) := by decide +kernel
theorem dX2_exchange_21 : decode cX2_exchange 21 = .ok (.getfield 15, 3) := by decide +kernel
theorem dX2_exchange_24 : decode cX2_exchange 24 = .ok (.iload_n 3, 1) := by decide +kernel
theorem dX2_exchange_25 : decode cX2_exchange 25 = .ok (.iload_n 2, 1) := by decide +kernel
theorem dX2_exchange_26 : decode cX2_exchange 26 = .ok (.i2b, 1) := by decide +kernel
theorem dX2_exchange_27 : decode cX2_exchange 27 = .ok (.bastore, 1) := by decide +kernel
theorem dX2_exchange_28 : decode cX2_exchange 28 = .ok (.iinc 3 1, 3) := by decide +kernel
theorem dX2_exchange_31 : decode cX2_exchange 31 = .ok (.goto (-29), 3) := by decide +kernel
theorem dX2_exchange_34 : decode cX2_exchange 34 = .ok (.return_, 1) := by decide +kernel
theorem dX2_isText_0 : decode cX2_isText 0 = .ok (.iconst 0, 1) := by decide +kernel
theorem dX2_isText_1 : decode cX2_isText 1 = .ok (.istore_n 3, 1) := by decide +kernel
theorem dX2_isText_2 : decode cX2_isText 2 = .ok (.iload_n 3, 1) := by decide +kernel
theorem dX2_isText_3 : decode cX2_isText 3 = .ok (.aload_n 0, 1) := by decide +kernel
theorem dX2_isText_4 : decode cX2_isText 4 = .ok (.getfield 21, 3) := by decide +kernel
theorem dX2_isText_7 : decode cX2_isText 7 = .ok (.if_icmp .ge 26, 3) := by decide +kernel
theorem dX2_isText_10 : decode cX2_isText 10 = .ok (.aload_n 0, 1) := by decide +kernel
theorem dX2_isText_11 : decode cX2_isText 11 = .ok (.getfield 15, 3) := by decide +kernel
theorem dX2_isText_14 : decode cX2_isText 14 = .ok (.iload_n 3, 1) := by decide +kernel
theorem dX2_isText_15 : decode cX2_isText 15 = .ok (.baload, 1) := by decide +kernel
theorem dX2_isText_16 : decode cX2_isText 16 = .ok (.aload_n 1, 1) := by decide +kernel
theorem dX2_isText_17 : decode cX2_isText 17 = .ok (.iload_n 2, 1) := by decide +kernel
theorem dX2_isText_18 : decode cX2_isText 18 = .ok (.iload_n 3, 1) := by decide +kernel
theorem dX2_isText_19 : decode cX2_isText 19 = .ok (.invokevirtual 50, 3) := by decide +kernel
theorem dX2_isText_22 : decode cX2_isText 22 = .ok (.if_icmp .eq 5, 3) := by decide +kernel
theorem dX2_isText_25 : decode cX2_isText 25 = .ok (.iconst 0, 1) := by decide +kernel
theorem dX2_isText_26 : decode cX2_isText 26 = .ok (.ireturn, 1) := by decide +kernel
theorem dX2_isText_27 : decode cX2_isText 27 = .ok (.iinc 3 1, 3) := by decide +kernel
theorem dX2_isText_30 : decode cX2_isText 30 = .ok (.goto (-28), 3) := by decide +kernel
theorem dX2_isText_33 : decode cX2_isText 33 = .ok (.aload_n 0, 1) := by decide +kernel
theorem dX2_isText_34 : decode cX2_isText 34 = .ok (.getfield 21, 3) := by decide +kernel
theorem dX2_isText_37 : decode cX2_isText 37 = .ok (.aload_n 1, 1) := by decide +kernel
theorem dX2_isText_38 : decode cX2_isText 38 = .ok (.iload_n 2, 1) := by decide +kernel
theorem dX2_isText_39 : decode cX2_isText 39 = .ok (.invokevirtual 53, 3) := by decide +kernel
theorem dX2_isText_42 : decode cX2_isText 42 = .ok (.if_icmp .ne 7, 3) := by decide +kernel
theorem dX2_isText_45 : decode cX2_isText 45 = .ok (.iconst 1, 1) := by decide +kernel
theorem dX2_isText_46 : decode cX2_isText 46 = .ok (.goto 4, 3) := by decide +kernel
theorem dX2_isText_49 : decode cX2_isText 49 = .ok (.iconst 0, 1) := by decide +kernel
theorem dX2_isText_50 : decode cX2_isText 50 = .ok (.ireturn, 1) := by decide +kernel
theorem dX3_init_0 : decode cX3_init 0 = .ok (.aload_n 0, 1) := by decide +kernel
theorem dX3_init_1 : decode cX3_init 1 = .ok (.invokespecial 3, 3) := by decide +kernel
theorem dX3_init_4 : decode cX3_init 4 = .ok (.aload_n 0, 1) := by decide +kernel
theorem dX3_init_5 : decode cX3_init 5 = .ok (.sipush 10240, 3) := by decide +kernel
theorem dX3_init_8 : decode cX3_init 8 = .ok (.newarray .byte, 2) := by decide +kernel
theorem dX3_init_10 : decode cX3_init 10 = .ok (.putfield 9, 3) := by decide +kernel
theorem dX3_init_13 : decode cX3_init 13 = .ok (.aload_n 0, 1) := by decide +kernel
theorem dX3_init_14 : decode cX3_init 14 = .ok (.sipush 10240, 3) := by decide +kernel
theorem dX3_init_17 : decode cX3_init 17 = .ok (.newarray .int, 2) := by decide +kernel
theorem dX3_init_19 : decode cX3_init 19 = .ok (.putfield 15, 3) := by decide +kernel
theorem dX3_init_22 : decode cX3_init 22 = .ok (.aload_n 0, 1) := by decide +kernel
theorem dX3_init_23 : decode cX3_init 23 = .ok (.sipush 10240, 3) := by decide +kernel
theorem dX3_init_26 : decode cX3_init 26 = .ok (.newarray .int, 2) := by decide +kernel
theorem dX3_init_28 : decode cX3_init 28 = .ok (.putfield 19, 3) := by decide +kernel
theorem dX3_init_31 : decode cX3_init 31 = .ok (.aload_n 0, 1) := by decide +kernel
theorem dX3_init_32 : decode cX3_init 32 = .ok (.sipush 10240, 3) := by decide +kernel
theorem dX3_init_35 : decode cX3_init 35 = .ok (.newarray .int, 2) := by decide +kernel
theorem dX3_init_37 : decode cX3_init 37 = .ok (.putfield 22, 3) := by decide +kernel
theorem dX3_init_40 : decode cX3_init 40 = .ok (.aload_n 0, 1) := by decide +kernel
theorem dX3_init_41 : decode cX3_init 41 = .ok (.sipush 10240, 3) := by decide +kernel
theorem dX3_init_44 : decode cX3_init 44 = .ok (.newarray .int, 2) := by decide +kernel
theorem dX3_init_46 : decode cX3_init 46 = .ok (.putfield 25, 3) := by decide +kernel
theorem dX3_init_49 : decode cX3_init 49 = .ok (.aload_n 0, 1) := by decide +kernel
theorem dX3_init_50 : decode cX3_init 50 = .ok (.sipush 10240, 3) := by decide +kernel
theorem dX3_init_53 : decode cX3_init 53 = .ok (.newarray .int, 2) := by decide +kernel
theorem dX3_init_55 : decode cX3_init 55 = .ok (.putfield 28, 3) := by decide +kernel
theorem dX3_init_58 : decode cX3_init 58 = .ok (.aload_n 0, 1) := by decide +kernel
theorem dX3_init_59 : decode cX3_init 59 = .ok (.sipush 10240, 3) := by decide +kernel
theorem dX3_init_62 : decode cX3_init 62 = .ok (.newarray .int, 2) := by decide +kernel
theorem dX3_init_64 : decode cX3_init 64 = .ok (.putfield 31, 3) := by decide +kernel
theorem dX3_init_67 : decode cX3_init 67 = .ok (.aload_n 0, 1) := by decide +kernel
theorem dX3_init_68 : decode cX3_init 68 = .ok (.sipush 4096, 3) := by decide +kernel
theorem dX3_init_71 : decode cX3_init 71 = .ok (.newarray .int, 2) := by decide +kernel
theorem dX3_init_73 : decode cX3_init 73 = .ok (.putfield 34, 3) := by decide +kernel
theorem dX3_init_76 : decode cX3_init 76 = .ok (.aload_n 0, 1) := by decide +kernel
theorem dX3_init_77 : decode cX3_init 77 = .ok (.sipush 600, 3) := by decide +kernel
theorem dX3_init_80 : decode cX3_init 80 = .ok (.newarray .int, 2) := by decide +kernel
theorem dX3_init_82 : decode cX3_init 82 = .ok (.putfield 37, 3) := by decide +kernel
theorem dX3_init_85 : decode cX3_init 85 = .ok (.iconst 0, 1) := by decide +kernel
theorem dX3_init_86 : decode cX3_init 86 = .ok (.istore_n 1, 1) := by decide +kernel
theorem dX3_init_87 : decode cX3_init 87 = .ok (.iload_n 1, 1) := by decide +kernel
theorem dX3_init_88 : decode cX3_init 88 = .ok (.bipush 26, 2) := by decide +kernel
theorem dX3_init_90 : decode cX3_init 90 = .ok (.if_icmp .ge 44, 3) := by decide +kernel
theorem dX3_init_93 : decode cX3_init 93 = .ok (.aload_n 0, 1) := by decide +kernel
theorem dX3_init_94 : decode cX3_init 94 = .ok (.getfield 15, 3) := by decide +kernel
theorem dX3_init_97 : decode cX3_init 97 = .ok (.iload_n 1, 1) := by decide +kernel
theorem dX3_init_98 : decode cX3_init 98 = .ok (.iload_n 1, 1) := by decide +kernel
theorem dX3_init_99 : decode cX3_init 99 = .ok (.iastore, 1) := by decide +kernel
theorem dX3_init_100 : decode cX3_init 100 = .ok (.aload_n 0, 1) := by decide +kernel
theorem dX3_init_101 : decode cX3_init 101 = .ok (.getfield 19, 3) := by decide +kernel
theorem dX3_init_104 : decode cX3_init 104 = .ok (.iload_n 1, 1) := by decide +kernel
theorem dX3_init_105 : decode cX3_init 105 = .ok (.iconst (-1), 1) := by decide +kernel
theorem dX3_init_106 : decode cX3_init 106 = .ok (.iastore, 1) := by decide +kernel
theorem dX3_init_107 : decode cX3_init 107 = .ok (.aload_n 0, 1) := by decide +kernel
theorem dX3_init_108 : decode cX3_init 108 = .ok (.getfield 22, 3) := by decide +kernel
theorem dX3_init_111 : decode cX3_init 111 = .ok (.iload_n 1, 1) := by decide +kernel
theorem dX3_init_112 : decode cX3_init 112 = .ok (.bipush 7, 2) := by decide +kernel
theorem dX3_init_114 : decode cX3_init 114 = .ok (.iload_n 1, 1) := by decide +kernel
theorem dX3_init_115 : decode cX3_init 115 = .ok (.iconst 1, 1) := by decide +kernel
theorem dX3_init_116 : decode cX3_init 116 = .ok (.iadd, 1) := by decide +kernel
theorem dX3_init_117 : decode cX3_init 117 = .ok (.invokestatic 40, 3) := by decide +kernel
theorem dX3_init_120 : decode cX3_init 120 = .ok (.iastore, 1) := by decide +kernel
theorem dX3_init_121 : decode cX3_init 121 = .ok (.aload_n 0, 1) := by decide +kernel
theorem dX3_init_122 : decode cX3_init 122 = .ok (.getfield 25, 3) := by decide +kernel
theorem dX3_init_125 : decode cX3_init 125 = .ok (.iload_n 1, 1) := by decide +kernel
theorem dX3_init_126 : decode cX3_init 126 = .ok (.iconst 1, 1) := by decide +kernel
theorem dX3_init_127 : decode cX3_init 127 = .ok (.iastore, 1) := by decide +kernel
theorem dX3_init_128 : decode cX3_init 128 = .ok (.iinc 1 1, 3) := by decide +kernel
theorem dX3_init_131 : decode cX3_init 131 = .ok (.goto (-44), 3) := by decide +kernel
theorem dX3_init_134 : decode cX3_init 134 = .ok (.aload_n 0, 1) := by decide +kernel
theorem dX3_init_135 : decode cX3_init 135 = .ok (.getfield 34, 3) := by decide +kernel
theorem dX3_init_138 : decode cX3_init 138 = .ok (.iconst (-1), 1) := by decide +kernel
theorem dX3_init_139 : decode cX3_init 139 = .ok (.invokestatic 44, 3) := by decide +kernel
theorem dX3_init_142 : decode cX3_init 142 = .ok (.aload_n 0, 1) := by decide +kernel
theorem dX3_init_143 : decode cX3_init 143 = .ok (.bipush 26, 2) := by decide +kernel
theorem dX3_init_145 : decode cX3_init 145 = .ok (.putfield 50, 3) := by decide +kernel
theorem dX3_init_148 : decode cX3_init 148 = .ok (.return_, 1) := by decide +kernel
theorem dX3_mix_0 : decode cX3_mix 0 = .ok (.iload_n 0, 1) := by decide +kernel
theorem dX3_mix_1 : decode cX3_mix 1 = .ok (.iload_n 1, 1) := by decide +kernel
theorem dX3_mix_2 : decode cX3_mix 2 = .ok (.ixor, 1) := by decide +kernel
theorem dX3_mix_3 : decode cX3_mix 3 = .ok (.ldc 54, 2) := by decide +kernel
theorem dX3_mix_5 : decode cX3_mix 5 = .ok (.imul, 1) := by decide +kernel
theorem dX3_mix_6 : decode cX3_mix 6 = .ok (.istore_n 2, 1) := by decide +kernel
theorem dX3_mix_7 : decode cX3_mix 7 = .ok (.iload_n 2, 1) := by decide +kernel
theorem dX3_mix_8 : decode cX3_mix 8 = .ok (.iload_n 2, 1) := by decide +kernel
theorem dX3_mix_9 : decode cX3_mix 9 = .ok (.bipush 15, 2) := by decide +kernel
theorem dX3_mix_11 : decode cX3_mix 11 = .ok (.iushr, 1) := by decide +kernel
theorem dX3_mix_12 : decode cX3_mix 12 = .ok (.ixor, 1) := by decide +kernel
theorem dX3_mix_13 : decode cX3_mix 13 = .ok (.ireturn, 1) := by decide +kernel
theorem dX3_clear_0 : decode cX3_clear 0 = .ok (.aload_n 0, 1) := by decide +kernel
theorem dX3_clear_1 : decode cX3_clear 1 = .ok (.getfield 34, 3) := by decide +kernel
theorem dX3_clear_4 : decode cX3_clear 4 = .ok (.iconst (-1), 1) := by decide +kernel
theorem dX3_clear_5 : decode cX3_clear 5 = .ok (.invokestatic 44, 3) := by decide +kernel
theorem dX3_clear_8 : decode cX3_clear 8 = .ok (.aload_n 0, 1) := by decide +kernel
theorem dX3_clear_9 : decode cX3_clear 9 = .ok (.bipush 26, 2) := by decide +kernel
theorem dX3_clear_11 : decode cX3_clear 11 = .ok (.putfield 50, 3) := by decide +kernel
theorem dX3_clear_14 : decode cX3_clear 14 = .ok (.aload_n 0, 1) := by decide +kernel
theorem dX3_clear_15 : decode cX3_clear 15 = .ok (.dup, 1) := by decide +kernel
theorem dX3_clear_16 : decode cX3_clear 16 = .ok (.getfield 55, 3) := by decide +kernel
theorem dX3_clear_19 : decode cX3_clear 19 = .ok (.iconst 1, 1) := by decide +kernel
theorem dX3_clear_20 : decode cX3_clear 20 = .ok (.iadd, 1) := by decide +kernel
theorem dX3_clear_21 : decode cX3_clear 21 = .ok (.putfield 55, 3) := by decide +kernel
theorem dX3_clear_24 : decode cX3_clear 24 = .ok (.return_, 1) := by decide +kernel
theorem dX3_room_0 : decode cX3_room 0 = .ok (.sipush 10240, 3) := by decide +kernel
theorem dX3_room_3 : decode cX3_room 3 = .ok (.aload_n 0, 1) := by decide +kernel
theorem dX3_room_4 : decode cX3_room 4 = .ok (.getfield 50, 3) := by decide +kernel
theorem dX3_room_7 : decode cX3_room 7 = .ok (.isub, 1) := by decide +kernel
theorem dX3_room_8 : decode cX3_room 8 = .ok (.ireturn, 1) := by decide +kernel
theorem dX3_holds_0 : decode cX3_holds 0 = .ok (.iload_n 1, 1) := by decide +kernel
theorem dX3_holds_1 : decode cX3_holds 1 = .ok (.ifCond .lt 22, 3) := by decide +kernel
theorem dX3_holds_4 : decode cX3_holds 4 = .ok (.iload_n 1, 1) := by decide +kernel
theorem dX3_holds_5 : decode cX3_holds 5 = .ok (.aload_n 0, 1) := by decide +kernel
theorem dX3_holds_6 : decode cX3_holds 6 = .ok (.getfield 50, 3) := by decide +kernel
theorem dX3_holds_9 : decode cX3_holds 9 = .ok (.if_icmp .ge 14, 3) := by decide +kernel
theorem dX3_holds_12 : decode cX3_holds 12 = .ok (.iload_n 1, 1) := by decide +kernel
theorem dX3_holds_13 : decode cX3_holds 13 = .ok (.sipush 10240, 3) := by decide +kernel
theorem dX3_holds_16 : decode cX3_holds 16 = .ok (.if_icmp .ge 7, 3) := by decide +kernel
theorem dX3_holds_19 : decode cX3_holds 19 = .ok (.iconst 1, 1) := by decide +kernel
theorem dX3_holds_20 : decode cX3_holds 20 = .ok (.goto 4, 3) := by decide +kernel
theorem dX3_holds_23 : decode cX3_holds 23 = .ok (.iconst 0, 1) := by decide +kernel
theorem dX3_holds_24 : decode cX3_holds 24 = .ok (.ireturn, 1) := by decide +kernel
theorem dX3_kindOf_0 : decode cX3_kindOf 0 = .ok (.aload_n 0, 1) := by decide +kernel
theorem dX3_kindOf_1 : decode cX3_kindOf 1 = .ok (.iload_n 1, 1) := by decide +kernel
theorem dX3_kindOf_2 : decode cX3_kindOf 2 = .ok (.invokevirtual 58, 3) := by decide +kernel
theorem dX3_kindOf_5 : decode cX3_kindOf 5 = .ok (.ifCond .eq 12, 3) := by decide +kernel
theorem dX3_kindOf_8 : decode cX3_kindOf 8 = .ok (.aload_n 0, 1) := by decide +kernel
theorem dX3_kindOf_9 : decode cX3_kindOf 9 = .ok (.getfield 9, 3) := by decide +kernel
theorem dX3_kindOf_12 : decode cX3_kindOf 12 = .ok (.iload_n 1, 1) := by decide +kernel
theorem dX3_kindOf_13 : decode cX3_kindOf 13 = .ok (.baload, 1) := by decide +kernel
theorem dX3_kindOf_14 : decode cX3_kindOf 14 = .ok (.goto 4, 3) := by decide +kernel
theorem dX3_kindOf_17 : decode cX3_kindOf 17 = .ok (.iconst 0, 1) := by decide +kernel
theorem dX3_kindOf_18 : decode cX3_kindOf 18 = .ok (.ireturn, 1) := by decide +kernel
theorem dX3_firstOf_0 : decode cX3_firstOf 0 = .ok (.aload_n 0, 1) := by decide +kernel
theorem dX3_firstOf_1 : decode cX3_firstOf 1 = .ok (.iload_n 1, 1) := by decide +kernel
theorem dX3_firstOf_2 : decode cX3_firstOf 2 = .ok (.invokevirtual 58, 3) := by decide +kernel
theorem dX3_firstOf_5 : decode cX3_firstOf 5 = .ok (.ifCond .eq 12, 3) := by decide +kernel
theorem dX3_firstOf_8 : decode cX3_firstOf 8 = .ok (.aload_n 0, 1) := by decide +kernel
theorem dX3_firstOf_9 : decode cX3_firstOf 9 = .ok (.getfield 15, 3) := by decide +kernel
theorem dX3_firstOf_12 : decode cX3_firstOf 12 = .ok (.iload_n 1, 1) := by decide +kernel
theorem dX3_firstOf_13 : decode cX3_firstOf 13 = .ok (.iaload, 1) := by decide +kernel
theorem dX3_firstOf_14 : decode cX3_firstOf 14 = .ok (.goto 4, 3) := by decide +kernel
theorem dX3_firstOf_17 : decode cX3_firstOf 17 = .ok (.iconst (-1), 1) := by decide +kernel
theorem dX3_firstOf_18 : decode cX3_firstOf 18 = .ok (.ireturn, 1) := by decide +kernel
theorem dX3_secondOf_0 : decode cX3_secondOf 0 = .ok (.aload_n 0, 1) := by decide +kernel
theorem dX3_secondOf_1 : decode cX3_secondOf 1 = .ok (.iload_n 1, 1) := by decide +kernel
theorem dX3_secondOf_2 : decode cX3_secondOf 2 = .ok (.invokevirtual 58, 3) := by decide +kernel
theorem dX3_secondOf_5 : decode cX3_secondOf 5 = .ok (.ifCond .eq 12, 3) := by decide +kernel
theorem dX3_secondOf_8 : decode cX3_secondOf 8 = .ok (.aload_n 0, 1) := by decide +kernel
theorem dX3_secondOf_9 : decode cX3_secondOf 9 = .ok (.getfield 19, 3) := by decide +kernel
theorem dX3_secondOf_12 : decode cX3_secondOf 12 = .ok (.iload_n 1, 1) := by decide +kernel
theorem dX3_secondOf_13 : decode cX3_secondOf 13 = .ok (.iaload, 1) := by decide +kernel
theorem dX3_secondOf_14 : decode cX3_secondOf 14 = .ok (.goto 4, 3) := by decide +kernel
theorem dX3_secondOf_17 : decode cX3_secondOf 17 = .ok (.iconst (-1), 1) := by decide +kernel
theorem dX3_secondOf_18 : decode cX3_secondOf 18 = .ok (.ireturn, 1) := by decide +kernel
theorem dX3_signOf_0 : decode cX3_signOf 0 = .ok (.aload_n 0, 1) := by decide +kernel
theorem dX3_signOf_1 : decode cX3_signOf 1 = .ok (.iload_n 1, 1) := by decide +kernel
theorem dX3_signOf_2 : decode cX3_signOf 2 = .ok (.invokevirtual 58, 3) := by decide +kernel
theorem dX3_signOf_5 : decode cX3_signOf 5 = .ok (.ifCond .eq 12, 3) := by decide +kernel
theorem dX3_signOf_8 : decode cX3_signOf 8 = .ok (.aload_n 0, 1) := by decide +kernel
theorem dX3_signOf_9 : decode cX3_signOf 9 = .ok (.getfield 22, 3) := by decide +kernel
theorem dX3_signOf_12 : decode cX3_signOf 12 = .ok (.iload_n 1, 1) := by decide +kernel
theorem dX3_signOf_13 : decode cX3_signOf 13 = .ok (.iaload, 1) := by decide +kernel
theorem dX3_signOf_14 : decode cX3_signOf 14 = .ok (.goto 4, 3) := by decide +kernel
theorem dX3_signOf_17 : decode cX3_signOf 17 = .ok (.iconst 0, 1) := by decide +kernel
theorem dX3_signOf_18 : decode cX3_signOf 18 = .ok (.ireturn, 1) := by decide +kernel
theorem dX3_lengthOf_0 : decode cX3_lengthOf 0 = .ok (.aload_n 0, 1) := by decide +kernel
theorem dX3_lengthOf_1 : decode cX3_lengthOf 1 = .ok (.iload_n 1, 1) := by decide +kernel
theorem dX3_lengthOf_2 : decode cX3_lengthOf 2 = .ok (.invokevirtual 58, 3) := by decide +kernel
theorem dX3_lengthOf_5 : decode cX3_lengthOf 5 = .ok (.ifCond .eq 16, 3) := by decide +kernel
theorem dX3_lengthOf_8 : decode cX3_lengthOf 8 = .ok (.aload_n 0, 1) := by decide +kernel
theorem dX3_lengthOf_9 : decode cX3_lengthOf 9 = .ok (.getfield 25, 3) := by decide +kernel
theorem dX3_lengthOf_12 : decode cX3_lengthOf 12 = .ok (.iload_n 1, 1) := by decide +kernel
theorem dX3_lengthOf_13 : decode cX3_lengthOf 13 = .ok (.iaload, 1) := by decide +kernel
theorem dX3_lengthOf_14 : decode cX3_lengthOf 14 = .ok (.iconst 1, 1) := by decide +kernel
theorem dX3_lengthOf_15 : decode cX3_lengthOf 15 = .ok (.invokestatic 62, 3) := by decide +kernel
theorem dX3_lengthOf_18 : decode cX3_lengthOf 18 = .ok (.goto 4, 3) := by decide +kernel
theorem dX3_lengthOf_21 : decode cX3_lengthOf 21 = .ok (.iconst 1, 1) := by decide +kernel
theorem dX3_lengthOf_22 : decode cX3_lengthOf 22 = .ok (.ireturn, 1) := by decide +kernel
theorem dX3_depthOf_0 : decode cX3_depthOf 0 = .ok (.aload_n 0, 1) := by decide +kernel
theorem dX3_depthOf_1 : decode cX3_depthOf 1 = .ok (.iload_n 1, 1) := by decide +kernel
theorem dX3_depthOf_2 : decode cX3_depthOf 2 = .ok (.invokevirtual 58, 3) := by decide +kernel
theorem dX3_depthOf_5 : decode cX3_depthOf 5 = .ok (.ifCond .eq 12, 3) := by decide +kernel
theorem dX3_depthOf_8 : decode cX3_depthOf 8 = .ok (.aload_n 0, 1) := by decide +kernel
theorem dX3_depthOf_9 : decode cX3_depthOf 9 = .ok (.getfield 28, 3) := by decide +kernel
theorem dX3_depthOf_12 : decode cX3_depthOf 12 = .ok (.iload_n 1, 1) := by decide +kernel
theorem dX3_depthOf_13 : decode cX3_depthOf 13 = .ok (.iaload, 1) := by decide +kernel
theorem dX3_depthOf_14 : decode cX3_depthOf 14 = .ok (.goto 4, 3) := by decide +kernel
theorem dX3_depthOf_17 : decode cX3_depthOf 17 = .ok (.iconst 0, 1) := by decide +kernel
theorem dX3_depthOf_18 : decode cX3_depthOf 18 = .ok (.ireturn, 1) := by decide +kernel
theorem dX3_build_0 : decode cX3_build 0 = .ok (.aload_n 0, 1) := by decide +kernel
theorem dX3_build_1 : decode cX3_build 1 = .ok (.iconst 0, 1) := by decide +kernel
theorem dX3_build_2 : decode cX3_build 2 = .ok (.putfield 67, 3) := by decide +kernel
theorem dX3_build_5 : decode cX3_build 5 = .ok (.iload_n 3, 1) := by decide +kernel
theorem dX3_build_6 : decode cX3_build 6 = .ok (.iconst 1, 1) := by decide +kernel
theorem dX3_build_7 : decode cX3_build 7 = .ok (.if_icmp .lt 22, 3) := by decide +kernel
theorem dX3_build_10 : decode cX3_build 10 = .ok (.iload_n 3, 1) := by decide +kernel
theorem dX3_build_11 : decode cX3_build 11 = .ok (.sipush 600, 3) := by decide +kernel
theorem dX3_build_14 : decode cX3_build 14 = .ok (.if_icmp .gt 15, 3) := by decide +kernel
theorem dX3_build_17 : decode cX3_build 17 = .ok (.iload_n 2, 1) := by decide +kernel
theorem dX3_build_18 : decode cX3_build 18 = .ok (.ifCond .lt 11, 3) := by decide +kernel
theorem dX3_build_21 : decode cX3_build 21 = .ok (.iload_n 2, 1) := by decide +kernel
theorem dX3_build_22 : decode cX3_build 22 = .ok (.aload_n 1, 1) := by decide +kernel
theorem dX3_build_23 : decode cX3_build 23 = .ok (.arraylength, 1) := by decide +kernel
theorem dX3_build_24 : decode cX3_build 24 = .ok (.iload_n 3, 1) := by decide +kernel
theorem dX3_build_25 : decode cX3_build 25 = .ok (.isub, 1) := by decide +kernel
theorem dX3_build_26 : decode cX3_build 26 = .ok (.if_icmp .le 5, 3) := by decide +kernel
theorem dX3_build_29 : decode cX3_build 29 = .ok (.iconst (-1), 1) := by decide +kernel
theorem dX3_build_30 : decode cX3_build 30 = .ok (.ireturn, 1) := by decide +kernel
theorem dX3_build_31 : decode cX3_build 31 = .ok (.iconst 0, 1) := by decide +kernel
theorem dX3_build_32 : decode cX3_build 32 = .ok (.istore 4, 2) := by decide +kernel
theorem dX3_build_34 : decode cX3_build 34 = .ok (.iload 4, 2) := by decide +kernel
theorem dX3_build_36 : decode cX3_build 36 = .ok (.iload_n 3, 1) := by decide +kernel
theorem dX3_build_37 : decode cX3_build 37 = .ok (.if_icmp .ge 22, 3) := by decide +kernel
theorem dX3_build_40 : decode cX3_build 40 = .ok (.aload_n 0, 1) := by decide +kernel
theorem dX3_build_41 : decode cX3_build 41 = .ok (.getfield 37, 3) := by decide +kernel
theorem dX3_build_44 : decode cX3_build 44 = .ok (.iload 4, 2) := by decide +kernel
theorem dX3_build_46 : decode cX3_build 46 = .ok (.aload_n 1, 1) := by decide +kernel
theorem dX3_build_47 : decode cX3_build 47 = .ok (.iload_n 2, 1) := by decide +kernel
theorem dX3_build_48 : decode cX3_build 48 = .ok (.iload 4, 2) := by decide +kernel
theorem dX3_build_50 : decode cX3_build 50 = .ok (.iadd, 1) := by decide +kernel
theorem dX3_build_51 : decode cX3_build 51 = .ok (.baload, 1) := by decide +kernel
theorem dX3_build_52 : decode cX3_build 52 = .ok (.iastore, 1) := by decide +kernel
theorem dX3_build_53 : decode cX3_build 53 = .ok (.iinc 4 1, 3) := by decide +kernel
theorem dX3_build_56 : decode cX3_build 56 = .ok (.goto (-22), 3) := by decide +kernel
theorem dX3_build_59 : decode cX3_build 59 = .ok (.iload_n 3, 1) := by decide +kernel
theorem dX3_build_60 : decode cX3_build 60 = .ok (.istore 4, 2) := by decide +kernel
theorem dX3_build_62 : decode cX3_build 62 = .ok (.iload 4, 2) := by decide +kernel
theorem dX3_build_64 : decode cX3_build 64 = .ok (.iconst 1, 1) := by decide +kernel
theorem dX3_build_65 : decode cX3_build 65 = .ok (.if_icmp .le 41, 3) := by decide +kernel
theorem dX3_build_68 : decode cX3_build 68 = .ok (.aload_n 0, 1) := by decide +kernel
theorem dX3_build_69 : decode cX3_build 69 = .ok (.getfield 67, 3) := by decide +kernel
theorem dX3_build_72 : decode cX3_build 72 = .ok (.bipush 31, 2) := by decide +kernel
theorem dX3_build_74 : decode cX3_build 74 = .ok (.if_icmp .ge 32, 3) := by decide +kernel
theorem dX3_build_77 : decode cX3_build 77 = .ok (.aload_n 0, 1) := by decide +kernel
theorem dX3_build_78 : decode cX3_build 78 = .ok (.aload_n 0, 1) := by decide +kernel
theorem dX3_build_79 : decode cX3_build 79 = .ok (.iload 4, 2) := by decide +kernel
theorem dX3_build_81 : decode cX3_build 81 = .ok (.invokevirtual 70, 3) := by decide +kernel
theorem dX3_build_84 : decode cX3_build 84 = .ok (.aload_n 0, 1) := by decide +kernel
theorem dX3_build_85 : decode cX3_build 85 = .ok (.getfield 67, 3) := by decide +kernel
theorem dX3_build_88 : decode cX3_build 88 = .ok (.invokevirtual 74, 3) := by decide +kernel
theorem dX3_build_91 : decode cX3_build 91 = .ok (.istore 4, 2) := by decide +kernel
theorem dX3_build_93 : decode cX3_build 93 = .ok (.aload_n 0, 1) := by decide +kernel
theorem dX3_build_94 : decode cX3_build 94 = .ok (.dup, 1) := by decide +kernel
theorem dX3_build_95 : decode cX3_build 95 = .ok (.getfield 67, 3) := by decide +kernel
theorem dX3_build_98 : decode cX3_build 98 = .ok (.iconst 1, 1) := by decide +kernel
theorem dX3_build_99 : decode cX3_build 99 = .ok (.iadd, 1) := by decide +kernel
theorem dX3_build_100 : decode cX3_build 100 = .ok (.putfield 67, 3) := by decide +kernel
theorem dX3_build_103 : decode cX3_build 103 = .ok (.goto (-41), 3) := by decide +kernel
theorem dX3_build_106 : decode cX3_build 106 = .ok (.iload 4, 2) := by decide +kernel
theorem dX3_build_108 : decode cX3_build 108 = .ok (.iconst 1, 1) := by decide +kernel
theorem dX3_build_109 : decode cX3_build 109 = .ok (.if_icmp .le 33, 3) := by decide +kernel
theorem dX3_build_112 : decode cX3_build 112 = .ok (.aload_n 0, 1) := by decide +kernel
theorem dX3_build_113 : decode cX3_build 113 = .ok (.getfield 67, 3) := by decide +kernel
theorem dX3_build_116 : decode cX3_build 116 = .ok (.bipush 64, 2) := by decide +kernel
theorem dX3_build_118 : decode cX3_build 118 = .ok (.if_icmp .ge 24, 3) := by decide +kernel
theorem dX3_build_121 : decode cX3_build 121 = .ok (.aload_n 0, 1) := by decide +kernel
theorem dX3_build_122 : decode cX3_build 122 = .ok (.iload 4, 2) := by decide +kernel
theorem dX3_build_124 : decode cX3_build 124 = .ok (.invokevirtual 77, 3) := by decide +kernel
theorem dX3_build_127 : decode cX3_build 127 = .ok (.istore 4, 2) := by decide +kernel
theorem dX3_build_129 : decode cX3_build 129 = .ok (.aload_n 0, 1) := by decide +kernel
theorem dX3_build_130 : decode cX3_build 130 = .ok (.dup, 1) := by decide +kernel
theorem dX3_build_131 : decode cX3_build 131 = .ok (.getfield 67, 3) := by decide +kernel
theorem dX3_build_134 : decode cX3_build 134 = .ok (.iconst 1, 1) := by decide +kernel
theorem dX3_build_135 : decode cX3_build 135 = .ok (.iadd, 1) := by decide +kernel
theorem dX3_build_136 : decode cX3_build 136 = .ok (.putfield 67, 3) := by decide +kernel
theorem dX3_build_139 : decode cX3_build 139 = .ok (.goto (-33), 3) := by decide +kernel
theorem dX3_build_142 : decode cX3_build 142 = .ok (.aload_n 0, 1) := by decide +kernel
theorem dX3_build_143 : decode cX3_build 143 = .ok (.getfield 37, 3) := by decide +kernel
theorem dX3_build_146 : decode cX3_build 146 = .ok (.iconst 0, 1) := by decide +kernel
theorem dX3_build_147 : decode cX3_build 147 = .ok (.iaload, 1) := by decide +kernel
theorem dX3_build_148 : decode cX3_build 148 = .ok (.ireturn, 1) := by decide +kernel
theorem dX3_gatherRuns_0 : decode cX3_gatherRuns 0 = .ok (.iconst 0, 1) := by decide +kernel
theorem dX3_gatherRuns_1 : decode cX3_gatherRuns 1 = .ok (.istore_n 2, 1) := by decide +kernel
theorem dX3_gatherRuns_2 : decode cX3_gatherRuns 2 = .ok (.iconst 0, 1) := by decide +kernel
theorem dX3_gatherRuns_3 : decode cX3_gatherRuns 3 = .ok (.istore_n 3, 1) := by decide +kernel
theorem dX3_gatherRuns_4 : decode cX3_gatherRuns 4 = .ok (.iload_n 3, 1) := by decide +kernel
theorem dX3_gatherRuns_5 : decode cX3_gatherRuns 5 = .ok (.iload_n 1, 1) := by decide +kernel
theorem dX3_gatherRuns_6 : decode cX3_gatherRuns 6 = .ok (.if_icmp .ge 83, 3) := by decide +kernel
theorem dX3_gatherRuns_9 : decode cX3_gatherRuns 9 = .ok (.iload_n 3, 1) := by decide +kernel
theorem dX3_gatherRuns_10 : decode cX3_gatherRuns 10 = .ok (.iconst 1, 1) := by decide +kernel
theorem dX3_gatherRuns_11 : decode cX3_gatherRuns 11 = .ok (.iadd, 1) := by decide +kernel
theorem dX3_gatherRuns_12 : decode cX3_gatherRuns 12 = .ok (.istore 4, 2) := by decide +kernel
theorem dX3_gatherRuns_14 : decode cX3_gatherRuns 14 = .ok (.iload 4, 2) := by decide +kernel
theorem dX3_gatherRuns_16 : decode cX3_gatherRuns 16 = .ok (.iload_n 1, 1) := by decide +kernel
theorem dX3_gatherRuns_17 : decode cX3_gatherRuns 17 = .ok (.if_icmp .ge 25, 3) := by decide +kernel
theorem dX3_gatherRuns_20 : decode cX3_gatherRuns 20 = .ok (.aload_n 0, 1) := by decide +kernel
theorem dX3_gatherRuns_21 : decode cX3_gatherRuns 21 = .ok (.getfield 37, 3) := by decide +kernel
theorem dX3_gatherRuns_24 : decode cX3_gatherRuns 24 = .ok (.iload 4, 2) := by decide +kernel
theorem dX3_gatherRuns_26 : decode cX3_gatherRuns 26 = .ok (.iaload, 1) := by decide +kernel
theorem dX3_gatherRuns_27 : decode cX3_gatherRuns 27 = .ok (.aload_n 0, 1) := by decide +kernel
theorem dX3_gatherRuns_28 : decode cX3_gatherRuns 28 = .ok (.getfield 37, 3) := by decide +kernel
theorem dX3_gatherRuns_31 : decode cX3_gatherRuns 31 = .ok (.iload_n 3, 1) := by decide +kernel
theorem dX3_gatherRuns_32 : decode cX3_gatherRuns 32 = .ok (.iaload, 1) := by decide +kernel
theorem dX3_gatherRuns_33 : decode cX3_gatherRuns 33 = .ok (.if_icmp .ne 9, 3) := by decide +kernel
theorem dX3_gatherRuns_36 : decode cX3_gatherRuns 36 = .ok (.iinc 4 1, 3) := by decide +kernel
theorem dX3_gatherRuns_39 : decode cX3_gatherRuns 39 = .ok (.goto (-25), 3) := by decide +kernel
theorem dX3_gatherRuns_42 : decode cX3_gatherRuns 42 = .ok (.aload_n 0, 1) := by decide +kernel
theorem dX3_gatherRuns_43 : decode cX3_gatherRuns 43 = .ok (.getfield 37, 3) := by decide +kernel
theorem dX3_gatherRuns_46 : decode cX3_gatherRuns 46 = .ok (.iload_n 2, 1) := by decide +kernel
theorem dX3_gatherRuns_47 : decode cX3_gatherRuns 47 = .ok (.iload 4, 2) := by decide +kernel
theorem dX3_gatherRuns_49 : decode cX3_gatherRuns 49 = .ok (.iload_n 3, 1) := by decide +kernel
theorem dX3_gatherRuns_50 : decode cX3_gatherRuns 50 = .ok (.isub, 1) := by decide +kernel
theorem dX3_gatherRuns_51 : decode cX3_gatherRuns 51 = .ok (.iconst 1, 1) := by decide +kernel
theorem dX3_gatherRuns_52 : decode cX3_gatherRuns 52 = .ok (.if_icmp .le 21, 3) := by decide +kernel
theorem dX3_gatherRuns_55 : decode cX3_gatherRuns 55 = .ok (.aload_n 0, 1) := by decide +kernel
theorem dX3_gatherRuns_56 : decode cX3_gatherRuns 56 = .ok (.iconst 2, 1) := by decide +kernel
theorem dX3_gatherRuns_57 : decode cX3_gatherRuns 57 = .ok (.aload_n 0, 1) := by decide +kernel
theorem dX3_gatherRuns_58 : decode cX3_gatherRuns 58 = .ok (.getfield 37, 3) := by decide +kernel
theorem dX3_gatherRuns_61 : decode cX3_gatherRuns 61 = .ok (.iload_n 3, 1) := by decide +kernel
theorem dX3_gatherRuns_62 : decode cX3_gatherRuns 62 = .ok (.iaload, 1) := by decide +kernel
theorem dX3_gatherRuns_63 : decode cX3_gatherRuns 63 = .ok (.iload 4, 2) := by decide +kernel
theorem dX3_gatherRuns_65 : decode cX3_gatherRuns 65 = .ok (.iload_n 3, 1) := by decide +kernel
theorem dX3_gatherRuns_66 : decode cX3_gatherRuns 66 = .ok (.isub, 1) := by decide +kernel
theorem dX3_gatherRuns_67 : decode cX3_gatherRuns 67 = .ok (.invokevirtual 80, 3) := by decide +kernel
theorem dX3_gatherRuns_70 : decode cX3_gatherRuns 70 = .ok (.goto 9, 3) := by decide +kernel
theorem dX3_gatherRuns_73 : decode cX3_gatherRuns 73 = .ok (.aload_n 0, 1) := by decide +kernel
theorem dX3_gatherRuns_74 : decode cX3_gatherRuns 74 = .ok (.getfield 37, 3) := by decide +kernel
theorem dX3_gatherRuns_77 : decode cX3_gatherRuns 77 = .ok (.iload_n 3, 1) := by decide +kernel
theorem dX3_gatherRuns_78 : decode cX3_gatherRuns 78 = .ok (.iaload, 1) := by decide +kernel
theorem dX3_gatherRuns_79 : decode cX3_gatherRuns 79 = .ok (.iastore, 1) := by decide +kernel
theorem dX3_gatherRuns_80 : decode cX3_gatherRuns 80 = .ok (.iinc 2 1, 3) := by decide +kernel
theorem dX3_gatherRuns_83 : decode cX3_gatherRuns 83 = .ok (.iload 4, 2) := by decide +kernel
theorem dX3_gatherRuns_85 : decode cX3_gatherRuns 85 = .ok (.istore_n 3, 1) := by decide +kernel
theorem dX3_gatherRuns_86 : decode cX3_gatherRuns 86 = .ok (.goto (-82), 3) := by decide +kernel
theorem dX3_gatherRuns_89 : decode cX3_gatherRuns 89 = .ok (.iload_n 2, 1) := by decide +kernel
theorem dX3_gatherRuns_90 : decode cX3_gatherRuns 90 = .ok (.ireturn, 1) := by decide +kernel
theorem dX3_pairByBit_0 : decode cX3_pairByBit 0 = .ok (.iconst 0, 1) := by decide +kernel
theorem dX3_pairByBit_1 : decode cX3_pairByBit 1 = .ok (.istore_n 3, 1) := by decide +kernel
theorem dX3_pairByBit_2 : decode cX3_pairByBit 2 = .ok (.iconst 0, 1) := by decide +kernel
theorem dX3_pairByBit_3 : decode cX3_pairByBit 3 = .ok (.istore 4, 2) := by decide +kernel
theorem dX3_pairByBit_5 : decode cX3_pairByBit 5 = .ok (.iload 4, 2) := by decide +kernel
theorem dX3_pairByBit_7 : decode cX3_pairByBit 7 = .ok (.iload_n 1, 1) := by decide +kernel
theorem dX3_pairByBit_8 : decode cX3_pairByBit 8 = .ok (.if_icmp .ge 114, 3) := by decide +kernel
theorem dX3_pairByBit_11 : decode cX3_pairByBit 11 = .ok (.iload 4, 2) := by decide +kernel
theorem dX3_pairByBit_13 : decode cX3_pairByBit 13 = .ok (.iconst 1, 1) := by decide +kernel
theorem dX3_pairByBit_14 : decode cX3_pairByBit 14 = .ok (.iadd, 1) := by decide +kernel
theorem dX3_pairByBit_15 : decode cX3_pairByBit 15 = .ok (.iload_n 1, 1) := by decide +kernel
theorem dX3_pairByBit_16 : decode cX3_pairByBit 16 = .ok (.if_icmp .ge 40, 3) := by decide +kernel
theorem dX3_pairByBit_19 : decode cX3_pairByBit 19 = .ok (.aload_n 0, 1) := by decide +kernel
theorem dX3_pairByBit_20 : decode cX3_pairByBit 20 = .ok (.aload_n 0, 1) := by decide +kernel
theorem dX3_pairByBit_21 : decode cX3_pairByBit 21 = .ok (.getfield 37, 3) := by decide +kernel
theorem dX3_pairByBit_24 : decode cX3_pairByBit 24 = .ok (.iload 4, 2) := by decide +kernel
theorem dX3_pairByBit_26 : decode cX3_pairByBit 26 = .ok (.iaload, 1) := by decide +kernel
theorem dX3_pairByBit_27 : decode cX3_pairByBit 27 = .ok (.iload_n 2, 1) := by decide +kernel
theorem dX3_pairByBit_28 : decode cX3_pairByBit 28 = .ok (.invokevirtual 84, 3) := by decide +kernel
theorem dX3_pairByBit_31 : decode cX3_pairByBit 31 = .ok (.ifCond .ne 25, 3) := by decide +kernel
theorem dX3_pairByBit_34 : decode cX3_pairByBit 34 = .ok (.aload_n 0, 1) := by decide +kernel
theorem dX3_pairByBit_35 : decode cX3_pairByBit 35 = .ok (.aload_n 0, 1) := by decide +kernel
theorem dX3_pairByBit_36 : decode cX3_pairByBit 36 = .ok (.getfield 37, 3) := by decide +kernel
theorem dX3_pairByBit_39 : decode cX3_pairByBit 39 = .ok (.iload 4, 2) := by decide +kernel
theorem dX3_pairByBit_41 : decode cX3_pairByBit 41 = .ok (.iconst 1, 1) := by decide +kernel
theorem dX3_pairByBit_42 : decode cX3_pairByBit 42 = .ok (.iadd, 1) := by decide +kernel
theorem dX3_pairByBit_43 : decode cX3_pairByBit 43 = .ok (.iaload, 1) := by decide +kernel
theorem dX3_pairByBit_44 : decode cX3_pairByBit 44 = .ok (.iload_n 2, 1) := by decide +kernel
theorem dX3_pairByBit_45 : decode cX3_pairByBit 45 = .ok (.invokevirtual 84, 3) := by decide +kernel
theorem dX3_pairByBit_48 : decode cX3_pairByBit 48 = .ok (.iconst 1, 1) := by decide +kernel
theorem dX3_pairByBit_49 : decode cX3_pairByBit 49 = .ok (.if_icmp .ne 7, 3) := by decide +kernel
theorem dX3_pairByBit_52 : decode cX3_pairByBit 52 = .ok (.iconst 1, 1) := by decide +kernel
theorem dX3_pairByBit_53 : decode cX3_pairByBit 53 = .ok (.goto 4, 3) := by decide +kernel
theorem dX3_pairByBit_56 : decode cX3_pairByBit 56 = .ok (.iconst 0, 1) := by decide +kernel
theorem dX3_pairByBit_57 : decode cX3_pairByBit 57 = .ok (.istore 5, 2) := by decide +kernel
theorem dX3_pairByBit_59 : decode cX3_pairByBit 59 = .ok (.aload_n 0, 1) := by decide +kernel
theorem dX3_pairByBit_60 : decode cX3_pairByBit 60 = .ok (.getfield 37, 3) := by decide +kernel
theorem dX3_pairByBit_63 : decode cX3_pairByBit 63 = .ok (.iload_n 3, 1) := by decide +kernel
theorem dX3_pairByBit_64 : decode cX3_pairByBit 64 = .ok (.iload 5, 2) := by decide +kernel
theorem dX3_pairByBit_66 : decode cX3_pairByBit 66 = .ok (.ifCond .eq 27, 3) := by decide +kernel
theorem dX3_pairByBit_69 : decode cX3_pairByBit 69 = .ok (.aload_n 0, 1) := by decide +kernel
theorem dX3_pairByBit_70 : decode cX3_pairByBit 70 = .ok (.iconst 1, 1) := by decide +kernel
theorem dX3_pairByBit_71 : decode cX3_pairByBit 71 = .ok (.aload_n 0, 1) := by decide +kernel
theorem dX3_pairByBit_72 : decode cX3_pairByBit 72 = .ok (.getfield 37, 3) := by decide +kernel
theorem dX3_pairByBit_75 : decode cX3_pairByBit 75 = .ok (.iload 4, 2) := by decide +kernel
theorem dX3_pairByBit_77 : decode cX3_pairByBit 77 = .ok (.iaload, 1) := by decide +kernel
theorem dX3_pairByBit_78 : decode cX3_pairByBit 78 = .ok (.aload_n 0, 1) := by decide +kernel
theorem dX3_pairByBit_79 : decode cX3_pairByBit 79 = .ok (.getfield 37, 3) := by decide +kernel
theorem dX3_pairByBit_82 : decode cX3_pairByBit 82 = .ok (.iload 4, 2) := by decide +kernel
theorem dX3_pairByBit_84 : decode cX3_pairByBit 84 = .ok (.iconst 1, 1) := by decide +kernel
theorem dX3_pairByBit_85 : decode cX3_pairByBit 85 = .ok (.iadd, 1) := by decide +kernel
theorem dX3_pairByBit_86 : decode cX3_pairByBit 86 = .ok (.iaload, 1) := by decide +kernel
theorem dX3_pairByBit_87 : decode cX3_pairByBit 87 = .ok (.invokevirtual 80, 3) := by decide +kernel
theorem dX3_pairByBit_90 : decode cX3_pairByBit 90 = .ok (.goto 10, 3) := by decide +kernel
theorem dX3_pairByBit_93 : decode cX3_pairByBit 93 = .ok (.aload_n 0, 1) := by decide +kernel
theorem dX3_pairByBit_94 : decode cX3_pairByBit 94 = .ok (.getfield 37, 3) := by decide +kernel
theorem dX3_pairByBit_97 : decode cX3_pairByBit 97 = .ok (.iload 4, 2) := by decide +kernel
theorem dX3_pairByBit_99 : decode cX3_pairByBit 99 = .ok (.iaload, 1) := by decide +kernel
theorem dX3_pairByBit_100 : decode cX3_pairByBit 100 = .ok (.iastore, 1) := by decide +kernel
theorem dX3_pairByBit_101 : decode cX3_pairByBit 101 = .ok (.iinc 3 1, 3) := by decide +kernel
theorem dX3_pairByBit_104 : decode cX3_pairByBit 104 = .ok (.iload 4, 2) := by decide +kernel
theorem dX3_pairByBit_106 : decode cX3_pairByBit 106 = .ok (.iload 5, 2) := by decide +kernel
theorem dX3_pairByBit_108 : decode cX3_pairByBit 108 = .ok (.ifCond .eq 7, 3) := by decide +kernel
theorem dX3_pairByBit_111 : decode cX3_pairByBit 111 = .ok (.iconst 2, 1) := by decide +kernel
theorem dX3_pairByBit_112 : decode cX3_pairByBit 112 = .ok (.goto 4, 3) := by decide +kernel
theorem dX3_pairByBit_115 : decode cX3_pairByBit 115 = .ok (.iconst 1, 1) := by decide +kernel
theorem dX3_pairByBit_116 : decode cX3_pairByBit 116 = .ok (.iadd, 1) := by decide +kernel
theorem dX3_pairByBit_117 : decode cX3_pairByBit 117 = .ok (.istore 4, 2) := by decide +kernel
theorem dX3_pairByBit_119 : decode cX3_pairByBit 119 = .ok (.goto (-114), 3) := by decide +kernel
theorem dX3_pairByBit_122 : decode cX3_pairByBit 122 = .ok (.iload_n 3, 1) := by decide +kernel
theorem dX3_pairByBit_123 : decode cX3_pairByBit 123 = .ok (.ireturn, 1) := by decide +kernel
theorem dX3_pairByPlace_0 : decode cX3_pairByPlace 0 = .ok (.iconst 0, 1) := by decide +kernel
theorem dX3_pairByPlace_1 : decode cX3_pairByPlace 1 = .ok (.istore_n 2, 1) := by decide +kernel
theorem dX3_pairByPlace_2 : decode cX3_pairByPlace 2 = .ok (.iconst 0, 1) := by decide +kernel
theorem dX3_pairByPlace_3 : decode cX3_pairByPlace 3 = .ok (.istore_n 3, 1) := by decide +kernel
theorem dX3_pairByPlace_4 : decode cX3_pairByPlace 4 = .ok (.iload_n 3, 1) := by decide +kernel
theorem dX3_pairByPlace_5 : decode cX3_pairByPlace 5 = .ok (.iload_n 1, 1) := by decide +kernel
theorem dX3_pairByPlace_6 : decode cX3_pairByPlace 6 = .ok (.if_icmp .ge 53, 3) := by decide +kernel
theorem dX3_pairByPlace_9 : decode cX3_pairByPlace 9 = .ok (.aload_n 0, 1) := by decide +kernel
theorem dX3_pairByPlace_10 : decode cX3_pairByPlace 10 = .ok (.getfield 37, 3) := by decide +kernel
theorem dX3_pairByPlace_13 : decode cX3_pairByPlace 13 = .ok (.iload_n 2, 1) := by decide +kernel
theorem dX3_pairByPlace_14 : decode cX3_pairByPlace 14 = .ok (.iload_n 3, 1) := by decide +kernel
theorem dX3_pairByPlace_15 : decode cX3_pairByPlace 15 = .ok (.iconst 1, 1) := by decide +kernel
theorem dX3_pairByPlace_16 : decode cX3_pairByPlace 16 = .ok (.iadd, 1) := by decide +kernel
theorem dX3_pairByPlace_17 : decode cX3_pairByPlace 17 = .ok (.iload_n 1, 1) := by decide +kernel
theorem dX3_pairByPlace_18 : decode cX3_pairByPlace 18 = .ok (.if_icmp .ge 25, 3) := by decide +kernel
theorem dX3_pairByPlace_21 : decode cX3_pairByPlace 21 = .ok (.aload_n 0, 1) := by decide +kernel
theorem dX3_pairByPlace_22 : decode cX3_pairByPlace 22 = .ok (.iconst 1, 1) := by decide +kernel
theorem dX3_pairByPlace_23 : decode cX3_pairByPlace 23 = .ok (.aload_n 0, 1) := by decide +kernel
theorem dX3_pairByPlace_24 : decode cX3_pairByPlace 24 = .ok (.getfield 37, 3) := by decide +kernel
theorem dX3_pairByPlace_27 : decode cX3_pairByPlace 27 = .ok (.iload_n 3, 1) := by decide +kernel
theorem dX3_pairByPlace_28 : decode cX3_pairByPlace 28 = .ok (.iaload, 1) := by decide +kernel
theorem dX3_pairByPlace_29 : decode cX3_pairByPlace 29 = .ok (.aload_n 0, 1) := by decide +kernel
theorem dX3_pairByPlace_30 : decode cX3_pairByPlace 30 = .ok (.getfield 37, 3) := by decide +kernel
theorem dX3_pairByPlace_33 : decode cX3_pairByPlace 33 = .ok (.iload_n 3, 1) := by decide +kernel
theorem dX3_pairByPlace_34 : decode cX3_pairByPlace 34 = .ok (.iconst 1, 1) := by decide +kernel
theorem dX3_pairByPlace_35 : decode cX3_pairByPlace 35 = .ok (.iadd, 1) := by decide +kernel
theorem dX3_pairByPlace_36 : decode cX3_pairByPlace 36 = .ok (.iaload, 1) := by decide +kernel
theorem dX3_pairByPlace_37 : decode cX3_pairByPlace 37 = .ok (.invokevirtual 80, 3) := by decide +kernel
theorem dX3_pairByPlace_40 : decode cX3_pairByPlace 40 = .ok (.goto 9, 3) := by decide +kernel
theorem dX3_pairByPlace_43 : decode cX3_pairByPlace 43 = .ok (.aload_n 0, 1) := by decide +kernel
theorem dX3_pairByPlace_44 : decode cX3_pairByPlace 44 = .ok (.getfield 37, 3) := by decide +kernel
theorem dX3_pairByPlace_47 : decode cX3_pairByPlace 47 = .ok (.iload_n 3, 1) := by decide +kernel
theorem dX3_pairByPlace_48 : decode cX3_pairByPlace 48 = .ok (.iaload, 1) := by decide +kernel
theorem dX3_pairByPlace_49 : decode cX3_pairByPlace 49 = .ok (.iastore, 1) := by decide +kernel
theorem dX3_pairByPlace_50 : decode cX3_pairByPlace 50 = .ok (.iinc 2 1, 3) := by decide +kernel
theorem dX3_pairByPlace_53 : decode cX3_pairByPlace 53 = .ok (.iinc 3 2, 3) := by decide +kernel
theorem dX3_pairByPlace_56 : decode cX3_pairByPlace 56 = .ok (.goto (-52), 3) := by decide +kernel
theorem dX3_pairByPlace_59 : decode cX3_pairByPlace 59 = .ok (.iload_n 2, 1) := by decide +kernel
theorem dX3_pairByPlace_60 : decode cX3_pairByPlace 60 = .ok (.ireturn, 1) := by decide +kernel
theorem dX3_bitOf_0 : decode cX3_bitOf 0 = .ok (.aload_n 0, 1) := by decide +kernel
theorem dX3_bitOf_1 : decode cX3_bitOf 1 = .ok (.iload_n 1, 1) := by decide +kernel
theorem dX3_bitOf_2 : decode cX3_bitOf 2 = .ok (.invokevirtual 58, 3) := by decide +kernel
theorem dX3_bitOf_5 : decode cX3_bitOf 5 = .ok (.ifCond .eq 16, 3) := by decide +kernel
theorem dX3_bitOf_8 : decode cX3_bitOf 8 = .ok (.aload_n 0, 1) := by decide +kernel
theorem dX3_bitOf_9 : decode cX3_bitOf 9 = .ok (.getfield 22, 3) := by decide +kernel
theorem dX3_bitOf_12 : decode cX3_bitOf 12 = .ok (.iload_n 1, 1) := by decide +kernel
theorem dX3_bitOf_13 : decode cX3_bitOf 13 = .ok (.iaload, 1) := by decide +kernel
theorem dX3_bitOf_14 : decode cX3_bitOf 14 = .ok (.iload_n 2, 1) := by decide +kernel
theorem dX3_bitOf_15 : decode cX3_bitOf 15 = .ok (.iushr, 1) := by decide +kernel
theorem dX3_bitOf_16 : decode cX3_bitOf 16 = .ok (.iconst 1, 1) := by decide +kernel
theorem dX3_bitOf_17 : decode cX3_bitOf 17 = .ok (.iand, 1) := by decide +kernel
theorem dX3_bitOf_18 : decode cX3_bitOf 18 = .ok (.goto 4, 3) := by decide +kernel
theorem dX3_bitOf_21 : decode cX3_bitOf 21 = .ok (.iconst 0, 1) := by decide +kernel
theorem dX3_bitOf_22 : decode cX3_bitOf 22 = .ok (.ireturn, 1) := by decide +kernel
theorem dX3_make_0 : decode cX3_make 0 = .ok (.iload_n 1, 1) := by decide +kernel
theorem dX3_make_1 : decode cX3_make 1 = .ok (.iconst 2, 1) := by decide +kernel
theorem dX3_make_2 : decode cX3_make 2 = .ok (.if_icmp .ne 7, 3) := by decide +kernel
theorem dX3_make_5 : decode cX3_make 5 = .ok (.iconst 1, 1) := by decide +kernel
theorem dX3_make_6 : decode cX3_make 6 = .ok (.goto 4, 3) := by decide +kernel
theorem dX3_make_9 : decode cX3_make 9 = .ok (.iconst 0, 1) := by decide +kernel
theorem dX3_make_10 : decode cX3_make 10 = .ok (.istore 4, 2) := by decide +kernel
theorem dX3_make_12 : decode cX3_make 12 = .ok (.aload_n 0, 1) := by decide +kernel
theorem dX3_make_13 : decode cX3_make 13 = .ok (.iload_n 2, 1) := by decide +kernel
theorem dX3_make_14 : decode cX3_make 14 = .ok (.invokevirtual 58, 3) := by decide +kernel
theorem dX3_make_17 : decode cX3_make 17 = .ok (.ifCond .eq 16, 3) := by decide +kernel
theorem dX3_make_20 : decode cX3_make 20 = .ok (.iload 4, 2) := by decide +kernel
theorem dX3_make_22 : decode cX3_make 22 = .ok (.ifCond .ne 13, 3) := by decide +kernel
theorem dX3_make_25 : decode cX3_make 25 = .ok (.aload_n 0, 1) := by decide +kernel
theorem dX3_make_26 : decode cX3_make 26 = .ok (.iload_n 3, 1) := by decide +kernel
theorem dX3_make_27 : decode cX3_make 27 = .ok (.invokevirtual 58, 3) := by decide +kernel
theorem dX3_make_30 : decode cX3_make 30 = .ok (.ifCond .ne 5, 3) := by decide +kernel
theorem dX3_make_33 : decode cX3_make 33 = .ok (.iconst (-1), 1) := by decide +kernel
theorem dX3_make_34 : decode cX3_make 34 = .ok (.ireturn, 1) := by decide +kernel
theorem dX3_make_35 : decode cX3_make 35 = .ok (.iload 4, 2) := by decide +kernel
theorem dX3_make_37 : decode cX3_make 37 = .ok (.ifCond .eq 8, 3) := by decide +kernel
theorem dX3_make_40 : decode cX3_make 40 = .ok (.bipush 11, 2) := by decide +kernel
theorem dX3_make_42 : decode cX3_make 42 = .ok (.goto 5, 3) := by decide +kernel
theorem dX3_make_45 : decode cX3_make 45 = .ok (.bipush 13, 2) := by decide +kernel
theorem dX3_make_47 : decode cX3_make 47 = .ok (.aload_n 0, 1) := by decide +kernel
theorem dX3_make_48 : decode cX3_make 48 = .ok (.getfield 22, 3) := by decide +kernel
theorem dX3_make_51 : decode cX3_make 51 = .ok (.iload_n 2, 1) := by decide +kernel
theorem dX3_make_52 : decode cX3_make 52 = .ok (.iaload, 1) := by decide +kernel
theorem dX3_make_53 : decode cX3_make 53 = .ok (.invokestatic 40, 3) := by decide +kernel
theorem dX3_make_56 : decode cX3_make 56 = .ok (.iload 4, 2) := by decide +kernel
theorem dX3_make_58 : decode cX3_make 58 = .ok (.ifCond .eq 7, 3) := by decide +kernel
theorem dX3_make_61 : decode cX3_make 61 = .ok (.iload_n 3, 1) := by decide +kernel
theorem dX3_make_62 : decode cX3_make 62 = .ok (.goto 9, 3) := by decide +kernel
theorem dX3_make_65 : decode cX3_make 65 = .ok (.aload_n 0, 1) := by decide +kernel
theorem dX3_make_66 : decode cX3_make 66 = .ok (.getfield 22, 3) := by decide +kernel
theorem dX3_make_69 : decode cX3_make 69 = .ok (.iload_n 3, 1) := by decide +kernel
theorem dX3_make_70 : decode cX3_make 70 = .ok (.iaload, 1) := by decide +kernel
theorem dX3_make_71 : decode cX3_make 71 = .ok (.invokestatic 40, 3) := by decide +kernel
theorem dX3_make_74 : decode cX3_make 74 = .ok (.istore 5, 2) := by decide +kernel
theorem dX3_make_76 : decode cX3_make 76 = .ok (.iload 5, 2) := by decide +kernel
theorem dX3_make_78 : decode cX3_make 78 = .ok (.sipush 4095, 3) := by decide +kernel
theorem dX3_make_81 : decode cX3_make 81 = .ok (.iand, 1) := by decide +kernel
theorem dX3_make_82 : decode cX3_make 82 = .ok (.istore 6, 2) := by decide +kernel
theorem dX3_make_84 : decode cX3_make 84 = .ok (.aload_n 0, 1) := by decide +kernel
theorem dX3_make_85 : decode cX3_make 85 = .ok (.getfield 34, 3) := by decide +kernel
theorem dX3_make_88 : decode cX3_make 88 = .ok (.iload 6, 2) := by decide +kernel
theorem dX3_make_90 : decode cX3_make 90 = .ok (.iaload, 1) := by decide +kernel
theorem dX3_make_91 : decode cX3_make 91 = .ok (.istore 7, 2) := by decide +kernel
theorem dX3_make_93 : decode cX3_make 93 = .ok (.iconst 0, 1) := by decide +kernel
theorem dX3_make_94 : decode cX3_make 94 = .ok (.istore 8, 2) := by decide +kernel
theorem dX3_make_96 : decode cX3_make 96 = .ok (.iload 8, 2) := by decide +kernel
theorem dX3_make_98 : decode cX3_make 98 = .ok (.sipush 10240, 3) := by decide +kernel
theorem dX3_make_101 : decode cX3_make 101 = .ok (.if_icmp .ge 63, 3) := by decide +kernel
theorem dX3_make_104 : decode cX3_make 104 = .ok (.aload_n 0, 1) := by decide +kernel
theorem dX3_make_105 : decode cX3_make 105 = .ok (.iload 7, 2) := by decide +kernel
theorem dX3_make_107 : decode cX3_make 107 = .ok (.invokevirtual 58, 3) := by decide +kernel
theorem dX3_make_110 : decode cX3_make 110 = .ok (.ifCond .eq 54, 3) := by decide +kernel
theorem dX3_make_113 : decode cX3_make 113 = .ok (.aload_n 0, 1) := by decide +kernel
theorem dX3_make_114 : decode cX3_make 114 = .ok (.getfield 9, 3) := by decide +kernel
theorem dX3_make_117 : decode cX3_make 117 = .ok (.iload 7, 2) := by decide +kernel
theorem dX3_make_119 : decode cX3_make 119 = .ok (.baload, 1) := by decide +kernel
theorem dX3_make_120 : decode cX3_make 120 = .ok (.iload_n 1, 1) := by decide +kernel
theorem dX3_make_121 : decode cX3_make 121 = .ok (.if_icmp .ne 28, 3) := by decide +kernel
theorem dX3_make_124 : decode cX3_make 124 = .ok (.aload_n 0, 1) := by decide +kernel
theorem dX3_make_125 : decode cX3_make 125 = .ok (.getfield 15, 3) := by decide +kernel
theorem dX3_make_128 : decode cX3_make 128 = .ok (.iload 7, 2) := by decide +kernel
theorem dX3_make_130 : decode cX3_make 130 = .ok (.iaload, 1) := by decide +kernel
theorem dX3_make_131 : decode cX3_make 131 = .ok (.iload_n 2, 1) := by decide +kernel
theorem dX3_make_132 : decode cX3_make 132 = .ok (.if_icmp .ne 17, 3) := by decide +kernel
theorem dX3_make_135 : decode cX3_make 135 = .ok (.aload_n 0, 1) := by decide +kernel
theorem dX3_make_136 : decode cX3_make 136 = .ok (.getfield 19, 3) := by decide +kernel
theorem dX3_make_139 : decode cX3_make 139 = .ok (.iload 7, 2) := by decide +kernel
theorem dX3_make_141 : decode cX3_make 141 = .ok (.iaload, 1) := by decide +kernel
theorem dX3_make_142 : decode cX3_make 142 = .ok (.iload_n 3, 1) := by decide +kernel
theorem dX3_make_143 : decode cX3_make 143 = .ok (.if_icmp .ne 6, 3) := by decide +kernel
theorem dX3_make_146 : decode cX3_make 146 = .ok (.iload 7, 2) := by decide +kernel
theorem dX3_make_148 : decode cX3_make 148 = .ok (.ireturn, 1) := by decide +kernel
theorem dX3_make_149 : decode cX3_make 149 = .ok (.aload_n 0, 1) := by decide +kernel
theorem dX3_make_150 : decode cX3_make 150 = .ok (.getfield 31, 3) := by decide +kernel
theorem dX3_make_153 : decode cX3_make 153 = .ok (.iload 7, 2) := by decide +kernel
theorem dX3_make_155 : decode cX3_make 155 = .ok (.iaload, 1) := by decide +kernel
theorem dX3_make_156 : decode cX3_make 156 = .ok (.istore 7, 2) := by decide +kernel
theorem dX3_make_158 : decode cX3_make 158 = .ok (.iinc 8 1, 3) := by decide +kernel
theorem dX3_make_161 : decode cX3_make 161 = .ok (.goto (-65), 3) := by decide +kernel
theorem dX3_make_164 : decode cX3_make 164 = .ok (.aload_n 0, 1) := by decide +kernel
theorem dX3_make_165 : decode cX3_make 165 = .ok (.getfield 50, 3) := by decide +kernel
theorem dX3_make_168 : decode cX3_make 168 = .ok (.sipush 10240, 3) := by decide +kernel
theorem dX3_make_171 : decode cX3_make 171 = .ok (.if_icmp .lt 5, 3) := by decide +kernel
theorem dX3_make_174 : decode cX3_make 174 = .ok (.iconst (-1), 1) := by decide +kernel
theorem dX3_make_175 : decode cX3_make 175 = .ok (.ireturn, 1) := by decide +kernel
theorem dX3_make_176 : decode cX3_make 176 = .ok (.aload_n 0, 1) := by decide +kernel
theorem dX3_make_177 : decode cX3_make 177 = .ok (.getfield 50, 3) := by decide +kernel
theorem dX3_make_180 : decode cX3_make 180 = .ok (.istore 7, 2) := by decide +kernel
theorem dX3_make_182 : decode cX3_make 182 = .ok (.aload_n 0, 1) := by decide +kernel
theorem dX3_make_183 : decode cX3_make 183 = .ok (.getfield 9, 3) := by decide +kernel
theorem dX3_make_186 : decode cX3_make 186 = .ok (.iload 7, 2) := by decide +kernel
theorem dX3_make_188 : decode cX3_make 188 = .ok (.iload_n 1, 1) := by decide +kernel
theorem dX3_make_189 : decode cX3_make 189 = .ok (.i2b, 1) := by decide +kernel
theorem dX3_make_190 : decode cX3_make 190 = .ok (.bastore, 1) := by decide +kernel
theorem dX3_make_191 : decode cX3_make 191 = .ok (.aload_n 0, 1) := by decide +kernel
theorem dX3_make_192 : decode cX3_make 192 = .ok (.getfield 15, 3) := by decide +kernel
theorem dX3_make_195 : decode cX3_make 195 = .ok (.iload 7, 2) := by decide +kernel
theorem dX3_make_197 : decode cX3_make 197 = .ok (.iload_n 2, 1) := by decide +kernel
theorem dX3_make_198 : decode cX3_make 198 = .ok (.iastore, 1) := by decide +kernel
theorem dX3_make_199 : decode cX3_make 199 = .ok (.aload_n 0, 1) := by decide +kernel
theorem dX3_make_200 : decode cX3_make 200 = .ok (.getfield 19, 3) := by decide +kernel
theorem dX3_make_203 : decode cX3_make 203 = .ok (.iload 7, 2) := by decide +kernel
theorem dX3_make_205 : decode cX3_make 205 = .ok (.iload_n 3, 1) := by decide +kernel
theorem dX3_make_206 : decode cX3_make 206 = .ok (.iastore, 1) := by decide +kernel
theorem dX3_make_207 : decode cX3_make 207 = .ok (.aload_n 0, 1) := by decide +kernel
theorem dX3_make_208 : decode cX3_make 208 = .ok (.getfield 22, 3) := by decide +kernel
theorem dX3_make_211 : decode cX3_make 211 = .ok (.iload 7, 2) := by decide +kernel
theorem dX3_make_213 : decode cX3_make 213 = .ok (.iload 5, 2) := by decide +kernel
theorem dX3_make_215 : decode cX3_make 215 = .ok (.iastore, 1) := by decide +kernel
theorem dX3_make_216 : decode cX3_make 216 = .ok (.aload_n 0, 1) := by decide +kernel
theorem dX3_make_217 : decode cX3_make 217 = .ok (.getfield 25, 3) := by decide +kernel
theorem dX3_make_220 : decode cX3_make 220 = .ok (.iload 7, 2) := by decide +kernel
theorem dX3_make_222 : decode cX3_make 222 = .ok (.iload 4, 2) := by decide +kernel
theorem dX3_make_224 : decode cX3_make 224 = .ok (.ifCond .eq 14, 3) := by decide +kernel
theorem dX3_make_227 : decode cX3_make 227 = .ok (.aload_n 0, 1) := by decide +kernel
theorem dX3_make_228 : decode cX3_make 228 = .ok (.getfield 25, 3) := by decide +kernel
theorem dX3_make_231 : decode cX3_make 231 = .ok (.iload_n 2, 1) := by decide +kernel
theorem dX3_make_232 : decode cX3_make 232 = .ok (.iaload, 1) := by decide +kernel
theorem dX3_make_233 : decode cX3_make 233 = .ok (.iload_n 3, 1) := by decide +kernel
theorem dX3_make_234 : decode cX3_make 234 = .ok (.imul, 1) := by decide +kernel
theorem dX3_make_235 : decode cX3_make 235 = .ok (.goto 16, 3) := by decide +kernel
theorem dX3_make_238 : decode cX3_make 238 = .ok (.aload_n 0, 1) := by decide +kernel
theorem dX3_make_239 : decode cX3_make 239 = .ok (.getfield 25, 3) := by decide +kernel
theorem dX3_make_242 : decode cX3_make 242 = .ok (.iload_n 2, 1) := by decide +kernel
theorem dX3_make_243 : decode cX3_make 243 = .ok (.iaload, 1) := by decide +kernel
theorem dX3_make_244 : decode cX3_make 244 = .ok (.aload_n 0, 1) := by decide +kernel
theorem dX3_make_245 : decode cX3_make 245 = .ok (.getfield 25, 3) := by decide +kernel
theorem dX3_make_248 : decode cX3_make 248 = .ok (.iload_n 3, 1) := by decide +kernel
theorem dX3_make_249 : decode cX3_make 249 = .ok (.iaload, 1) := by decide +kernel
theorem dX3_make_250 : decode cX3_make 250 = .ok (.iadd, 1) := by decide +kernel
theorem dX3_make_251 : decode cX3_make 251 = .ok (.iastore, 1) := by decide +kernel
theorem dX3_make_252 : decode cX3_make 252 = .ok (.aload_n 0, 1) := by decide +kernel
theorem dX3_make_253 : decode cX3_make 253 = .ok (.getfield 28, 3) := by decide +kernel
theorem dX3_make_256 : decode cX3_make 256 = .ok (.iload 7, 2) := by decide +kernel
theorem dX3_make_258 : decode cX3_make 258 = .ok (.iconst 1, 1) := by decide +kernel
theorem dX3_make_259 : decode cX3_make 259 = .ok (.iload 4, 2) := by decide +kernel
theorem dX3_make_261 : decode cX3_make 261 = .ok (.ifCond .eq 12, 3) := by decide +kernel
theorem dX3_make_264 : decode cX3_make 264 = .ok (.aload_n 0, 1) := by decide +kernel
theorem dX3_make_265 : decode cX3_make 265 = .ok (.getfield 28, 3) := by decide +kernel
theorem dX3_make_268 : decode cX3_make 268 = .ok (.iload_n 2, 1) := by decide +kernel
theorem dX3_make_269 : decode cX3_make 269 = .ok (.iaload, 1) := by decide +kernel
theorem dX3_make_270 : decode cX3_make 270 = .ok (.goto 18, 3) := by decide +kernel
theorem dX3_make_273 : decode cX3_make 273 = .ok (.aload_n 0, 1) := by decide +kernel
theorem dX3_make_274 : decode cX3_make 274 = .ok (.getfield 28, 3) := by decide +kernel
theorem dX3_make_277 : decode cX3_make 277 = .ok (.iload_n 2, 1) := by decide +kernel
theorem dX3_make_278 : decode cX3_make 278 = .ok (.iaload, 1) := by decide +kernel
theorem dX3_make_279 : decode cX3_make 279 = .ok (.aload_n 0, 1) := by decide +kernel
theorem dX3_make_280 : decode cX3_make 280 = .ok (.getfield 28, 3) := by decide +kernel
theorem dX3_make_283 : decode cX3_make 283 = .ok (.iload_n 3, 1) := by decide +kernel
theorem dX3_make_284 : decode cX3_make 284 = .ok (.iaload, 1) := by decide +kernel
theorem dX3_make_285 : decode cX3_make 285 = .ok (.invokestatic 62, 3) := by decide +kernel
theorem dX3_make_288 : decode cX3_make 288 = .ok (.iadd, 1) := by decide +kernel
theorem dX3_make_289 : decode cX3_make 289 = .ok (.iastore, 1) := by decide +kernel
theorem dX3_make_290 : decode cX3_make 290 = .ok (.aload_n 0, 1) := by decide +kernel
theorem dX3_make_291 : decode cX3_make 291 = .ok (.getfield 31, 3) := by decide +kernel
theorem dX3_make_294 : decode cX3_make 294 = .ok (.iload 7, 2) := by decide +kernel
theorem dX3_make_296 : decode cX3_make 296 = .ok (.aload_n 0, 1) := by decide +kernel
theorem dX3_make_297 : decode cX3_make 297 = .ok (.getfield 34, 3) := by decide +kernel
theorem dX3_make_300 : decode cX3_make 300 = .ok (.iload 6, 2) := by decide +kernel
theorem dX3_make_302 : decode cX3_make 302 = .ok (.iaload, 1) := by decide +kernel
theorem dX3_make_303 : decode cX3_make 303 = .ok (.iastore, 1) := by decide +kernel
theorem dX3_make_304 : decode cX3_make 304 = .ok (.aload_n 0, 1) := by decide +kernel
theorem dX3_make_305 : decode cX3_make 305 = .ok (.getfield 34, 3) := by decide +kernel
theorem dX3_make_308 : decode cX3_make 308 = .ok (.iload 6, 2) := by decide +kernel
theorem dX3_make_310 : decode cX3_make 310 = .ok (.iload 7, 2) := by decide +kernel
theorem dX3_make_312 : decode cX3_make 312 = .ok (.iastore, 1) := by decide +kernel
theorem dX3_make_313 : decode cX3_make 313 = .ok (.aload_n 0, 1) := by decide +kernel
theorem dX3_make_314 : decode cX3_make 314 = .ok (.dup, 1) := by decide +kernel
theorem dX3_make_315 : decode cX3_make 315 = .ok (.getfield 50, 3) := by decide +kernel
theorem dX3_make_318 : decode cX3_make 318 = .ok (.iconst 1, 1) := by decide +kernel
theorem dX3_make_319 : decode cX3_make 319 = .ok (.iadd, 1) := by decide +kernel
theorem dX3_make_320 : decode cX3_make 320 = .ok (.putfield 50, 3) := by decide +kernel
theorem dX3_make_323 : decode cX3_make 323 = .ok (.iload 7, 2) := by decide +kernel
theorem dX3_make_325 : decode cX3_make 325 = .ok (.ireturn, 1) := by decide +kernel
theorem dX3_partAround_0 : decode cX3_partAround 0 = .ok (.iload_n 1, 1) := by decide +kernel
theorem dX3_partAround_1 : decode cX3_partAround 1 = .ok (.istore 4, 2) := by decide +kernel
theorem dX3_partAround_3 : decode cX3_partAround 3 = .ok (.iload_n 2, 1) := by decide +kernel
theorem dX3_partAround_4 : decode cX3_partAround 4 = .ok (.istore 5, 2) := by decide +kernel
theorem dX3_partAround_6 : decode cX3_partAround 6 = .ok (.iconst 0, 1) := by decide +kernel
theorem dX3_partAround_7 : decode cX3_partAround 7 = .ok (.istore 6, 2) := by decide +kernel
theorem dX3_partAround_9 : decode cX3_partAround 9 = .ok (.iload 6, 2) := by decide +kernel
theorem dX3_partAround_11 : decode cX3_partAround 11 = .ok (.iload_n 3, 1) := by decide +kernel
theorem dX3_partAround_12 : decode cX3_partAround 12 = .ok (.if_icmp .ge 89, 3) := by decide +kernel
theorem dX3_partAround_15 : decode cX3_partAround 15 = .ok (.aload_n 0, 1) := by decide +kernel
theorem dX3_partAround_16 : decode cX3_partAround 16 = .ok (.iload 4, 2) := by decide +kernel
theorem dX3_partAround_18 : decode cX3_partAround 18 = .ok (.invokevirtual 87, 3) := by decide +kernel
theorem dX3_partAround_21 : decode cX3_partAround 21 = .ok (.istore 7, 2) := by decide +kernel
theorem dX3_partAround_23 : decode cX3_partAround 23 = .ok (.iload 7, 2) := by decide +kernel
theorem dX3_partAround_25 : decode cX3_partAround 25 = .ok (.ifCond .ne 5, 3) := by decide +kernel
theorem dX3_partAround_28 : decode cX3_partAround 28 = .ok (.iconst (-1), 1) := by decide +kernel
theorem dX3_partAround_29 : decode cX3_partAround 29 = .ok (.ireturn, 1) := by decide +kernel
theorem dX3_partAround_30 : decode cX3_partAround 30 = .ok (.aload_n 0, 1) := by decide +kernel
theorem dX3_partAround_31 : decode cX3_partAround 31 = .ok (.iload 4, 2) := by decide +kernel
theorem dX3_partAround_33 : decode cX3_partAround 33 = .ok (.invokevirtual 90, 3) := by decide +kernel
theorem dX3_partAround_36 : decode cX3_partAround 36 = .ok (.istore 8, 2) := by decide +kernel
theorem dX3_partAround_38 : decode cX3_partAround 38 = .ok (.aload_n 0, 1) := by decide +kernel
theorem dX3_partAround_39 : decode cX3_partAround 39 = .ok (.iload 8, 2) := by decide +kernel
theorem dX3_partAround_41 : decode cX3_partAround 41 = .ok (.invokevirtual 93, 3) := by decide +kernel
theorem dX3_partAround_44 : decode cX3_partAround 44 = .ok (.istore 9, 2) := by decide +kernel
theorem dX3_partAround_46 : decode cX3_partAround 46 = .ok (.iload 7, 2) := by decide +kernel
theorem dX3_partAround_48 : decode cX3_partAround 48 = .ok (.iconst 2, 1) := by decide +kernel
theorem dX3_partAround_49 : decode cX3_partAround 49 = .ok (.if_icmp .ne 17, 3) := by decide +kernel
theorem dX3_partAround_52 : decode cX3_partAround 52 = .ok (.iload 5, 2) := by decide +kernel
theorem dX3_partAround_54 : decode cX3_partAround 54 = .ok (.iload 9, 2) := by decide +kernel
theorem dX3_partAround_56 : decode cX3_partAround 56 = .ok (.irem, 1) := by decide +kernel
theorem dX3_partAround_57 : decode cX3_partAround 57 = .ok (.istore 5, 2) := by decide +kernel
theorem dX3_partAround_59 : decode cX3_partAround 59 = .ok (.iload 8, 2) := by decide +kernel
theorem dX3_partAround_61 : decode cX3_partAround 61 = .ok (.istore 4, 2) := by decide +kernel
theorem dX3_partAround_63 : decode cX3_partAround 63 = .ok (.goto 32, 3) := by decide +kernel
theorem dX3_partAround_66 : decode cX3_partAround 66 = .ok (.iload 5, 2) := by decide +kernel
theorem dX3_partAround_68 : decode cX3_partAround 68 = .ok (.iload 9, 2) := by decide +kernel
theorem dX3_partAround_70 : decode cX3_partAround 70 = .ok (.if_icmp .ge 10, 3) := by decide +kernel
theorem dX3_partAround_73 : decode cX3_partAround 73 = .ok (.iload 8, 2) := by decide +kernel
theorem dX3_partAround_75 : decode cX3_partAround 75 = .ok (.istore 4, 2) := by decide +kernel
theorem dX3_partAround_77 : decode cX3_partAround 77 = .ok (.goto 18, 3) := by decide +kernel
theorem dX3_partAround_80 : decode cX3_partAround 80 = .ok (.iload 5, 2) := by decide +kernel
theorem dX3_partAround_82 : decode cX3_partAround 82 = .ok (.iload 9, 2) := by decide +kernel
theorem dX3_partAround_84 : decode cX3_partAround 84 = .ok (.isub, 1) := by decide +kernel
theorem dX3_partAround_85 : decode cX3_partAround 85 = .ok (.istore 5, 2) := by decide +kernel
theorem dX3_partAround_87 : decode cX3_partAround 87 = .ok (.aload_n 0, 1) := by decide +kernel
theorem dX3_partAround_88 : decode cX3_partAround 88 = .ok (.iload 4, 2) := by decide +kernel
theorem dX3_partAround_90 : decode cX3_partAround 90 = .ok (.invokevirtual 96, 3) := by decide +kernel
theorem dX3_partAround_93 : decode cX3_partAround 93 = .ok (.istore 4, 2) := by decide +kernel
theorem dX3_partAround_95 : decode cX3_partAround 95 = .ok (.iinc 6 1, 3) := by decide +kernel
theorem dX3_partAround_98 : decode cX3_partAround 98 = .ok (.goto (-89), 3) := by decide +kernel
theorem dX3_partAround_101 : decode cX3_partAround 101 = .ok (.iload 4, 2) := by decide +kernel
theorem dX3_partAround_103 : decode cX3_partAround 103 = .ok (.ireturn, 1) := by decide +kernel
theorem dX4_init_0 : decode cX4_init 0 = .ok (.aload_n 0, 1) := by decide +kernel
theorem dX4_init_1 : decode cX4_init 1 = .ok (.invokespecial 3, 3) := by decide +kernel
theorem dX4_init_4 : decode cX4_init 4 = .ok (.aload_n 0, 1) := by decide +kernel
theorem dX4_init_5 : decode cX4_init 5 = .ok (.sipush 601, 3) := by decide +kernel
theorem dX4_init_8 : decode cX4_init 8 = .ok (.newarray .int, 2) := by decide +kernel
theorem dX4_init_10 : decode cX4_init 10 = .ok (.putfield 9, 3) := by decide +kernel
theorem dX4_init_13 : decode cX4_init 13 = .ok (.return_, 1) := by decide +kernel
theorem dX4_period_0 : decode cX4_period 0 = .ok (.aload_n 0, 1) := by decide +kernel
theorem dX4_period_1 : decode cX4_period 1 = .ok (.aload_n 1, 1) := by decide +kernel
theorem dX4_period_2 : decode cX4_period 2 = .ok (.iload_n 2, 1) := by decide +kernel
theorem dX4_period_3 : decode cX4_period 3 = .ok (.invokevirtual 15, 3) := by decide +kernel
theorem dX4_period_6 : decode cX4_period 6 = .ok (.aload_n 0, 1) := by decide +kernel
theorem dX4_period_7 : decode cX4_period 7 = .ok (.getfield 19, 3) := by decide +kernel
theorem dX4_period_10 : decode cX4_period 10 = .ok (.aload_n 0, 1) := by decide +kernel
theorem dX4_period_11 : decode cX4_period 11 = .ok (.getfield 9, 3) := by decide +kernel
theorem dX4_period_14 : decode cX4_period 14 = .ok (.aload_n 0, 1) := by decide +kernel
theorem dX4_period_15 : decode cX4_period 15 = .ok (.getfield 19, 3) := by decide +kernel
theorem dX4_period_18 : decode cX4_period 18 = .ok (.iaload, 1) := by decide +kernel
theorem dX4_period_19 : decode cX4_period 19 = .ok (.isub, 1) := by decide +kernel
theorem dX4_period_20 : decode cX4_period 20 = .ok (.ireturn, 1) := by decide +kernel
theorem dX4_firstFrom_0 : decode cX4_firstFrom 0 = .ok (.aload_n 0, 1) := by decide +kernel
theorem dX4_firstFrom_1 : decode cX4_firstFrom 1 = .ok (.aload_n 1, 1) := by decide +kernel
theorem dX4_firstFrom_2 : decode cX4_firstFrom 2 = .ok (.iload_n 3, 1) := by decide +kernel
theorem dX4_firstFrom_3 : decode cX4_firstFrom 3 = .ok (.invokevirtual 15, 3) := by decide +kernel
theorem dX4_firstFrom_6 : decode cX4_firstFrom 6 = .ok (.iconst 0, 1) := by decide +kernel
theorem dX4_firstFrom_7 : decode cX4_firstFrom 7 = .ok (.istore 5, 2) := by decide +kernel
theorem dX4_firstFrom_9 : decode cX4_firstFrom 9 = .ok (.iload 4, 2) := by decide +kernel
theorem dX4_firstFrom_11 : decode cX4_firstFrom 11 = .ok (.istore 6, 2) := by decide +kernel
theorem dX4_firstFrom_13 : decode cX4_firstFrom 13 = .ok (.iload 6, 2) := by decide +kernel
theorem dX4_firstFrom_15 : decode cX4_firstFrom 15 = .ok (.aload_n 1, 1) := by decide +kernel
theorem dX4_firstFrom_16 : decode cX4_firstFrom 16 = .ok (.iload_n 2, 1) := by decide +kernel
theorem dX4_firstFrom_17 : decode cX4_firstFrom 17 = .ok (.invokevirtual 23, 3) := by decide +kernel
theorem dX4_firstFrom_20 : decode cX4_firstFrom 20 = .ok (.if_icmp .ge 45, 3) := by decide +kernel
theorem dX4_firstFrom_23 : decode cX4_firstFrom 23 = .ok (.aload_n 0, 1) := by decide +kernel
theorem dX4_firstFrom_24 : decode cX4_firstFrom 24 = .ok (.aload_n 1, 1) := by decide +kernel
theorem dX4_firstFrom_25 : decode cX4_firstFrom 25 = .ok (.iload_n 3, 1) := by decide +kernel
theorem dX4_firstFrom_26 : decode cX4_firstFrom 26 = .ok (.iload 5, 2) := by decide +kernel
theorem dX4_firstFrom_28 : decode cX4_firstFrom 28 = .ok (.aload_n 1, 1) := by decide +kernel
theorem dX4_firstFrom_29 : decode cX4_firstFrom 29 = .ok (.iload_n 2, 1) := by decide +kernel
theorem dX4_firstFrom_30 : decode cX4_firstFrom 30 = .ok (.iload 6, 2) := by decide +kernel
theorem dX4_firstFrom_32 : decode cX4_firstFrom 32 = .ok (.invokevirtual 29, 3) := by decide +kernel
theorem dX4_firstFrom_35 : decode cX4_firstFrom 35 = .ok (.invokevirtual 33, 3) := by decide +kernel
theorem dX4_firstFrom_38 : decode cX4_firstFrom 38 = .ok (.istore 5, 2) := by decide +kernel
theorem dX4_firstFrom_40 : decode cX4_firstFrom 40 = .ok (.iload 5, 2) := by decide +kernel
theorem dX4_firstFrom_42 : decode cX4_firstFrom 42 = .ok (.aload_n 0, 1) := by decide +kernel
theorem dX4_firstFrom_43 : decode cX4_firstFrom 43 = .ok (.getfield 19, 3) := by decide +kernel
theorem dX4_firstFrom_46 : decode cX4_firstFrom 46 = .ok (.if_icmp .ne 13, 3) := by decide +kernel
theorem dX4_firstFrom_49 : decode cX4_firstFrom 49 = .ok (.iload 6, 2) := by decide +kernel
theorem dX4_firstFrom_51 : decode cX4_firstFrom 51 = .ok (.aload_n 0, 1) := by decide +kernel
theorem dX4_firstFrom_52 : decode cX4_firstFrom 52 = .ok (.getfield 19, 3) := by decide +kernel
theorem dX4_firstFrom_55 : decode cX4_firstFrom 55 = .ok (.isub, 1) := by decide +kernel
theorem dX4_firstFrom_56 : decode cX4_firstFrom 56 = .ok (.iconst 1, 1) := by decide +kernel
theorem dX4_firstFrom_57 : decode cX4_firstFrom 57 = .ok (.iadd, 1) := by decide +kernel
theorem dX4_firstFrom_58 : decode cX4_firstFrom 58 = .ok (.ireturn, 1) := by decide +kernel
theorem dX4_firstFrom_59 : decode cX4_firstFrom 59 = .ok (.iinc 6 1, 3) := by decide +kernel
theorem dX4_firstFrom_62 : decode cX4_firstFrom 62 = .ok (.goto (-49), 3) := by decide +kernel
theorem dX4_firstFrom_65 : decode cX4_firstFrom 65 = .ok (.iconst (-1), 1) := by decide +kernel
theorem dX4_firstFrom_66 : decode cX4_firstFrom 66 = .ok (.ireturn, 1) := by decide +kernel
theorem dX4_countAll_0 : decode cX4_countAll 0 = .ok (.aload_n 0, 1) := by decide +kernel
theorem dX4_countAll_1 : decode cX4_countAll 1 = .ok (.aload_n 1, 1) := by decide +kernel
theorem dX4_countAll_2 : decode cX4_countAll 2 = .ok (.iload_n 3, 1) := by decide +kernel
theorem dX4_countAll_3 : decode cX4_countAll 3 = .ok (.invokevirtual 15, 3) := by decide +kernel
theorem dX4_countAll_6 : decode cX4_countAll 6 = .ok (.iconst 0, 1) := by decide +kernel
theorem dX4_countAll_7 : decode cX4_countAll 7 = .ok (.istore 4, 2) := by decide +kernel
theorem dX4_countAll_9 : decode cX4_countAll 9 = .ok (.iconst 0, 1) := by decide +kernel
theorem dX4_countAll_10 : decode cX4_countAll 10 = .ok (.istore 5, 2) := by decide +kernel
theorem dX4_countAll_12 : decode cX4_countAll 12 = .ok (.iconst 0, 1) := by decide +kernel
theorem dX4_countAll_13 : decode cX4_countAll 13 = .ok (.istore 6, 2) := by decide +kernel
theorem dX4_countAll_15 : decode cX4_countAll 15 = .ok (.iload 6, 2) := by decide +kernel
theorem dX4_countAll_17 : decode cX4_countAll 17 = .ok (.aload_n 1, 1) := by decide +kernel
theorem dX4_countAll_18 : decode cX4_countAll 18 = .ok (.iload_n 2, 1) := by decide +kernel
theorem dX4_countAll_19 : decode cX4_countAll 19 = .ok (.invokevirtual 23, 3) := by decide +kernel
theorem dX4_countAll_22 : decode cX4_countAll 22 = .ok (.if_icmp .ge 38, 3) := by decide +kernel
theorem dX4_countAll_25 : decode cX4_countAll 25 = .ok (.aload_n 0, 1) := by decide +kernel
theorem dX4_countAll_26 : decode cX4_countAll 26 = .ok (.aload_n 1, 1) := by decide +kernel
theorem dX4_countAll_27 : decode cX4_countAll 27 = .ok (.iload_n 3, 1) := by decide +kernel
theorem dX4_countAll_28 : decode cX4_countAll 28 = .ok (.iload 4, 2) := by decide +kernel
theorem dX4_countAll_30 : decode cX4_countAll 30 = .ok (.aload_n 1, 1) := by decide +kernel
theorem dX4_countAll_31 : decode cX4_countAll 31 = .ok (.iload_n 2, 1) := by decide +kernel
theorem dX4_countAll_32 : decode cX4_countAll 32 = .ok (.iload 6, 2) := by decide +kernel
theorem dX4_countAll_34 : decode cX4_countAll 34 = .ok (.invokevirtual 29, 3) := by decide +kernel
theorem dX4_countAll_37 : decode cX4_countAll 37 = .ok (.invokevirtual 33, 3) := by decide +kernel
theorem dX4_countAll_40 : decode cX4_countAll 40 = .ok (.istore 4, 2) := by decide +kernel
theorem dX4_countAll_42 : decode cX4_countAll 42 = .ok (.iload 4, 2) := by decide +kernel
theorem dX4_countAll_44 : decode cX4_countAll 44 = .ok (.aload_n 0, 1) := by decide +kernel
theorem dX4_countAll_45 : decode cX4_countAll 45 = .ok (.getfield 19, 3) := by decide +kernel
theorem dX4_countAll_48 : decode cX4_countAll 48 = .ok (.if_icmp .ne 6, 3) := by decide +kernel
theorem dX4_countAll_51 : decode cX4_countAll 51 = .ok (.iinc 5 1, 3) := by decide +kernel
theorem dX4_countAll_54 : decode cX4_countAll 54 = .ok (.iinc 6 1, 3) := by decide +kernel
theorem dX4_countAll_57 : decode cX4_countAll 57 = .ok (.goto (-42), 3) := by decide +kernel
theorem dX4_countAll_60 : decode cX4_countAll 60 = .ok (.iload 5, 2) := by decide +kernel
theorem dX4_countAll_62 : decode cX4_countAll 62 = .ok (.ireturn, 1) := by decide +kernel
theorem dX4_prepare_0 : decode cX4_prepare 0 = .ok (.aload_n 0, 1) := by decide +kernel
theorem dX4_prepare_1 : decode cX4_prepare 1 = .ok (.aload_n 1, 1) := by decide +kernel
theorem dX4_prepare_2 : decode cX4_prepare 2 = .ok (.iload_n 2, 1) := by decide +kernel
theorem dX4_prepare_3 : decode cX4_prepare 3 = .ok (.invokevirtual 23, 3) := by decide +kernel
theorem dX4_prepare_6 : decode cX4_prepare 6 = .ok (.sipush 600, 3) := by decide +kernel
theorem dX4_prepare_9 : decode cX4_prepare 9 = .ok (.invokestatic 37, 3) := by decide +kernel
theorem dX4_prepare_12 : decode cX4_prepare 12 = .ok (.putfield 19, 3) := by decide +kernel
theorem dX4_prepare_15 : decode cX4_prepare 15 = .ok (.aload_n 0, 1) := by decide +kernel
theorem dX4_prepare_16 : decode cX4_prepare 16 = .ok (.getfield 9, 3) := by decide +kernel
theorem dX4_prepare_19 : decode cX4_prepare 19 = .ok (.iconst 0, 1) := by decide +kernel
theorem dX4_prepare_20 : decode cX4_prepare 20 = .ok (.iconst 0, 1) := by decide +kernel
theorem dX4_prepare_21 : decode cX4_prepare 21 = .ok (.iastore, 1) := by decide +kernel
theorem dX4_prepare_22 : decode cX4_prepare 22 = .ok (.aload_n 0, 1) := by decide +kernel
theorem dX4_prepare_23 : decode cX4_prepare 23 = .ok (.getfield 9, 3) := by decide +kernel
