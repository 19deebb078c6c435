theorem dX8_value_20 : decode cX8_value 20 = .ok (.iconst 0, 1) := by decide +kernel
theorem dX8_value_21 : decode cX8_value 21 = .ok (.istore 4, 2) := by decide +kernel
theorem dX8_value_23 : decode cX8_value 23 = .ok (.iload 4, 2) := by decide +kernel
theorem dX8_value_25 : decode cX8_value 25 = .ok (.aload_n 0, 1) := by decide +kernel
theorem dX8_value_26 : decode cX8_value 26 = .ok (.getfield 32, 3) := by decide +kernel
theorem dX8_value_29 : decode cX8_value 29 = .ok (.iload_n 1, 1) := by decide +kernel
theorem dX8_value_30 : decode cX8_value 30 = .ok (.invokevirtual 141, 3) := by decide +kernel
theorem dX8_value_33 : decode cX8_value 33 = .ok (.if_icmp .ge 55, 3) := by decide +kernel
theorem dX8_value_36 : decode cX8_value 36 = .ok (.aload_n 0, 1) := by decide +kernel
theorem dX8_value_37 : decode cX8_value 37 = .ok (.getfield 32, 3) := by decide +kernel
theorem dX8_value_40 : decode cX8_value 40 = .ok (.iload_n 1, 1) := by decide +kernel
theorem dX8_value_41 : decode cX8_value 41 = .ok (.iload 4, 2) := by decide +kernel
theorem dX8_value_43 : decode cX8_value 43 = .ok (.invokevirtual 172, 3) := by decide +kernel
theorem dX8_value_46 : decode cX8_value 46 = .ok (.istore 5, 2) := by decide +kernel
theorem dX8_value_48 : decode cX8_value 48 = .ok (.lload_n 2, 1) := by decide +kernel
theorem dX8_value_49 : decode cX8_value 49 = .ok (.ldc2_w 202, 3) := by decide +kernel
theorem dX8_value_52 : decode cX8_value 52 = .ok (.iload 5, 2) := by decide +kernel
theorem dX8_value_54 : decode cX8_value 54 = .ok (.i2l, 1) := by decide +kernel
theorem dX8_value_55 : decode cX8_value 55 = .ok (.lsub, 1) := by decide +kernel
theorem dX8_value_56 : decode cX8_value 56 = .ok (.ldc2_w 204, 3) := by decide +kernel
theorem dX8_value_59 : decode cX8_value 59 = .ok (.ldiv, 1) := by decide +kernel
theorem dX8_value_60 : decode cX8_value 60 = .ok (.lcmp, 1) := by decide +kernel
theorem dX8_value_61 : decode cX8_value 61 = .ok (.ifCond .le 11, 3) := by decide +kernel
theorem dX8_value_64 : decode cX8_value 64 = .ok (.aload_n 0, 1) := by decide +kernel
theorem dX8_value_65 : decode cX8_value 65 = .ok (.bipush 7, 2) := by decide +kernel
theorem dX8_value_67 : decode cX8_value 67 = .ok (.invokevirtual 84, 3) := by decide +kernel
theorem dX8_value_70 : decode cX8_value 70 = .ok (.i2l, 1) := by decide +kernel
theorem dX8_value_71 : decode cX8_value 71 = .ok (.lreturn, 1) := by decide +kernel
theorem dX8_value_72 : decode cX8_value 72 = .ok (.lload_n 2, 1) := by decide +kernel
theorem dX8_value_73 : decode cX8_value 73 = .ok (.ldc2_w 204, 3) := by decide +kernel
theorem dX8_value_76 : decode cX8_value 76 = .ok (.lmul, 1) := by decide +kernel
theorem dX8_value_77 : decode cX8_value 77 = .ok (.iload 5, 2) := by decide +kernel
theorem dX8_value_79 : decode cX8_value 79 = .ok (.i2l, 1) := by decide +kernel
theorem dX8_value_80 : decode cX8_value 80 = .ok (.ladd, 1) := by decide +kernel
theorem dX8_value_81 : decode cX8_value 81 = .ok (.lstore_n 2, 1) := by decide +kernel
theorem dX8_value_82 : decode cX8_value 82 = .ok (.iinc 4 1, 3) := by decide +kernel
theorem dX8_value_85 : decode cX8_value 85 = .ok (.goto (-62), 3) := by decide +kernel
theorem dX8_value_88 : decode cX8_value 88 = .ok (.aload_n 0, 1) := by decide +kernel
theorem dX8_value_89 : decode cX8_value 89 = .ok (.iconst 0, 1) := by decide +kernel
theorem dX8_value_90 : decode cX8_value 90 = .ok (.putfield 74, 3) := by decide +kernel
theorem dX8_value_93 : decode cX8_value 93 = .ok (.lload_n 2, 1) := by decide +kernel
theorem dX8_value_94 : decode cX8_value 94 = .ok (.lreturn, 1) := by decide +kernel
theorem dX8_take_0 : decode cX8_take 0 = .ok (.iload_n 2, 1) := by decide +kernel
theorem dX8_take_1 : decode cX8_take 1 = .ok (.ifCond .lt 7, 3) := by decide +kernel
theorem dX8_take_4 : decode cX8_take 4 = .ok (.iload_n 3, 1) := by decide +kernel
theorem dX8_take_5 : decode cX8_take 5 = .ok (.ifCond .gt 9, 3) := by decide +kernel
theorem dX8_take_8 : decode cX8_take 8 = .ok (.aload_n 0, 1) := by decide +kernel
theorem dX8_take_9 : decode cX8_take 9 = .ok (.iconst 1, 1) := by decide +kernel
theorem dX8_take_10 : decode cX8_take 10 = .ok (.invokevirtual 84, 3) := by decide +kernel
theorem dX8_take_13 : decode cX8_take 13 = .ok (.ireturn, 1) := by decide +kernel
theorem dX8_take_14 : decode cX8_take 14 = .ok (.aload_n 0, 1) := by decide +kernel
theorem dX8_take_15 : decode cX8_take 15 = .ok (.getfield 32, 3) := by decide +kernel
theorem dX8_take_18 : decode cX8_take 18 = .ok (.iload_n 1, 1) := by decide +kernel
theorem dX8_take_19 : decode cX8_take 19 = .ok (.invokevirtual 137, 3) := by decide +kernel
theorem dX8_take_22 : decode cX8_take 22 = .ok (.ifCond .ne 9, 3) := by decide +kernel
theorem dX8_take_25 : decode cX8_take 25 = .ok (.aload_n 0, 1) := by decide +kernel
theorem dX8_take_26 : decode cX8_take 26 = .ok (.iconst 2, 1) := by decide +kernel
theorem dX8_take_27 : decode cX8_take 27 = .ok (.invokevirtual 84, 3) := by decide +kernel
theorem dX8_take_30 : decode cX8_take 30 = .ok (.ireturn, 1) := by decide +kernel
theorem dX8_take_31 : decode cX8_take 31 = .ok (.aload_n 0, 1) := by decide +kernel
theorem dX8_take_32 : decode cX8_take 32 = .ok (.getfield 32, 3) := by decide +kernel
theorem dX8_take_35 : decode cX8_take 35 = .ok (.getfield 110, 3) := by decide +kernel
theorem dX8_take_38 : decode cX8_take 38 = .ok (.bipush 8, 2) := by decide +kernel
theorem dX8_take_40 : decode cX8_take 40 = .ok (.if_icmp .lt 9, 3) := by decide +kernel
theorem dX8_take_43 : decode cX8_take 43 = .ok (.aload_n 0, 1) := by decide +kernel
theorem dX8_take_44 : decode cX8_take 44 = .ok (.iconst 3, 1) := by decide +kernel
theorem dX8_take_45 : decode cX8_take 45 = .ok (.invokevirtual 84, 3) := by decide +kernel
theorem dX8_take_48 : decode cX8_take 48 = .ok (.ireturn, 1) := by decide +kernel
theorem dX8_take_49 : decode cX8_take 49 = .ok (.aload_n 0, 1) := by decide +kernel
theorem dX8_take_50 : decode cX8_take 50 = .ok (.getfield 32, 3) := by decide +kernel
theorem dX8_take_53 : decode cX8_take 53 = .ok (.iload_n 1, 1) := by decide +kernel
theorem dX8_take_54 : decode cX8_take 54 = .ok (.iload_n 2, 1) := by decide +kernel
theorem dX8_take_55 : decode cX8_take 55 = .ok (.iload_n 3, 1) := by decide +kernel
theorem dX8_take_56 : decode cX8_take 56 = .ok (.invokevirtual 206, 3) := by decide +kernel
theorem dX8_take_59 : decode cX8_take 59 = .ok (.ifCond .ne 9, 3) := by decide +kernel
theorem dX8_take_62 : decode cX8_take 62 = .ok (.aload_n 0, 1) := by decide +kernel
theorem dX8_take_63 : decode cX8_take 63 = .ok (.iconst 5, 1) := by decide +kernel
theorem dX8_take_64 : decode cX8_take 64 = .ok (.invokevirtual 84, 3) := by decide +kernel
theorem dX8_take_67 : decode cX8_take 67 = .ok (.ireturn, 1) := by decide +kernel
theorem dX8_take_68 : decode cX8_take 68 = .ok (.aload_n 0, 1) := by decide +kernel
theorem dX8_take_69 : decode cX8_take 69 = .ok (.getfield 41, 3) := by decide +kernel
theorem dX8_take_72 : decode cX8_take 72 = .ok (.invokevirtual 210, 3) := by decide +kernel
theorem dX8_take_75 : decode cX8_take 75 = .ok (.aload_n 0, 1) := by decide +kernel
theorem dX8_take_76 : decode cX8_take 76 = .ok (.getfield 41, 3) := by decide +kernel
theorem dX8_take_79 : decode cX8_take 79 = .ok (.aload_n 0, 1) := by decide +kernel
theorem dX8_take_80 : decode cX8_take 80 = .ok (.getfield 32, 3) := by decide +kernel
theorem dX8_take_83 : decode cX8_take 83 = .ok (.iload_n 1, 1) := by decide +kernel
theorem dX8_take_84 : decode cX8_take 84 = .ok (.iload_n 2, 1) := by decide +kernel
theorem dX8_take_85 : decode cX8_take 85 = .ok (.iload_n 3, 1) := by decide +kernel
theorem dX8_take_86 : decode cX8_take 86 = .ok (.invokevirtual 213, 3) := by decide +kernel
theorem dX8_take_89 : decode cX8_take 89 = .ok (.aload_n 0, 1) := by decide +kernel
theorem dX8_take_90 : decode cX8_take 90 = .ok (.getfield 32, 3) := by decide +kernel
theorem dX8_take_93 : decode cX8_take 93 = .ok (.getfield 110, 3) := by decide +kernel
theorem dX8_take_96 : decode cX8_take 96 = .ok (.istore 4, 2) := by decide +kernel
theorem dX8_take_98 : decode cX8_take 98 = .ok (.aload_n 0, 1) := by decide +kernel
theorem dX8_take_99 : decode cX8_take 99 = .ok (.iload 4, 2) := by decide +kernel
theorem dX8_take_101 : decode cX8_take 101 = .ok (.invokevirtual 217, 3) := by decide +kernel
theorem dX8_take_104 : decode cX8_take 104 = .ok (.aload_n 0, 1) := by decide +kernel
theorem dX8_take_105 : decode cX8_take 105 = .ok (.iload 4, 2) := by decide +kernel
theorem dX8_take_107 : decode cX8_take 107 = .ok (.invokevirtual 113, 3) := by decide +kernel
theorem dX8_take_110 : decode cX8_take 110 = .ok (.ireturn, 1) := by decide +kernel
theorem dX8_splice_0 : decode cX8_splice 0 = .ok (.aload_n 0, 1) := by decide +kernel
theorem dX8_splice_1 : decode cX8_splice 1 = .ok (.iload_n 1, 1) := by decide +kernel
theorem dX8_splice_2 : decode cX8_splice 2 = .ok (.iload_n 2, 1) := by decide +kernel
theorem dX8_splice_3 : decode cX8_splice 3 = .ok (.iload_n 3, 1) := by decide +kernel
theorem dX8_splice_4 : decode cX8_splice 4 = .ok (.iload 4, 2) := by decide +kernel
theorem dX8_splice_6 : decode cX8_splice 6 = .ok (.invokevirtual 220, 3) := by decide +kernel
theorem dX8_splice_9 : decode cX8_splice 9 = .ok (.istore 5, 2) := by decide +kernel
theorem dX8_splice_11 : decode cX8_splice 11 = .ok (.iload 5, 2) := by decide +kernel
theorem dX8_splice_13 : decode cX8_splice 13 = .ok (.ifCond .eq 10, 3) := by decide +kernel
theorem dX8_splice_16 : decode cX8_splice 16 = .ok (.aload_n 0, 1) := by decide +kernel
theorem dX8_splice_17 : decode cX8_splice 17 = .ok (.iload 5, 2) := by decide +kernel
theorem dX8_splice_19 : decode cX8_splice 19 = .ok (.invokevirtual 84, 3) := by decide +kernel
theorem dX8_splice_22 : decode cX8_splice 22 = .ok (.ireturn, 1) := by decide +kernel
theorem dX8_splice_23 : decode cX8_splice 23 = .ok (.aload_n 0, 1) := by decide +kernel
theorem dX8_splice_24 : decode cX8_splice 24 = .ok (.iload_n 1, 1) := by decide +kernel
theorem dX8_splice_25 : decode cX8_splice 25 = .ok (.iload_n 2, 1) := by decide +kernel
theorem dX8_splice_26 : decode cX8_splice 26 = .ok (.iload_n 3, 1) := by decide +kernel
theorem dX8_splice_27 : decode cX8_splice 27 = .ok (.iload 4, 2) := by decide +kernel
theorem dX8_splice_29 : decode cX8_splice 29 = .ok (.invokevirtual 224, 3) := by decide +kernel
theorem dX8_splice_32 : decode cX8_splice 32 = .ok (.aload_n 0, 1) := by decide +kernel
theorem dX8_splice_33 : decode cX8_splice 33 = .ok (.iload_n 1, 1) := by decide +kernel
theorem dX8_splice_34 : decode cX8_splice 34 = .ok (.invokevirtual 217, 3) := by decide +kernel
theorem dX8_splice_37 : decode cX8_splice 37 = .ok (.aload_n 0, 1) := by decide +kernel
theorem dX8_splice_38 : decode cX8_splice 38 = .ok (.aload_n 0, 1) := by decide +kernel
theorem dX8_splice_39 : decode cX8_splice 39 = .ok (.getfield 32, 3) := by decide +kernel
theorem dX8_splice_42 : decode cX8_splice 42 = .ok (.iload_n 1, 1) := by decide +kernel
theorem dX8_splice_43 : decode cX8_splice 43 = .ok (.invokevirtual 141, 3) := by decide +kernel
theorem dX8_splice_46 : decode cX8_splice 46 = .ok (.invokevirtual 113, 3) := by decide +kernel
theorem dX8_splice_49 : decode cX8_splice 49 = .ok (.ireturn, 1) := by decide +kernel
theorem dX8_join_0 : decode cX8_join 0 = .ok (.aload_n 0, 1) := by decide +kernel
theorem dX8_join_1 : decode cX8_join 1 = .ok (.getfield 32, 3) := by decide +kernel
theorem dX8_join_4 : decode cX8_join 4 = .ok (.iload_n 1, 1) := by decide +kernel
theorem dX8_join_5 : decode cX8_join 5 = .ok (.invokevirtual 137, 3) := by decide +kernel
theorem dX8_join_8 : decode cX8_join 8 = .ok (.ifCond .eq 14, 3) := by decide +kernel
theorem dX8_join_11 : decode cX8_join 11 = .ok (.aload_n 0, 1) := by decide +kernel
theorem dX8_join_12 : decode cX8_join 12 = .ok (.getfield 32, 3) := by decide +kernel
theorem dX8_join_15 : decode cX8_join 15 = .ok (.iload_n 2, 1) := by decide +kernel
theorem dX8_join_16 : decode cX8_join 16 = .ok (.invokevirtual 137, 3) := by decide +kernel
theorem dX8_join_19 : decode cX8_join 19 = .ok (.ifCond .ne 9, 3) := by decide +kernel
theorem dX8_join_22 : decode cX8_join 22 = .ok (.aload_n 0, 1) := by decide +kernel
theorem dX8_join_23 : decode cX8_join 23 = .ok (.iconst 2, 1) := by decide +kernel
theorem dX8_join_24 : decode cX8_join 24 = .ok (.invokevirtual 84, 3) := by decide +kernel
theorem dX8_join_27 : decode cX8_join 27 = .ok (.ireturn, 1) := by decide +kernel
theorem dX8_join_28 : decode cX8_join 28 = .ok (.aload_n 0, 1) := by decide +kernel
theorem dX8_join_29 : decode cX8_join 29 = .ok (.getfield 32, 3) := by decide +kernel
theorem dX8_join_32 : decode cX8_join 32 = .ok (.getfield 110, 3) := by decide +kernel
theorem dX8_join_35 : decode cX8_join 35 = .ok (.bipush 8, 2) := by decide +kernel
theorem dX8_join_37 : decode cX8_join 37 = .ok (.if_icmp .lt 9, 3) := by decide +kernel
theorem dX8_join_40 : decode cX8_join 40 = .ok (.aload_n 0, 1) := by decide +kernel
theorem dX8_join_41 : decode cX8_join 41 = .ok (.iconst 3, 1) := by decide +kernel
theorem dX8_join_42 : decode cX8_join 42 = .ok (.invokevirtual 84, 3) := by decide +kernel
theorem dX8_join_45 : decode cX8_join 45 = .ok (.ireturn, 1) := by decide +kernel
theorem dX8_join_46 : decode cX8_join 46 = .ok (.aload_n 0, 1) := by decide +kernel
theorem dX8_join_47 : decode cX8_join 47 = .ok (.getfield 32, 3) := by decide +kernel
theorem dX8_join_50 : decode cX8_join 50 = .ok (.iload_n 1, 1) := by decide +kernel
theorem dX8_join_51 : decode cX8_join 51 = .ok (.invokevirtual 141, 3) := by decide +kernel
theorem dX8_join_54 : decode cX8_join 54 = .ok (.aload_n 0, 1) := by decide +kernel
theorem dX8_join_55 : decode cX8_join 55 = .ok (.getfield 32, 3) := by decide +kernel
theorem dX8_join_58 : decode cX8_join 58 = .ok (.iload_n 2, 1) := by decide +kernel
theorem dX8_join_59 : decode cX8_join 59 = .ok (.invokevirtual 141, 3) := by decide +kernel
theorem dX8_join_62 : decode cX8_join 62 = .ok (.iadd, 1) := by decide +kernel
theorem dX8_join_63 : decode cX8_join 63 = .ok (.sipush 600, 3) := by decide +kernel
theorem dX8_join_66 : decode cX8_join 66 = .ok (.if_icmp .le 10, 3) := by decide +kernel
theorem dX8_join_69 : decode cX8_join 69 = .ok (.aload_n 0, 1) := by decide +kernel
theorem dX8_join_70 : decode cX8_join 70 = .ok (.bipush 6, 2) := by decide +kernel
theorem dX8_join_72 : decode cX8_join 72 = .ok (.invokevirtual 84, 3) := by decide +kernel
theorem dX8_join_75 : decode cX8_join 75 = .ok (.ireturn, 1) := by decide +kernel
theorem dX8_join_76 : decode cX8_join 76 = .ok (.aload_n 0, 1) := by decide +kernel
theorem dX8_join_77 : decode cX8_join 77 = .ok (.getfield 41, 3) := by decide +kernel
theorem dX8_join_80 : decode cX8_join 80 = .ok (.invokevirtual 210, 3) := by decide +kernel
theorem dX8_join_83 : decode cX8_join 83 = .ok (.aload_n 0, 1) := by decide +kernel
theorem dX8_join_84 : decode cX8_join 84 = .ok (.getfield 41, 3) := by decide +kernel
theorem dX8_join_87 : decode cX8_join 87 = .ok (.aload_n 0, 1) := by decide +kernel
theorem dX8_join_88 : decode cX8_join 88 = .ok (.getfield 32, 3) := by decide +kernel
theorem dX8_join_91 : decode cX8_join 91 = .ok (.iload_n 1, 1) := by decide +kernel
theorem dX8_join_92 : decode cX8_join 92 = .ok (.invokevirtual 228, 3) := by decide +kernel
theorem dX8_join_95 : decode cX8_join 95 = .ok (.aload_n 0, 1) := by decide +kernel
theorem dX8_join_96 : decode cX8_join 96 = .ok (.getfield 41, 3) := by decide +kernel
theorem dX8_join_99 : decode cX8_join 99 = .ok (.aload_n 0, 1) := by decide +kernel
theorem dX8_join_100 : decode cX8_join 100 = .ok (.getfield 32, 3) := by decide +kernel
theorem dX8_join_103 : decode cX8_join 103 = .ok (.iload_n 2, 1) := by decide +kernel
theorem dX8_join_104 : decode cX8_join 104 = .ok (.invokevirtual 228, 3) := by decide +kernel
theorem dX8_join_107 : decode cX8_join 107 = .ok (.aload_n 0, 1) := by decide +kernel
theorem dX8_join_108 : decode cX8_join 108 = .ok (.getfield 32, 3) := by decide +kernel
theorem dX8_join_111 : decode cX8_join 111 = .ok (.getfield 110, 3) := by decide +kernel
theorem dX8_join_114 : decode cX8_join 114 = .ok (.istore_n 3, 1) := by decide +kernel
theorem dX8_join_115 : decode cX8_join 115 = .ok (.aload_n 0, 1) := by decide +kernel
theorem dX8_join_116 : decode cX8_join 116 = .ok (.iload_n 3, 1) := by decide +kernel
theorem dX8_join_117 : decode cX8_join 117 = .ok (.invokevirtual 217, 3) := by decide +kernel
theorem dX8_join_120 : decode cX8_join 120 = .ok (.aload_n 0, 1) := by decide +kernel
theorem dX8_join_121 : decode cX8_join 121 = .ok (.iload_n 3, 1) := by decide +kernel
theorem dX8_join_122 : decode cX8_join 122 = .ok (.invokevirtual 113, 3) := by decide +kernel
theorem dX8_join_125 : decode cX8_join 125 = .ok (.ireturn, 1) := by decide +kernel
theorem dX8_repeat_0 : decode cX8_repeat 0 = .ok (.iload_n 2, 1) := by decide +kernel
theorem dX8_repeat_1 : decode cX8_repeat 1 = .ok (.iconst 2, 1) := by decide +kernel
theorem dX8_repeat_2 : decode cX8_repeat 2 = .ok (.if_icmp .lt 10, 3) := by decide +kernel
theorem dX8_repeat_5 : decode cX8_repeat 5 = .ok (.iload_n 2, 1) := by decide +kernel
theorem dX8_repeat_6 : decode cX8_repeat 6 = .ok (.sipush 600, 3) := by decide +kernel
theorem dX8_repeat_9 : decode cX8_repeat 9 = .ok (.if_icmp .le 9, 3) := by decide +kernel
theorem dX8_repeat_12 : decode cX8_repeat 12 = .ok (.aload_n 0, 1) := by decide +kernel
theorem dX8_repeat_13 : decode cX8_repeat 13 = .ok (.iconst 1, 1) := by decide +kernel
theorem dX8_repeat_14 : decode cX8_repeat 14 = .ok (.invokevirtual 84, 3) := by decide +kernel
theorem dX8_repeat_17 : decode cX8_repeat 17 = .ok (.ireturn, 1) := by decide +kernel
theorem dX8_repeat_18 : decode cX8_repeat 18 = .ok (.aload_n 0, 1) := by decide +kernel
theorem dX8_repeat_19 : decode cX8_repeat 19 = .ok (.getfield 32, 3) := by decide +kernel
theorem dX8_repeat_22 : decode cX8_repeat 22 = .ok (.iload_n 1, 1) := by decide +kernel
theorem dX8_repeat_23 : decode cX8_repeat 23 = .ok (.invokevirtual 137, 3) := by decide +kernel
theorem dX8_repeat_26 : decode cX8_repeat 26 = .ok (.ifCond .ne 9, 3) := by decide +kernel
theorem dX8_repeat_29 : decode cX8_repeat 29 = .ok (.aload_n 0, 1) := by decide +kernel
theorem dX8_repeat_30 : decode cX8_repeat 30 = .ok (.iconst 2, 1) := by decide +kernel
theorem dX8_repeat_31 : decode cX8_repeat 31 = .ok (.invokevirtual 84, 3) := by decide +kernel
theorem dX8_repeat_34 : decode cX8_repeat 34 = .ok (.ireturn, 1) := by decide +kernel
theorem dX8_repeat_35 : decode cX8_repeat 35 = .ok (.aload_n 0, 1) := by decide +kernel
theorem dX8_repeat_36 : decode cX8_repeat 36 = .ok (.getfield 32, 3) := by decide +kernel
theorem dX8_repeat_39 : decode cX8_repeat 39 = .ok (.iload_n 1, 1) := by decide +kernel
theorem dX8_repeat_40 : decode cX8_repeat 40 = .ok (.invokevirtual 141, 3) := by decide +kernel
theorem dX8_repeat_43 : decode cX8_repeat 43 = .ok (.iload_n 2, 1) := by decide +kernel
theorem dX8_repeat_44 : decode cX8_repeat 44 = .ok (.imul, 1) := by decide +kernel
theorem dX8_repeat_45 : decode cX8_repeat 45 = .ok (.sipush 600, 3) := by decide +kernel
theorem dX8_repeat_48 : decode cX8_repeat 48 = .ok (.if_icmp .le 10, 3) := by decide +kernel
theorem dX8_repeat_51 : decode cX8_repeat 51 = .ok (.aload_n 0, 1) := by decide +kernel
theorem dX8_repeat_52 : decode cX8_repeat 52 = .ok (.bipush 6, 2) := by decide +kernel
theorem dX8_repeat_54 : decode cX8_repeat 54 = .ok (.invokevirtual 84, 3) := by decide +kernel
theorem dX8_repeat_57 : decode cX8_repeat 57 = .ok (.ireturn, 1) := by decide +kernel
theorem dX8_repeat_58 : decode cX8_repeat 58 = .ok (.aload_n 0, 1) := by decide +kernel
theorem dX8_repeat_59 : decode cX8_repeat 59 = .ok (.getfield 41, 3) := by decide +kernel
theorem dX8_repeat_62 : decode cX8_repeat 62 = .ok (.invokevirtual 210, 3) := by decide +kernel
theorem dX8_repeat_65 : decode cX8_repeat 65 = .ok (.aload_n 0, 1) := by decide +kernel
theorem dX8_repeat_66 : decode cX8_repeat 66 = .ok (.getfield 41, 3) := by decide +kernel
theorem dX8_repeat_69 : decode cX8_repeat 69 = .ok (.aload_n 0, 1) := by decide +kernel
theorem dX8_repeat_70 : decode cX8_repeat 70 = .ok (.getfield 32, 3) := by decide +kernel
theorem dX8_repeat_73 : decode cX8_repeat 73 = .ok (.iload_n 1, 1) := by decide +kernel
theorem dX8_repeat_74 : decode cX8_repeat 74 = .ok (.invokevirtual 228, 3) := by decide +kernel
theorem dX8_repeat_77 : decode cX8_repeat 77 = .ok (.aload_n 0, 1) := by decide +kernel
theorem dX8_repeat_78 : decode cX8_repeat 78 = .ok (.getfield 41, 3) := by decide +kernel
theorem dX8_repeat_81 : decode cX8_repeat 81 = .ok (.iconst 0, 1) := by decide +kernel
theorem dX8_repeat_82 : decode cX8_repeat 82 = .ok (.iload_n 2, 1) := by decide +kernel
theorem dX8_repeat_83 : decode cX8_repeat 83 = .ok (.invokevirtual 232, 3) := by decide +kernel
theorem dX8_repeat_86 : decode cX8_repeat 86 = .ok (.aload_n 0, 1) := by decide +kernel
theorem dX8_repeat_87 : decode cX8_repeat 87 = .ok (.iload_n 1, 1) := by decide +kernel
theorem dX8_repeat_88 : decode cX8_repeat 88 = .ok (.invokevirtual 217, 3) := by decide +kernel
theorem dX8_repeat_91 : decode cX8_repeat 91 = .ok (.aload_n 0, 1) := by decide +kernel
theorem dX8_repeat_92 : decode cX8_repeat 92 = .ok (.aload_n 0, 1) := by decide +kernel
theorem dX8_repeat_93 : decode cX8_repeat 93 = .ok (.getfield 32, 3) := by decide +kernel
theorem dX8_repeat_96 : decode cX8_repeat 96 = .ok (.iload_n 1, 1) := by decide +kernel
theorem dX8_repeat_97 : decode cX8_repeat 97 = .ok (.invokevirtual 141, 3) := by decide +kernel
theorem dX8_repeat_100 : decode cX8_repeat 100 = .ok (.invokevirtual 113, 3) := by decide +kernel
theorem dX8_repeat_103 : decode cX8_repeat 103 = .ok (.ireturn, 1) := by decide +kernel
theorem dX8_turn_0 : decode cX8_turn 0 = .ok (.aload_n 0, 1) := by decide +kernel
theorem dX8_turn_1 : decode cX8_turn 1 = .ok (.getfield 32, 3) := by decide +kernel
theorem dX8_turn_4 : decode cX8_turn 4 = .ok (.iload_n 1, 1) := by decide +kernel
theorem dX8_turn_5 : decode cX8_turn 5 = .ok (.invokevirtual 137, 3) := by decide +kernel
theorem dX8_turn_8 : decode cX8_turn 8 = .ok (.ifCond .ne 9, 3) := by decide +kernel
theorem dX8_turn_11 : decode cX8_turn 11 = .ok (.aload_n 0, 1) := by decide +kernel
theorem dX8_turn_12 : decode cX8_turn 12 = .ok (.iconst 2, 1) := by decide +kernel
theorem dX8_turn_13 : decode cX8_turn 13 = .ok (.invokevirtual 84, 3) := by decide +kernel
theorem dX8_turn_16 : decode cX8_turn 16 = .ok (.ireturn, 1) := by decide +kernel
theorem dX8_turn_17 : decode cX8_turn 17 = .ok (.aload_n 0, 1) := by decide +kernel
theorem dX8_turn_18 : decode cX8_turn 18 = .ok (.getfield 41, 3) := by decide +kernel
theorem dX8_turn_21 : decode cX8_turn 21 = .ok (.invokevirtual 210, 3) := by decide +kernel
theorem dX8_turn_24 : decode cX8_turn 24 = .ok (.aload_n 0, 1) := by decide +kernel
theorem dX8_turn_25 : decode cX8_turn 25 = .ok (.getfield 41, 3) := by decide +kernel
theorem dX8_turn_28 : decode cX8_turn 28 = .ok (.aload_n 0, 1) := by decide +kernel
theorem dX8_turn_29 : decode cX8_turn 29 = .ok (.getfield 32, 3) := by decide +kernel
theorem dX8_turn_32 : decode cX8_turn 32 = .ok (.iload_n 1, 1) := by decide +kernel
theorem dX8_turn_33 : decode cX8_turn 33 = .ok (.invokevirtual 228, 3) := by decide +kernel
theorem dX8_turn_36 : decode cX8_turn 36 = .ok (.aload_n 0, 1) := by decide +kernel
theorem dX8_turn_37 : decode cX8_turn 37 = .ok (.getfield 41, 3) := by decide +kernel
theorem dX8_turn_40 : decode cX8_turn 40 = .ok (.iconst 0, 1) := by decide +kernel
theorem dX8_turn_41 : decode cX8_turn 41 = .ok (.invokevirtual 236, 3) := by decide +kernel
theorem dX8_turn_44 : decode cX8_turn 44 = .ok (.aload_n 0, 1) := by decide +kernel
theorem dX8_turn_45 : decode cX8_turn 45 = .ok (.getfield 41, 3) := by decide +kernel
theorem dX8_turn_48 : decode cX8_turn 48 = .ok (.aload_n 0, 1) := by decide +kernel
theorem dX8_turn_49 : decode cX8_turn 49 = .ok (.getfield 32, 3) := by decide +kernel
theorem dX8_turn_52 : decode cX8_turn 52 = .ok (.iload_n 1, 1) := by decide +kernel
theorem dX8_turn_53 : decode cX8_turn 53 = .ok (.invokevirtual 239, 3) := by decide +kernel
theorem dX8_turn_56 : decode cX8_turn 56 = .ok (.istore_n 2, 1) := by decide +kernel
theorem dX8_turn_57 : decode cX8_turn 57 = .ok (.aload_n 0, 1) := by decide +kernel
theorem dX8_turn_58 : decode cX8_turn 58 = .ok (.iload_n 1, 1) := by decide +kernel
theorem dX8_turn_59 : decode cX8_turn 59 = .ok (.invokevirtual 217, 3) := by decide +kernel
theorem dX8_turn_62 : decode cX8_turn 62 = .ok (.aload_n 0, 1) := by decide +kernel
theorem dX8_turn_63 : decode cX8_turn 63 = .ok (.iload_n 2, 1) := by decide +kernel
theorem dX8_turn_64 : decode cX8_turn 64 = .ok (.ifCond .eq 7, 3) := by decide +kernel
theorem dX8_turn_67 : decode cX8_turn 67 = .ok (.iconst 1, 1) := by decide +kernel
theorem dX8_turn_68 : decode cX8_turn 68 = .ok (.goto 4, 3) := by decide +kernel
theorem dX8_turn_71 : decode cX8_turn 71 = .ok (.iconst 0, 1) := by decide +kernel
theorem dX8_turn_72 : decode cX8_turn 72 = .ok (.invokevirtual 113, 3) := by decide +kernel
theorem dX8_turn_75 : decode cX8_turn 75 = .ok (.ireturn, 1) := by decide +kernel
theorem dX8_rename_0 : decode cX8_rename 0 = .ok (.iload_n 2, 1) := by decide +kernel
theorem dX8_rename_1 : decode cX8_rename 1 = .ok (.invokestatic 243, 3) := by decide +kernel
theorem dX8_rename_4 : decode cX8_rename 4 = .ok (.ifCond .eq 10, 3) := by decide +kernel
theorem dX8_rename_7 : decode cX8_rename 7 = .ok (.iload_n 3, 1) := by decide +kernel
theorem dX8_rename_8 : decode cX8_rename 8 = .ok (.invokestatic 243, 3) := by decide +kernel
theorem dX8_rename_11 : decode cX8_rename 11 = .ok (.ifCond .ne 9, 3) := by decide +kernel
theorem dX8_rename_14 : decode cX8_rename 14 = .ok (.aload_n 0, 1) := by decide +kernel
theorem dX8_rename_15 : decode cX8_rename 15 = .ok (.iconst 1, 1) := by decide +kernel
theorem dX8_rename_16 : decode cX8_rename 16 = .ok (.invokevirtual 84, 3) := by decide +kernel
theorem dX8_rename_19 : decode cX8_rename 19 = .ok (.ireturn, 1) := by decide +kernel
theorem dX8_rename_20 : decode cX8_rename 20 = .ok (.aload_n 0, 1) := by decide +kernel
theorem dX8_rename_21 : decode cX8_rename 21 = .ok (.getfield 32, 3) := by decide +kernel
theorem dX8_rename_24 : decode cX8_rename 24 = .ok (.iload_n 1, 1) := by decide +kernel
theorem dX8_rename_25 : decode cX8_rename 25 = .ok (.invokevirtual 137, 3) := by decide +kernel
theorem dX8_rename_28 : decode cX8_rename 28 = .ok (.ifCond .ne 9, 3) := by decide +kernel
theorem dX8_rename_31 : decode cX8_rename 31 = .ok (.aload_n 0, 1) := by decide +kernel
theorem dX8_rename_32 : decode cX8_rename 32 = .ok (.iconst 2, 1) := by decide +kernel
theorem dX8_rename_33 : decode cX8_rename 33 = .ok (.invokevirtual 84, 3) := by decide +kernel
theorem dX8_rename_36 : decode cX8_rename 36 = .ok (.ireturn, 1) := by decide +kernel
theorem dX8_rename_37 : decode cX8_rename 37 = .ok (.iload_n 2, 1) := by decide +kernel
theorem dX8_rename_38 : decode cX8_rename 38 = .ok (.iload_n 3, 1) := by decide +kernel
theorem dX8_rename_39 : decode cX8_rename 39 = .ok (.if_icmp .ne 9, 3) := by decide +kernel
theorem dX8_rename_42 : decode cX8_rename 42 = .ok (.aload_n 0, 1) := by decide +kernel
theorem dX8_rename_43 : decode cX8_rename 43 = .ok (.iconst 4, 1) := by decide +kernel
theorem dX8_rename_44 : decode cX8_rename 44 = .ok (.invokevirtual 84, 3) := by decide +kernel
theorem dX8_rename_47 : decode cX8_rename 47 = .ok (.ireturn, 1) := by decide +kernel
theorem dX8_rename_48 : decode cX8_rename 48 = .ok (.aload_n 0, 1) := by decide +kernel
theorem dX8_rename_49 : decode cX8_rename 49 = .ok (.getfield 32, 3) := by decide +kernel
theorem dX8_rename_52 : decode cX8_rename 52 = .ok (.iload_n 1, 1) := by decide +kernel
theorem dX8_rename_53 : decode cX8_rename 53 = .ok (.iload_n 2, 1) := by decide +kernel
theorem dX8_rename_54 : decode cX8_rename 54 = .ok (.aload_n 0, 1) := by decide +kernel
theorem dX8_rename_55 : decode cX8_rename 55 = .ok (.getfield 32, 3) := by decide +kernel
theorem dX8_rename_58 : decode cX8_rename 58 = .ok (.iload_n 1, 1) := by decide +kernel
theorem dX8_rename_59 : decode cX8_rename 59 = .ok (.invokevirtual 141, 3) := by decide +kernel
theorem dX8_rename_62 : decode cX8_rename 62 = .ok (.invokevirtual 246, 3) := by decide +kernel
theorem dX8_rename_65 : decode cX8_rename 65 = .ok (.istore 4, 2) := by decide +kernel
theorem dX8_rename_67 : decode cX8_rename 67 = .ok (.iload 4, 2) := by decide +kernel
theorem dX8_rename_69 : decode cX8_rename 69 = .ok (.ifCond .ne 9, 3) := by decide +kernel
theorem dX8_rename_72 : decode cX8_rename 72 = .ok (.aload_n 0, 1) := by decide +kernel
theorem dX8_rename_73 : decode cX8_rename 73 = .ok (.iconst 5, 1) := by decide +kernel
theorem dX8_rename_74 : decode cX8_rename 74 = .ok (.invokevirtual 84, 3) := by decide +kernel
theorem dX8_rename_77 : decode cX8_rename 77 = .ok (.ireturn, 1) := by decide +kernel
theorem dX8_rename_78 : decode cX8_rename 78 = .ok (.aload_n 0, 1) := by decide +kernel
theorem dX8_rename_79 : decode cX8_rename 79 = .ok (.getfield 41, 3) := by decide +kernel
theorem dX8_rename_82 : decode cX8_rename 82 = .ok (.invokevirtual 210, 3) := by decide +kernel
theorem dX8_rename_85 : decode cX8_rename 85 = .ok (.aload_n 0, 1) := by decide +kernel
theorem dX8_rename_86 : decode cX8_rename 86 = .ok (.getfield 41, 3) := by decide +kernel
theorem dX8_rename_89 : decode cX8_rename 89 = .ok (.aload_n 0, 1) := by decide +kernel
theorem dX8_rename_90 : decode cX8_rename 90 = .ok (.getfield 32, 3) := by decide +kernel
theorem dX8_rename_93 : decode cX8_rename 93 = .ok (.iload_n 1, 1) := by decide +kernel
theorem dX8_rename_94 : decode cX8_rename 94 = .ok (.invokevirtual 228, 3) := by decide +kernel
theorem dX8_rename_97 : decode cX8_rename 97 = .ok (.aload_n 0, 1) := by decide +kernel
theorem dX8_rename_98 : decode cX8_rename 98 = .ok (.getfield 41, 3) := by decide +kernel
theorem dX8_rename_101 : decode cX8_rename 101 = .ok (.iload_n 2, 1) := by decide +kernel
theorem dX8_rename_102 : decode cX8_rename 102 = .ok (.iload_n 3, 1) := by decide +kernel
theorem dX8_rename_103 : decode cX8_rename 103 = .ok (.invokevirtual 249, 3) := by decide +kernel
theorem dX8_rename_106 : decode cX8_rename 106 = .ok (.aload_n 0, 1) := by decide +kernel
theorem dX8_rename_107 : decode cX8_rename 107 = .ok (.iload_n 1, 1) := by decide +kernel
theorem dX8_rename_108 : decode cX8_rename 108 = .ok (.invokevirtual 217, 3) := by decide +kernel
theorem dX8_rename_111 : decode cX8_rename 111 = .ok (.aload_n 0, 1) := by decide +kernel
theorem dX8_rename_112 : decode cX8_rename 112 = .ok (.iload 4, 2) := by decide +kernel
theorem dX8_rename_114 : decode cX8_rename 114 = .ok (.invokevirtual 113, 3) := by decide +kernel
theorem dX8_rename_117 : decode cX8_rename 117 = .ok (.ireturn, 1) := by decide +kernel
theorem dX8_drop_0 : decode cX8_drop 0 = .ok (.aload_n 0, 1) := by decide +kernel
theorem dX8_drop_1 : decode cX8_drop 1 = .ok (.getfield 32, 3) := by decide +kernel
theorem dX8_drop_4 : decode cX8_drop 4 = .ok (.iload_n 1, 1) := by decide +kernel
theorem dX8_drop_5 : decode cX8_drop 5 = .ok (.invokevirtual 137, 3) := by decide +kernel
theorem dX8_drop_8 : decode cX8_drop 8 = .ok (.ifCond .ne 9, 3) := by decide +kernel
theorem dX8_drop_11 : decode cX8_drop 11 = .ok (.aload_n 0, 1) := by decide +kernel
theorem dX8_drop_12 : decode cX8_drop 12 = .ok (.iconst 2, 1) := by decide +kernel
theorem dX8_drop_13 : decode cX8_drop 13 = .ok (.invokevirtual 84, 3) := by decide +kernel
theorem dX8_drop_16 : decode cX8_drop 16 = .ok (.ireturn, 1) := by decide +kernel
theorem dX8_drop_17 : decode cX8_drop 17 = .ok (.aload_n 0, 1) := by decide +kernel
theorem dX8_drop_18 : decode cX8_drop 18 = .ok (.invokevirtual 97, 3) := by decide +kernel
theorem dX8_drop_21 : decode cX8_drop 21 = .ok (.aload_n 0, 1) := by decide +kernel
theorem dX8_drop_22 : decode cX8_drop 22 = .ok (.getfield 32, 3) := by decide +kernel
theorem dX8_drop_25 : decode cX8_drop 25 = .ok (.iload_n 1, 1) := by decide +kernel
theorem dX8_drop_26 : decode cX8_drop 26 = .ok (.invokevirtual 252, 3) := by decide +kernel
theorem dX8_drop_29 : decode cX8_drop 29 = .ok (.aload_n 0, 1) := by decide +kernel
theorem dX8_drop_30 : decode cX8_drop 30 = .ok (.invokevirtual 107, 3) := by decide +kernel
theorem dX8_drop_33 : decode cX8_drop 33 = .ok (.aload_n 0, 1) := by decide +kernel
theorem dX8_drop_34 : decode cX8_drop 34 = .ok (.aload_n 0, 1) := by decide +kernel
theorem dX8_drop_35 : decode cX8_drop 35 = .ok (.getfield 32, 3) := by decide +kernel
theorem dX8_drop_38 : decode cX8_drop 38 = .ok (.getfield 110, 3) := by decide +kernel
theorem dX8_drop_41 : decode cX8_drop 41 = .ok (.invokevirtual 113, 3) := by decide +kernel
theorem dX8_drop_44 : decode cX8_drop 44 = .ok (.ireturn, 1) := by decide +kernel
theorem dX8_undo_0 : decode cX8_undo 0 = .ok (.aload_n 0, 1) := by decide +kernel
theorem dX8_undo_1 : decode cX8_undo 1 = .ok (.aload_n 0, 1) := by decide +kernel
theorem dX8_undo_2 : decode cX8_undo 2 = .ok (.getfield 48, 3) := by decide +kernel
theorem dX8_undo_5 : decode cX8_undo 5 = .ok (.invokevirtual 255, 3) := by decide +kernel
theorem dX8_undo_8 : decode cX8_undo 8 = .ok (.ireturn, 1) := by decide +kernel
theorem dX8_mark_0 : decode cX8_mark 0 = .ok (.aload_n 0, 1) := by decide +kernel
theorem dX8_mark_1 : decode cX8_mark 1 = .ok (.getfield 52, 3) := by decide +kernel
theorem dX8_mark_4 : decode cX8_mark 4 = .ok (.invokevirtual 259, 3) := by decide +kernel
theorem dX8_mark_7 : decode cX8_mark 7 = .ok (.ifCond .eq 9, 3) := by decide +kernel
theorem dX8_mark_10 : decode cX8_mark 10 = .ok (.aload_n 0, 1) := by decide +kernel
theorem dX8_mark_11 : decode cX8_mark 11 = .ok (.iconst 3, 1) := by decide +kernel
theorem dX8_mark_12 : decode cX8_mark 12 = .ok (.invokevirtual 84, 3) := by decide +kernel
theorem dX8_mark_15 : decode cX8_mark 15 = .ok (.ireturn, 1) := by decide +kernel
theorem dX8_mark_16 : decode cX8_mark 16 = .ok (.aload_n 0, 1) := by decide +kernel
theorem dX8_mark_17 : decode cX8_mark 17 = .ok (.getfield 52, 3) := by decide +kernel
theorem dX8_mark_20 : decode cX8_mark 20 = .ok (.aload_n 0, 1) := by decide +kernel
theorem dX8_mark_21 : decode cX8_mark 21 = .ok (.getfield 32, 3) := by decide +kernel
theorem dX8_mark_24 : decode cX8_mark 24 = .ok (.invokevirtual 263, 3) := by decide +kernel
theorem dX8_mark_27 : decode cX8_mark 27 = .ok (.aload_n 0, 1) := by decide +kernel
theorem dX8_mark_28 : decode cX8_mark 28 = .ok (.aload_n 0, 1) := by decide +kernel
theorem dX8_mark_29 : decode cX8_mark 29 = .ok (.getfield 52, 3) := by decide +kernel
theorem dX8_mark_32 : decode cX8_mark 32 = .ok (.getfield 133, 3) := by decide +kernel
theorem dX8_mark_35 : decode cX8_mark 35 = .ok (.invokevirtual 113, 3) := by decide +kernel
theorem dX8_mark_38 : decode cX8_mark 38 = .ok (.ireturn, 1) := by decide +kernel
theorem dX8_back_0 : decode cX8_back 0 = .ok (.aload_n 0, 1) := by decide +kernel
theorem dX8_back_1 : decode cX8_back 1 = .ok (.aload_n 0, 1) := by decide +kernel
theorem dX8_back_2 : decode cX8_back 2 = .ok (.getfield 52, 3) := by decide +kernel
theorem dX8_back_5 : decode cX8_back 5 = .ok (.invokevirtual 255, 3) := by decide +kernel
theorem dX8_back_8 : decode cX8_back 8 = .ok (.ireturn, 1) := by decide +kernel
theorem dX8_alike_0 : decode cX8_alike 0 = .ok (.aload_n 0, 1) := by decide +kernel
theorem dX8_alike_1 : decode cX8_alike 1 = .ok (.iload_n 1, 1) := by decide +kernel
theorem dX8_alike_2 : decode cX8_alike 2 = .ok (.iload_n 2, 1) := by decide +kernel
theorem dX8_alike_3 : decode cX8_alike 3 = .ok (.iconst 1, 1) := by decide +kernel
theorem dX8_alike_4 : decode cX8_alike 4 = .ok (.invokevirtual 168, 3) := by decide +kernel
theorem dX8_alike_7 : decode cX8_alike 7 = .ok (.istore 5, 2) := by decide +kernel
theorem dX8_alike_9 : decode cX8_alike 9 = .ok (.aload_n 0, 1) := by decide +kernel
theorem dX8_alike_10 : decode cX8_alike 10 = .ok (.iload_n 3, 1) := by decide +kernel
theorem dX8_alike_11 : decode cX8_alike 11 = .ok (.iload 4, 2) := by decide +kernel
theorem dX8_alike_13 : decode cX8_alike 13 = .ok (.iconst 1, 1) := by decide +kernel
theorem dX8_alike_14 : decode cX8_alike 14 = .ok (.invokevirtual 168, 3) := by decide +kernel
theorem dX8_alike_17 : decode cX8_alike 17 = .ok (.istore 6, 2) := by decide +kernel
theorem dX8_alike_19 : decode cX8_alike 19 = .ok (.iload 5, 2) := by decide +kernel
theorem dX8_alike_21 : decode cX8_alike 21 = .ok (.ifCond .ne 8, 3) := by decide +kernel
theorem dX8_alike_24 : decode cX8_alike 24 = .ok (.iload 6, 2) := by decide +kernel
theorem dX8_alike_26 : decode cX8_alike 26 = .ok (.ifCond .eq 15, 3) := by decide +kernel
theorem dX8_alike_29 : decode cX8_alike 29 = .ok (.aload_n 0, 1) := by decide +kernel
theorem dX8_alike_30 : decode cX8_alike 30 = .ok (.iload 5, 2) := by decide +kernel
theorem dX8_alike_32 : decode cX8_alike 32 = .ok (.iload 6, 2) := by decide +kernel
theorem dX8_alike_34 : decode cX8_alike 34 = .ok (.invokestatic 266, 3) := by decide +kernel
theorem dX8_alike_37 : decode cX8_alike 37 = .ok (.invokevirtual 84, 3) := by decide +kernel
theorem dX8_alike_40 : decode cX8_alike 40 = .ok (.ireturn, 1) := by decide +kernel
theorem dX8_alike_41 : decode cX8_alike 41 = .ok (.aload_n 0, 1) := by decide +kernel
theorem dX8_alike_42 : decode cX8_alike 42 = .ok (.aload_n 0, 1) := by decide +kernel
theorem dX8_alike_43 : decode cX8_alike 43 = .ok (.getfield 32, 3) := by decide +kernel
theorem dX8_alike_46 : decode cX8_alike 46 = .ok (.iload_n 1, 1) := by decide +kernel
theorem dX8_alike_47 : decode cX8_alike 47 = .ok (.iload_n 2, 1) := by decide +kernel
theorem dX8_alike_48 : decode cX8_alike 48 = .ok (.iload_n 3, 1) := by decide +kernel
theorem dX8_alike_49 : decode cX8_alike 49 = .ok (.iload 4, 2) := by decide +kernel
theorem dX8_alike_51 : decode cX8_alike 51 = .ok (.invokevirtual 269, 3) := by decide +kernel
theorem dX8_alike_54 : decode cX8_alike 54 = .ok (.invokevirtual 113, 3) := by decide +kernel
theorem dX8_alike_57 : decode cX8_alike 57 = .ok (.ireturn, 1) := by decide +kernel
theorem dX8_against_0 : decode cX8_against 0 = .ok (.iload_n 3, 1) := by decide +kernel
theorem dX8_against_1 : decode cX8_against 1 = .ok (.ifCond .lt 8, 3) := by decide +kernel
theorem dX8_against_4 : decode cX8_against 4 = .ok (.iload_n 3, 1) := by decide +kernel
theorem dX8_against_5 : decode cX8_against 5 = .ok (.iconst 3, 1) := by decide +kernel
theorem dX8_against_6 : decode cX8_against 6 = .ok (.if_icmp .le 9, 3) := by decide +kernel
theorem dX8_against_9 : decode cX8_against 9 = .ok (.aload_n 0, 1) := by decide +kernel
theorem dX8_against_10 : decode cX8_against 10 = .ok (.iconst 1, 1) := by decide +kernel
theorem dX8_against_11 : decode cX8_against 11 = .ok (.invokevirtual 84, 3) := by decide +kernel
theorem dX8_against_14 : decode cX8_against 14 = .ok (.ireturn, 1) := by decide +kernel
theorem dX8_against_15 : decode cX8_against 15 = .ok (.aload_n 0, 1) := by decide +kernel
theorem dX8_against_16 : decode cX8_against 16 = .ok (.getfield 32, 3) := by decide +kernel
theorem dX8_against_19 : decode cX8_against 19 = .ok (.iload_n 1, 1) := by decide +kernel
theorem dX8_against_20 : decode cX8_against 20 = .ok (.invokevirtual 137, 3) := by decide +kernel
theorem dX8_against_23 : decode cX8_against 23 = .ok (.ifCond .eq 14, 3) := by decide +kernel
theorem dX8_against_26 : decode cX8_against 26 = .ok (.aload_n 0, 1) := by decide +kernel
theorem dX8_against_27 : decode cX8_against 27 = .ok (.getfield 32, 3) := by decide +kernel
theorem dX8_against_30 : decode cX8_against 30 = .ok (.iload_n 2, 1) := by decide +kernel
theorem dX8_against_31 : decode cX8_against 31 = .ok (.invokevirtual 137, 3) := by decide +kernel
theorem dX8_against_34 : decode cX8_against 34 = .ok (.ifCond .ne 9, 3) := by decide +kernel
theorem dX8_against_37 : decode cX8_against 37 = .ok (.aload_n 0, 1) := by decide +kernel
theorem dX8_against_38 : decode cX8_against 38 = .ok (.iconst 2, 1) := by decide +kernel
theorem dX8_against_39 : decode cX8_against 39 = .ok (.invokevirtual 84, 3) := by decide +kernel
theorem dX8_against_42 : decode cX8_against 42 = .ok (.ireturn, 1) := by decide +kernel
theorem dX8_against_43 : decode cX8_against 43 = .ok (.aload_n 0, 1) := by decide +kernel
theorem dX8_against_44 : decode cX8_against 44 = .ok (.getfield 32, 3) := by decide +kernel
theorem dX8_against_47 : decode cX8_against 47 = .ok (.iload_n 1, 1) := by decide +kernel
theorem dX8_against_48 : decode cX8_against 48 = .ok (.iload_n 2, 1) := by decide +kernel
theorem dX8_against_49 : decode cX8_against 49 = .ok (.invokevirtual 272, 3) := by decide +kernel
theorem dX8_against_52 : decode cX8_against 52 = .ok (.istore 4, 2) := by decide +kernel
theorem dX8_against_54 : decode cX8_against 54 = .ok (.iload_n 3, 1) := by decide +kernel
theorem dX8_against_55 : decode cX8_against 55 = .ok (.tableswitch 85 0 2 #[25, 50, 74], 25) := by decide +kernel
theorem dX8_against_80 : decode cX8_against 80 = .ok (.aload_n 0, 1) := by decide +kernel
theorem dX8_against_81 : decode cX8_against 81 = .ok (.iload 4, 2) := by decide +kernel
theorem dX8_against_83 : decode cX8_against 83 = .ok (.ifCond .ne 7, 3) := by decide +kernel
theorem dX8_against_86 : decode cX8_against 86 = .ok (.iconst (-1), 1) := by decide +kernel
theorem dX8_against_87 : decode cX8_against 87 = .ok (.goto 14, 3) := by decide +kernel
theorem dX8_against_90 : decode cX8_against 90 = .ok (.aload_n 0, 1) := by decide +kernel
theorem dX8_against_91 : decode cX8_against 91 = .ok (.getfield 32, 3) := by decide +kernel
theorem dX8_against_94 : decode cX8_against 94 = .ok (.iload_n 1, 1) := by decide +kernel
theorem dX8_against_95 : decode cX8_against 95 = .ok (.iconst 0, 1) := by decide +kernel
theorem dX8_against_96 : decode cX8_against 96 = .ok (.iload_n 2, 1) := by decide +kernel
theorem dX8_against_97 : decode cX8_against 97 = .ok (.iconst 0, 1) := by decide +kernel
theorem dX8_against_98 : decode cX8_against 98 = .ok (.invokevirtual 269, 3) := by decide +kernel
theorem dX8_against_101 : decode cX8_against 101 = .ok (.invokevirtual 113, 3) := by decide +kernel
theorem dX8_against_104 : decode cX8_against 104 = .ok (.ireturn, 1) := by decide +kernel
theorem dX8_against_105 : decode cX8_against 105 = .ok (.aload_n 0, 1) := by decide +kernel
theorem dX8_against_106 : decode cX8_against 106 = .ok (.iload 4, 2) := by decide +kernel
theorem dX8_against_108 : decode cX8_against 108 = .ok (.ifCond .ge 7, 3) := by decide +kernel
theorem dX8_against_111 : decode cX8_against 111 = .ok (.iconst 1, 1) := by decide +kernel
theorem dX8_against_112 : decode cX8_against 112 = .ok (.goto 13, 3) := by decide +kernel
theorem dX8_against_115 : decode cX8_against 115 = .ok (.iload 4, 2) := by decide +kernel
theorem dX8_against_117 : decode cX8_against 117 = .ok (.ifCond .le 7, 3) := by decide +kernel
theorem dX8_against_120 : decode cX8_against 120 = .ok (.iconst 2, 1) := by decide +kernel
theorem dX8_against_121 : decode cX8_against 121 = .ok (.goto 4, 3) := by decide +kernel
theorem dX8_against_124 : decode cX8_against 124 = .ok (.iconst 0, 1) := by decide +kernel
theorem dX8_against_125 : decode cX8_against 125 = .ok (.invokevirtual 113, 3) := by decide +kernel
theorem dX8_against_128 : decode cX8_against 128 = .ok (.ireturn, 1) := by decide +kernel
theorem dX8_against_129 : decode cX8_against 129 = .ok (.aload_n 0, 1) := by decide +kernel
theorem dX8_against_130 : decode cX8_against 130 = .ok (.aload_n 0, 1) := by decide +kernel
theorem dX8_against_131 : decode cX8_against 131 = .ok (.iload_n 1, 1) := by decide +kernel
theorem dX8_against_132 : decode cX8_against 132 = .ok (.iload_n 2, 1) := by decide +kernel
theorem dX8_against_133 : decode cX8_against 133 = .ok (.invokevirtual 275, 3) := by decide +kernel
theorem dX8_against_136 : decode cX8_against 136 = .ok (.invokevirtual 113, 3) := by decide +kernel
theorem dX8_against_139 : decode cX8_against 139 = .ok (.ireturn, 1) := by decide +kernel
theorem dX8_against_140 : decode cX8_against 140 = .ok (.aload_n 0, 1) := by decide +kernel
theorem dX8_against_141 : decode cX8_against 141 = .ok (.aload_n 0, 1) := by decide +kernel
theorem dX8_against_142 : decode cX8_against 142 = .ok (.getfield 32, 3) := by decide +kernel
theorem dX8_against_145 : decode cX8_against 145 = .ok (.iload_n 1, 1) := by decide +kernel
theorem dX8_against_146 : decode cX8_against 146 = .ok (.invokevirtual 147, 3) := by decide +kernel
theorem dX8_against_149 : decode cX8_against 149 = .ok (.aload_n 0, 1) := by decide +kernel
theorem dX8_against_150 : decode cX8_against 150 = .ok (.getfield 32, 3) := by decide +kernel
theorem dX8_against_153 : decode cX8_against 153 = .ok (.iload_n 2, 1) := by decide +kernel
theorem dX8_against_154 : decode cX8_against 154 = .ok (.invokevirtual 147, 3) := by decide +kernel
theorem dX8_against_157 : decode cX8_against 157 = .ok (.if_icmp .ne 7, 3) := by decide +kernel
theorem dX8_against_160 : decode cX8_against 160 = .ok (.iconst 1, 1) := by decide +kernel
theorem dX8_against_161 : decode cX8_against 161 = .ok (.goto 4, 3) := by decide +kernel
theorem dX8_against_164 : decode cX8_against 164 = .ok (.iconst 0, 1) := by decide +kernel
theorem dX8_against_165 : decode cX8_against 165 = .ok (.invokevirtual 113, 3) := by decide +kernel
theorem dX8_against_168 : decode cX8_against 168 = .ok (.ireturn, 1) := by decide +kernel
theorem dX8_find_0 : decode cX8_find 0 = .ok (.iload_n 3, 1) := by decide +kernel
theorem dX8_find_1 : decode cX8_find 1 = .ok (.ifCond .ge 9, 3) := by decide +kernel
theorem dX8_find_4 : decode cX8_find 4 = .ok (.aload_n 0, 1) := by decide +kernel
theorem dX8_find_5 : decode cX8_find 5 = .ok (.iconst 1, 1) := by decide +kernel
theorem dX8_find_6 : decode cX8_find 6 = .ok (.invokevirtual 84, 3) := by decide +kernel
theorem dX8_find_9 : decode cX8_find 9 = .ok (.ireturn, 1) := by decide +kernel
theorem dX8_find_10 : decode cX8_find 10 = .ok (.aload_n 0, 1) := by decide +kernel
theorem dX8_find_11 : decode cX8_find 11 = .ok (.getfield 32, 3) := by decide +kernel
theorem dX8_find_14 : decode cX8_find 14 = .ok (.iload_n 1, 1) := by decide +kernel
theorem dX8_find_15 : decode cX8_find 15 = .ok (.invokevirtual 137, 3) := by decide +kernel
theorem dX8_find_18 : decode cX8_find 18 = .ok (.ifCond .eq 14, 3) := by decide +kernel
theorem dX8_find_21 : decode cX8_find 21 = .ok (.aload_n 0, 1) := by decide +kernel
theorem dX8_find_22 : decode cX8_find 22 = .ok (.getfield 32, 3) := by decide +kernel
theorem dX8_find_25 : decode cX8_find 25 = .ok (.iload_n 2, 1) := by decide +kernel
theorem dX8_find_26 : decode cX8_find 26 = .ok (.invokevirtual 137, 3) := by decide +kernel
theorem dX8_find_29 : decode cX8_find 29 = .ok (.ifCond .ne 9, 3) := by decide +kernel
theorem dX8_find_32 : decode cX8_find 32 = .ok (.aload_n 0, 1) := by decide +kernel
theorem dX8_find_33 : decode cX8_find 33 = .ok (.iconst 2, 1) := by decide +kernel
theorem dX8_find_34 : decode cX8_find 34 = .ok (.invokevirtual 84, 3) := by decide +kernel
theorem dX8_find_37 : decode cX8_find 37 = .ok (.ireturn, 1) := by decide +kernel
theorem dX8_find_38 : decode cX8_find 38 = .ok (.aload_n 0, 1) := by decide +kernel
theorem dX8_find_39 : decode cX8_find 39 = .ok (.getfield 70, 3) := by decide +kernel
theorem dX8_find_42 : decode cX8_find 42 = .ok (.aload_n 0, 1) := by decide +kernel
theorem dX8_find_43 : decode cX8_find 43 = .ok (.getfield 32, 3) := by decide +kernel
theorem dX8_find_46 : decode cX8_find 46 = .ok (.iload_n 1, 1) := by decide +kernel
theorem dX8_find_47 : decode cX8_find 47 = .ok (.iload_n 2, 1) := by decide +kernel
theorem dX8_find_48 : decode cX8_find 48 = .ok (.iload_n 3, 1) := by decide +kernel
theorem dX8_find_49 : decode cX8_find 49 = .ok (.invokevirtual 278, 3) := by decide +kernel
theorem dX8_find_52 : decode cX8_find 52 = .ok (.istore 4, 2) := by decide +kernel
theorem dX8_find_54 : decode cX8_find 54 = .ok (.iload 4, 2) := by decide +kernel
theorem dX8_find_56 : decode cX8_find 56 = .ok (.iconst (-1), 1) := by decide +kernel
theorem dX8_find_57 : decode cX8_find 57 = .ok (.if_icmp .ne 11, 3) := by decide +kernel
theorem dX8_find_60 : decode cX8_find 60 = .ok (.aload_n 0, 1) := by decide +kernel
theorem dX8_find_61 : decode cX8_find 61 = .ok (.iconst 5, 1) := by decide +kernel
theorem dX8_find_62 : decode cX8_find 62 = .ok (.invokevirtual 84, 3) := by decide +kernel
theorem dX8_find_65 : decode cX8_find 65 = .ok (.goto 9, 3) := by decide +kernel
theorem dX8_find_68 : decode cX8_find 68 = .ok (.aload_n 0, 1) := by decide +kernel
theorem dX8_find_69 : decode cX8_find 69 = .ok (.iload 4, 2) := by decide +kernel
theorem dX8_find_71 : decode cX8_find 71 = .ok (.invokevirtual 113, 3) := by decide +kernel
theorem dX8_find_74 : decode cX8_find 74 = .ok (.ireturn, 1) := by decide +kernel
theorem dX8_finds_0 : decode cX8_finds 0 = .ok (.aload_n 0, 1) := by decide +kernel
theorem dX8_finds_1 : decode cX8_finds 1 = .ok (.getfield 32, 3) := by decide +kernel
theorem dX8_finds_4 : decode cX8_finds 4 = .ok (.iload_n 1, 1) := by decide +kernel
theorem dX8_finds_5 : decode cX8_finds 5 = .ok (.invokevirtual 137, 3) := by decide +kernel
theorem dX8_finds_8 : decode cX8_finds 8 = .ok (.ifCond .eq 14, 3) := by decide +kernel
theorem dX8_finds_11 : decode cX8_finds 11 = .ok (.aload_n 0, 1) := by decide +kernel
theorem dX8_finds_12 : decode cX8_finds 12 = .ok (.getfield 32, 3) := by decide +kernel
theorem dX8_finds_15 : decode cX8_finds 15 = .ok (.iload_n 2, 1) := by decide +kernel
theorem dX8_finds_16 : decode cX8_finds 16 = .ok (.invokevirtual 137, 3) := by decide +kernel
theorem dX8_finds_19 : decode cX8_finds 19 = .ok (.ifCond .ne 9, 3) := by decide +kernel
theorem dX8_finds_22 : decode cX8_finds 22 = .ok (.aload_n 0, 1) := by decide +kernel
theorem dX8_finds_23 : decode cX8_finds 23 = .ok (.iconst 2, 1) := by decide +kernel
theorem dX8_finds_24 : decode cX8_finds 24 = .ok (.invokevirtual 84, 3) := by decide +kernel
theorem dX8_finds_27 : decode cX8_finds 27 = .ok (.ireturn, 1) := by decide +kernel
theorem dX8_finds_28 : decode cX8_finds 28 = .ok (.aload_n 0, 1) := by decide +kernel
theorem dX8_finds_29 : decode cX8_finds 29 = .ok (.aload_n 0, 1) := by decide +kernel
theorem dX8_finds_30 : decode cX8_finds 30 = .ok (.getfield 70, 3) := by decide +kernel
theorem dX8_finds_33 : decode cX8_finds 33 = .ok (.aload_n 0, 1) := by decide +kernel
theorem dX8_finds_34 : decode cX8_finds 34 = .ok (.getfield 32, 3) := by decide +kernel
theorem dX8_finds_37 : decode cX8_finds 37 = .ok (.iload_n 1, 1) := by decide +kernel
theorem dX8_finds_38 : decode cX8_finds 38 = .ok (.iload_n 2, 1) := by decide +kernel
theorem dX8_finds_39 : decode cX8_finds 39 = .ok (.invokevirtual 282, 3) := by decide +kernel
theorem dX8_finds_42 : decode cX8_finds 42 = .ok (.invokevirtual 113, 3) := by decide +kernel
theorem dX8_finds_45 : decode cX8_finds 45 = .ok (.ireturn, 1) := by decide +kernel
theorem dX8_mirror_0 : decode cX8_mirror 0 = .ok (.aload_n 0, 1) := by decide +kernel
theorem dX8_mirror_1 : decode cX8_mirror 1 = .ok (.iload_n 1, 1) := by decide +kernel
theorem dX8_mirror_2 : decode cX8_mirror 2 = .ok (.iload_n 2, 1) := by decide +kernel
theorem dX8_mirror_3 : decode cX8_mirror 3 = .ok (.iconst 0, 1) := by decide +kernel
theorem dX8_mirror_4 : decode cX8_mirror 4 = .ok (.invokevirtual 168, 3) := by decide +kernel
theorem dX8_mirror_7 : decode cX8_mirror 7 = .ok (.istore 4, 2) := by decide +kernel
theorem dX8_mirror_9 : decode cX8_mirror 9 = .ok (.iload 4, 2) := by decide +kernel
theorem dX8_mirror_11 : decode cX8_mirror 11 = .ok (.ifCond .eq 10, 3) := by decide +kernel
theorem dX8_mirror_14 : decode cX8_mirror 14 = .ok (.aload_n 0, 1) := by decide +kernel
theorem dX8_mirror_15 : decode cX8_mirror 15 = .ok (.iload 4, 2) := by decide +kernel
theorem dX8_mirror_17 : decode cX8_mirror 17 = .ok (.invokevirtual 84, 3) := by decide +kernel
theorem dX8_mirror_20 : decode cX8_mirror 20 = .ok (.ireturn, 1) := by decide +kernel
theorem dX8_mirror_21 : decode cX8_mirror 21 = .ok (.iload_n 3, 1) := by decide +kernel
theorem dX8_mirror_22 : decode cX8_mirror 22 = .ok (.ifCond .eq 22, 3) := by decide +kernel
theorem dX8_mirror_25 : decode cX8_mirror 25 = .ok (.aload_n 0, 1) := by decide +kernel
theorem dX8_mirror_26 : decode cX8_mirror 26 = .ok (.iconst 2, 1) := by decide +kernel
theorem dX8_mirror_27 : decode cX8_mirror 27 = .ok (.aload_n 0, 1) := by decide +kernel
theorem dX8_mirror_28 : decode cX8_mirror 28 = .ok (.getfield 32, 3) := by decide +kernel
theorem dX8_mirror_31 : decode cX8_mirror 31 = .ok (.iload_n 1, 1) := by decide +kernel
theorem dX8_mirror_32 : decode cX8_mirror 32 = .ok (.iload_n 2, 1) := by decide +kernel
theorem dX8_mirror_33 : decode cX8_mirror 33 = .ok (.iconst 1, 1) := by decide +kernel
theorem dX8_mirror_34 : decode cX8_mirror 34 = .ok (.isub, 1) := by decide +kernel
theorem dX8_mirror_35 : decode cX8_mirror 35 = .ok (.iload_n 2, 1) := by decide +kernel
theorem dX8_mirror_36 : decode cX8_mirror 36 = .ok (.invokevirtual 286, 3) := by decide +kernel
theorem dX8_mirror_39 : decode cX8_mirror 39 = .ok (.imul, 1) := by decide +kernel
theorem dX8_mirror_40 : decode cX8_mirror 40 = .ok (.invokevirtual 113, 3) := by decide +kernel
theorem dX8_mirror_43 : decode cX8_mirror 43 = .ok (.ireturn, 1) := by decide +kernel
theorem dX8_mirror_44 : decode cX8_mirror 44 = .ok (.aload_n 0, 1) := by decide +kernel
theorem dX8_mirror_45 : decode cX8_mirror 45 = .ok (.iconst 2, 1) := by decide +kernel
theorem dX8_mirror_46 : decode cX8_mirror 46 = .ok (.aload_n 0, 1) := by decide +kernel
theorem dX8_mirror_47 : decode cX8_mirror 47 = .ok (.getfield 32, 3) := by decide +kernel
theorem dX8_mirror_50 : decode cX8_mirror 50 = .ok (.iload_n 1, 1) := by decide +kernel
theorem dX8_mirror_51 : decode cX8_mirror 51 = .ok (.iload_n 2, 1) := by decide +kernel
theorem dX8_mirror_52 : decode cX8_mirror 52 = .ok (.iconst 1, 1) := by decide +kernel
theorem dX8_mirror_53 : decode cX8_mirror 53 = .ok (.isub, 1) := by decide +kernel
theorem dX8_mirror_54 : decode cX8_mirror 54 = .ok (.iload_n 2, 1) := by decide +kernel
theorem dX8_mirror_55 : decode cX8_mirror 55 = .ok (.iconst 1, 1) := by decide +kernel
theorem dX8_mirror_56 : decode cX8_mirror 56 = .ok (.iadd, 1) := by decide +kernel
theorem dX8_mirror_57 : decode cX8_mirror 57 = .ok (.invokevirtual 286, 3) := by decide +kernel
theorem dX8_mirror_60 : decode cX8_mirror 60 = .ok (.imul, 1) := by decide +kernel
theorem dX8_mirror_61 : decode cX8_mirror 61 = .ok (.iconst 1, 1) := by decide +kernel
theorem dX8_mirror_62 : decode cX8_mirror 62 = .ok (.iadd, 1) := by decide +kernel
theorem dX8_mirror_63 : decode cX8_mirror 63 = .ok (.invokevirtual 113, 3) := by decide +kernel
theorem dX8_mirror_66 : decode cX8_mirror 66 = .ok (.ireturn, 1) := by decide +kernel
theorem dX8_rank_0 : decode cX8_rank 0 = .ok (.iload_n 2, 1) := by decide +kernel
theorem dX8_rank_1 : decode cX8_rank 1 = .ok (.invokestatic 243, 3) := by decide +kernel
theorem dX8_rank_4 : decode cX8_rank 4 = .ok (.ifCond .eq 13, 3) := by decide +kernel
theorem dX8_rank_7 : decode cX8_rank 7 = .ok (.aload_n 0, 1) := by decide +kernel
theorem dX8_rank_8 : decode cX8_rank 8 = .ok (.iload_n 1, 1) := by decide +kernel
theorem dX8_rank_9 : decode cX8_rank 9 = .ok (.iload_n 3, 1) := by decide +kernel
theorem dX8_rank_10 : decode cX8_rank 10 = .ok (.iconst 1, 1) := by decide +kernel
theorem dX8_rank_11 : decode cX8_rank 11 = .ok (.invokevirtual 168, 3) := by decide +kernel
theorem dX8_rank_14 : decode cX8_rank 14 = .ok (.goto 4, 3) := by decide +kernel
theorem dX8_rank_17 : decode cX8_rank 17 = .ok (.iconst 1, 1) := by decide +kernel
theorem dX8_rank_18 : decode cX8_rank 18 = .ok (.istore 4, 2) := by decide +kernel
theorem dX8_rank_20 : decode cX8_rank 20 = .ok (.iload 4, 2) := by decide +kernel
theorem dX8_rank_22 : decode cX8_rank 22 = .ok (.ifCond .eq 12, 3) := by decide +kernel
theorem dX8_rank_25 : decode cX8_rank 25 = .ok (.aload_n 0, 1) := by decide +kernel
theorem dX8_rank_26 : decode cX8_rank 26 = .ok (.iload 4, 2) := by decide +kernel
theorem dX8_rank_28 : decode cX8_rank 28 = .ok (.invokevirtual 84, 3) := by decide +kernel
theorem dX8_rank_31 : decode cX8_rank 31 = .ok (.goto 17, 3) := by decide +kernel
theorem dX8_rank_34 : decode cX8_rank 34 = .ok (.aload_n 0, 1) := by decide +kernel
theorem dX8_rank_35 : decode cX8_rank 35 = .ok (.aload_n 0, 1) := by decide +kernel
theorem dX8_rank_36 : decode cX8_rank 36 = .ok (.getfield 32, 3) := by decide +kernel
theorem dX8_rank_39 : decode cX8_rank 39 = .ok (.iload_n 1, 1) := by decide +kernel
theorem dX8_rank_40 : decode cX8_rank 40 = .ok (.iload_n 2, 1) := by decide +kernel
theorem dX8_rank_41 : decode cX8_rank 41 = .ok (.iload_n 3, 1) := by decide +kernel
theorem dX8_rank_42 : decode cX8_rank 42 = .ok (.invokevirtual 246, 3) := by decide +kernel
theorem dX8_rank_45 : decode cX8_rank 45 = .ok (.invokevirtual 113, 3) := by decide +kernel
theorem dX8_rank_48 : decode cX8_rank 48 = .ok (.ireturn, 1) := by decide +kernel
theorem dX8_select_0 : decode cX8_select 0 = .ok (.iload_n 2, 1) := by decide +kernel
theorem dX8_select_1 : decode cX8_select 1 = .ok (.invokestatic 243, 3) := by decide +kernel
theorem dX8_select_4 : decode cX8_select 4 = .ok (.ifCond .eq 7, 3) := by decide +kernel
theorem dX8_select_7 : decode cX8_select 7 = .ok (.iload_n 3, 1) := by decide +kernel
theorem dX8_select_8 : decode cX8_select 8 = .ok (.ifCond .ge 9, 3) := by decide +kernel
theorem dX8_select_11 : decode cX8_select 11 = .ok (.aload_n 0, 1) := by decide +kernel
theorem dX8_select_12 : decode cX8_select 12 = .ok (.iconst 1, 1) := by decide +kernel
theorem dX8_select_13 : decode cX8_select 13 = .ok (.invokevirtual 84, 3) := by decide +kernel
theorem dX8_select_16 : decode cX8_select 16 = .ok (.ireturn, 1) := by decide +kernel
theorem dX8_select_17 : decode cX8_select 17 = .ok (.aload_n 0, 1) := by decide +kernel
theorem dX8_select_18 : decode cX8_select 18 = .ok (.getfield 32, 3) := by decide +kernel
theorem dX8_select_21 : decode cX8_select 21 = .ok (.iload_n 1, 1) := by decide +kernel
theorem dX8_select_22 : decode cX8_select 22 = .ok (.invokevirtual 137, 3) := by decide +kernel
theorem dX8_select_25 : decode cX8_select 25 = .ok (.ifCond .ne 9, 3) := by decide +kernel
theorem dX8_select_28 : decode cX8_select 28 = .ok (.aload_n 0, 1) := by decide +kernel
theorem dX8_select_29 : decode cX8_select 29 = .ok (.iconst 2, 1) := by decide +kernel
theorem dX8_select_30 : decode cX8_select 30 = .ok (.invokevirtual 84, 3) := by decide +kernel
theorem dX8_select_33 : decode cX8_select 33 = .ok (.ireturn, 1) := by decide +kernel
theorem dX8_select_34 : decode cX8_select 34 = .ok (.aload_n 0, 1) := by decide +kernel
theorem dX8_select_35 : decode cX8_select 35 = .ok (.getfield 32, 3) := by decide +kernel
theorem dX8_select_38 : decode cX8_select 38 = .ok (.iload_n 1, 1) := by decide +kernel
theorem dX8_select_39 : decode cX8_select 39 = .ok (.iload_n 2, 1) := by decide +kernel
theorem dX8_select_40 : decode cX8_select 40 = .ok (.iload_n 3, 1) := by decide +kernel
theorem dX8_select_41 : decode cX8_select 41 = .ok (.invokevirtual 289, 3) := by decide +kernel
theorem dX8_select_44 : decode cX8_select 44 = .ok (.istore 4, 2) := by decide +kernel
theorem dX8_select_46 : decode cX8_select 46 = .ok (.iload 4, 2) := by decide +kernel
theorem dX8_select_48 : decode cX8_select 48 = .ok (.iconst (-1), 1) := by decide +kernel
theorem dX8_select_49 : decode cX8_select 49 = .ok (.if_icmp .ne 11, 3) := by decide +kernel
theorem dX8_select_52 : decode cX8_select 52 = .ok (.aload_n 0, 1) := by decide +kernel
theorem dX8_select_53 : decode cX8_select 53 = .ok (.iconst 5, 1) := by decide +kernel
theorem dX8_select_54 : decode cX8_select 54 = .ok (.invokevirtual 84, 3) := by decide +kernel
theorem dX8_select_57 : decode cX8_select 57 = .ok (.goto 9, 3) := by decide +kernel
theorem dX8_select_60 : decode cX8_select 60 = .ok (.aload_n 0, 1) := by decide +kernel
theorem dX8_select_61 : decode cX8_select 61 = .ok (.iload 4, 2) := by decide +kernel
theorem dX8_select_63 : decode cX8_select 63 = .ok (.invokevirtual 113, 3) := by decide +kernel
theorem dX8_select_66 : decode cX8_select 66 = .ok (.ireturn, 1) := by decide +kernel
theorem dX8_sorted_0 : decode cX8_sorted 0 = .ok (.iload_n 1, 1) := by decide +kernel
theorem dX8_sorted_1 : decode cX8_sorted 1 = .ok (.ifCond .ge 9, 3) := by decide +kernel
theorem dX8_sorted_4 : decode cX8_sorted 4 = .ok (.aload_n 0, 1) := by decide +kernel
theorem dX8_sorted_5 : decode cX8_sorted 5 = .ok (.iconst 1, 1) := by decide +kernel
theorem dX8_sorted_6 : decode cX8_sorted 6 = .ok (.invokevirtual 84, 3) := by decide +kernel
theorem dX8_sorted_9 : decode cX8_sorted 9 = .ok (.ireturn, 1) := by decide +kernel
theorem dX8_sorted_10 : decode cX8_sorted 10 = .ok (.iconst 0, 1) := by decide +kernel
theorem dX8_sorted_11 : decode cX8_sorted 11 = .ok (.istore_n 2, 1) := by decide +kernel
theorem dX8_sorted_12 : decode cX8_sorted 12 = .ok (.iload_n 2, 1) := by decide +kernel
theorem dX8_sorted_13 : decode cX8_sorted 13 = .ok (.aload_n 0, 1) := by decide +kernel
theorem dX8_sorted_14 : decode cX8_sorted 14 = .ok (.getfield 32, 3) := by decide +kernel
theorem dX8_sorted_17 : decode cX8_sorted 17 = .ok (.getfield 110, 3) := by decide +kernel
theorem dX8_sorted_20 : decode cX8_sorted 20 = .ok (.if_icmp .ge 27, 3) := by decide +kernel
theorem dX8_sorted_23 : decode cX8_sorted 23 = .ok (.aload_n 0, 1) := by decide +kernel
theorem dX8_sorted_24 : decode cX8_sorted 24 = .ok (.getfield 32, 3) := by decide +kernel
theorem dX8_sorted_27 : decode cX8_sorted 27 = .ok (.iload_n 2, 1) := by decide +kernel
theorem dX8_sorted_28 : decode cX8_sorted 28 = .ok (.invokevirtual 292, 3) := by decide +kernel
theorem dX8_sorted_31 : decode cX8_sorted 31 = .ok (.iload_n 1, 1) := by decide +kernel
theorem dX8_sorted_32 : decode cX8_sorted 32 = .ok (.if_icmp .ne 9, 3) := by decide +kernel
theorem dX8_sorted_35 : decode cX8_sorted 35 = .ok (.aload_n 0, 1) := by decide +kernel
theorem dX8_sorted_36 : decode cX8_sorted 36 = .ok (.iload_n 2, 1) := by decide +kernel
theorem dX8_sorted_37 : decode cX8_sorted 37 = .ok (.invokevirtual 113, 3) := by decide +kernel
theorem dX8_sorted_40 : decode cX8_sorted 40 = .ok (.ireturn, 1) := by decide +kernel
theorem dX8_sorted_41 : decode cX8_sorted 41 = .ok (.iinc 2 1, 3) := by decide +kernel
theorem dX8_sorted_44 : decode cX8_sorted 44 = .ok (.goto (-32), 3) := by decide +kernel
theorem dX8_sorted_47 : decode cX8_sorted 47 = .ok (.aload_n 0, 1) := by decide +kernel
theorem dX8_sorted_48 : decode cX8_sorted 48 = .ok (.iconst 5, 1) := by decide +kernel
theorem dX8_sorted_49 : decode cX8_sorted 49 = .ok (.invokevirtual 84, 3) := by decide +kernel
theorem dX8_sorted_52 : decode cX8_sorted 52 = .ok (.ireturn, 1) := by decide +kernel
theorem dX8_would_0 : decode cX8_would 0 = .ok (.aload_n 0, 1) := by decide +kernel
theorem dX8_would_1 : decode cX8_would 1 = .ok (.iload_n 1, 1) := by decide +kernel
theorem dX8_would_2 : decode cX8_would 2 = .ok (.iload_n 2, 1) := by decide +kernel
theorem dX8_would_3 : decode cX8_would 3 = .ok (.iload_n 3, 1) := by decide +kernel
theorem dX8_would_4 : decode cX8_would 4 = .ok (.iload 4, 2) := by decide +kernel
theorem dX8_would_6 : decode cX8_would 6 = .ok (.invokevirtual 220, 3) := by decide +kernel
theorem dX8_would_9 : decode cX8_would 9 = .ok (.istore 5, 2) := by decide +kernel
theorem dX8_would_11 : decode cX8_would 11 = .ok (.iload 5, 2) := by decide +kernel
theorem dX8_would_13 : decode cX8_would 13 = .ok (.ifCond .eq 10, 3) := by decide +kernel
theorem dX8_would_16 : decode cX8_would 16 = .ok (.aload_n 0, 1) := by decide +kernel
theorem dX8_would_17 : decode cX8_would 17 = .ok (.iload 5, 2) := by decide +kernel
theorem dX8_would_19 : decode cX8_would 19 = .ok (.invokevirtual 84, 3) := by decide +kernel
theorem dX8_would_22 : decode cX8_would 22 = .ok (.ireturn, 1) := by decide +kernel
theorem dX8_would_23 : decode cX8_would 23 = .ok (.aload_n 0, 1) := by decide +kernel
theorem dX8_would_24 : decode cX8_would 24 = .ok (.iload_n 1, 1) := by decide +kernel
theorem dX8_would_25 : decode cX8_would 25 = .ok (.iload_n 2, 1) := by decide +kernel
theorem dX8_would_26 : decode cX8_would 26 = .ok (.iload_n 3, 1) := by decide +kernel
theorem dX8_would_27 : decode cX8_would 27 = .ok (.iload 4, 2) := by decide +kernel
theorem dX8_would_29 : decode cX8_would 29 = .ok (.invokevirtual 224, 3) := by decide +kernel
theorem dX8_would_32 : decode cX8_would 32 = .ok (.aload_n 0, 1) := by decide +kernel
theorem dX8_would_33 : decode cX8_would 33 = .ok (.sipush 600, 3) := by decide +kernel
theorem dX8_would_36 : decode cX8_would 36 = .ok (.invokevirtual 94, 3) := by decide +kernel
theorem dX8_would_39 : decode cX8_would 39 = .ok (.aload_n 0, 1) := by decide +kernel
theorem dX8_would_40 : decode cX8_would 40 = .ok (.getfield 58, 3) := by decide +kernel
theorem dX8_would_43 : decode cX8_would 43 = .ok (.invokevirtual 123, 3) := by decide +kernel
theorem dX8_would_46 : decode cX8_would 46 = .ok (.aload_n 0, 1) := by decide +kernel
theorem dX8_would_47 : decode cX8_would 47 = .ok (.invokevirtual 126, 3) := by decide +kernel
theorem dX8_would_50 : decode cX8_would 50 = .ok (.pop, 1) := by decide +kernel
theorem dX8_would_51 : decode cX8_would 51 = .ok (.aload_n 0, 1) := by decide +kernel
theorem dX8_would_52 : decode cX8_would 52 = .ok (.aload_n 0, 1) := by decide +kernel
theorem dX8_would_53 : decode cX8_would 53 = .ok (.getfield 58, 3) := by decide +kernel
theorem dX8_would_56 : decode cX8_would 56 = .ok (.aload_n 0, 1) := by decide +kernel
theorem dX8_would_57 : decode cX8_would 57 = .ok (.getfield 66, 3) := by decide +kernel
theorem dX8_would_60 : decode cX8_would 60 = .ok (.aload_n 0, 1) := by decide +kernel
theorem dX8_would_61 : decode cX8_would 61 = .ok (.getfield 41, 3) := by decide +kernel
theorem dX8_would_64 : decode cX8_would 64 = .ok (.getfield 295, 3) := by decide +kernel
theorem dX8_would_67 : decode cX8_would 67 = .ok (.iconst 0, 1) := by decide +kernel
theorem dX8_would_68 : decode cX8_would 68 = .ok (.aload_n 0, 1) := by decide +kernel
theorem dX8_would_69 : decode cX8_would 69 = .ok (.getfield 41, 3) := by decide +kernel
theorem dX8_would_72 : decode cX8_would 72 = .ok (.getfield 298, 3) := by decide +kernel
theorem dX8_would_75 : decode cX8_would 75 = .ok (.invokevirtual 301, 3) := by decide +kernel
theorem dX8_would_78 : decode cX8_would 78 = .ok (.invokevirtual 305, 3) := by decide +kernel
theorem dX8_would_81 : decode cX8_would 81 = .ok (.invokevirtual 113, 3) := by decide +kernel
theorem dX8_would_84 : decode cX8_would 84 = .ok (.ireturn, 1) := by decide +kernel
theorem dX8_answer_0 : decode cX8_answer 0 = .ok (.aload_n 0, 1) := by decide +kernel
theorem dX8_answer_1 : decode cX8_answer 1 = .ok (.iconst 0, 1) := by decide +kernel
theorem dX8_answer_2 : decode cX8_answer 2 = .ok (.putfield 74, 3) := by decide +kernel
theorem dX8_answer_5 : decode cX8_answer 5 = .ok (.iload_n 1, 1) := by decide +kernel
theorem dX8_answer_6 : decode cX8_answer 6 = .ok (.ireturn, 1) := by decide +kernel
theorem dX8_refuse_0 : decode cX8_refuse 0 = .ok (.aload_n 0, 1) := by decide +kernel
theorem dX8_refuse_1 : decode cX8_refuse 1 = .ok (.iload_n 1, 1) := by decide +kernel
theorem dX8_refuse_2 : decode cX8_refuse 2 = .ok (.putfield 74, 3) := by decide +kernel
theorem dX8_refuse_5 : decode cX8_refuse 5 = .ok (.iconst (-1), 1) := by decide +kernel
theorem dX8_refuse_6 : decode cX8_refuse 6 = .ok (.ireturn, 1) := by decide +kernel
theorem dX8_feedFour_0 : decode cX8_feedFour 0 = .ok (.bipush 24, 2) := by decide +kernel
theorem dX8_feedFour_2 : decode cX8_feedFour 2 = .ok (.istore_n 2, 1) := by decide +kernel
theorem dX8_feedFour_3 : decode cX8_feedFour 3 = .ok (.iload_n 2, 1) := by decide +kernel
theorem dX8_feedFour_4 : decode cX8_feedFour 4 = .ok (.ifCond .lt 42, 3) := by decide +kernel
theorem dX8_feedFour_7 : decode cX8_feedFour 7 = .ok (.aload_n 0, 1) := by decide +kernel
theorem dX8_feedFour_8 : decode cX8_feedFour 8 = .ok (.getfield 78, 3) := by decide +kernel
theorem dX8_feedFour_11 : decode cX8_feedFour 11 = .ok (.sipush 900, 3) := by decide +kernel
theorem dX8_feedFour_14 : decode cX8_feedFour 14 = .ok (.if_icmp .ge 32, 3) := by decide +kernel
theorem dX8_feedFour_17 : decode cX8_feedFour 17 = .ok (.aload_n 0, 1) := by decide +kernel
theorem dX8_feedFour_18 : decode cX8_feedFour 18 = .ok (.getfield 26, 3) := by decide +kernel
theorem dX8_feedFour_21 : decode cX8_feedFour 21 = .ok (.aload_n 0, 1) := by decide +kernel
theorem dX8_feedFour_22 : decode cX8_feedFour 22 = .ok (.getfield 78, 3) := by decide +kernel
theorem dX8_feedFour_25 : decode cX8_feedFour 25 = .ok (.iload_n 1, 1) := by decide +kernel
theorem dX8_feedFour_26 : decode cX8_feedFour 26 = .ok (.iload_n 2, 1) := by decide +kernel
theorem dX8_feedFour_27 : decode cX8_feedFour 27 = .ok (.iushr, 1) := by decide +kernel
theorem dX8_feedFour_28 : decode cX8_feedFour 28 = .ok (.i2b, 1) := by decide +kernel
theorem dX8_feedFour_29 : decode cX8_feedFour 29 = .ok (.bastore, 1) := by decide +kernel
theorem dX8_feedFour_30 : decode cX8_feedFour 30 = .ok (.aload_n 0, 1) := by decide +kernel
theorem dX8_feedFour_31 : decode cX8_feedFour 31 = .ok (.dup, 1) := by decide +kernel
theorem dX8_feedFour_32 : decode cX8_feedFour 32 = .ok (.getfield 78, 3) := by decide +kernel
theorem dX8_feedFour_35 : decode cX8_feedFour 35 = .ok (.iconst 1, 1) := by decide +kernel
theorem dX8_feedFour_36 : decode cX8_feedFour 36 = .ok (.iadd, 1) := by decide +kernel
theorem dX8_feedFour_37 : decode cX8_feedFour 37 = .ok (.putfield 78, 3) := by decide +kernel
theorem dX8_feedFour_40 : decode cX8_feedFour 40 = .ok (.iinc 2 (-8), 3) := by decide +kernel
theorem dX8_feedFour_43 : decode cX8_feedFour 43 = .ok (.goto (-40), 3) := by decide +kernel
theorem dX8_feedFour_46 : decode cX8_feedFour 46 = .ok (.return_, 1) := by decide +kernel
theorem dX8_isLetter_0 : decode cX8_isLetter 0 = .ok (.iload_n 0, 1) := by decide +kernel
theorem dX8_isLetter_1 : decode cX8_isLetter 1 = .ok (.ifCond .lt 13, 3) := by decide +kernel
theorem dX8_isLetter_4 : decode cX8_isLetter 4 = .ok (.iload_n 0, 1) := by decide +kernel
theorem dX8_isLetter_5 : decode cX8_isLetter 5 = .ok (.bipush 26, 2) := by decide +kernel
theorem dX8_isLetter_7 : decode cX8_isLetter 7 = .ok (.if_icmp .ge 7, 3) := by decide +kernel
theorem dX8_isLetter_10 : decode cX8_isLetter 10 = .ok (.iconst 1, 1) := by decide +kernel
theorem dX8_isLetter_11 : decode cX8_isLetter 11 = .ok (.goto 4, 3) := by decide +kernel
theorem dX8_isLetter_14 : decode cX8_isLetter 14 = .ok (.iconst 0, 1) := by decide +kernel
theorem dX8_isLetter_15 : decode cX8_isLetter 15 = .ok (.ireturn, 1) := by decide +kernel
theorem dX8_lesserWrong_0 : decode cX8_lesserWrong 0 = .ok (.iload_n 0, 1) := by decide +kernel
theorem dX8_lesserWrong_1 : decode cX8_lesserWrong 1 = .ok (.ifCond .eq 7, 3) := by decide +kernel
theorem dX8_lesserWrong_4 : decode cX8_lesserWrong 4 = .ok (.iload_n 1, 1) := by decide +kernel
theorem dX8_lesserWrong_5 : decode cX8_lesserWrong 5 = .ok (.ifCond .ne 7, 3) := by decide +kernel
theorem dX8_lesserWrong_8 : decode cX8_lesserWrong 8 = .ok (.iload_n 0, 1) := by decide +kernel
theorem dX8_lesserWrong_9 : decode cX8_lesserWrong 9 = .ok (.iload_n 1, 1) := by decide +kernel
theorem dX8_lesserWrong_10 : decode cX8_lesserWrong 10 = .ok (.iadd, 1) := by decide +kernel
theorem dX8_lesserWrong_11 : decode cX8_lesserWrong 11 = .ok (.ireturn, 1) := by decide +kernel
theorem dX8_lesserWrong_12 : decode cX8_lesserWrong 12 = .ok (.iload_n 0, 1) := by decide +kernel
theorem dX8_lesserWrong_13 : decode cX8_lesserWrong 13 = .ok (.iload_n 1, 1) := by decide +kernel
theorem dX8_lesserWrong_14 : decode cX8_lesserWrong 14 = .ok (.invokestatic 308, 3) := by decide +kernel
theorem dX8_lesserWrong_17 : decode cX8_lesserWrong 17 = .ok (.ireturn, 1) := by decide +kernel
theorem dX8_wrongPlace_0 : decode cX8_wrongPlace 0 = .ok (.iload_n 2, 1) := by decide +kernel
theorem dX8_wrongPlace_1 : decode cX8_wrongPlace 1 = .ok (.ifCond .ge 5, 3) := by decide +kernel
theorem dX8_wrongPlace_4 : decode cX8_wrongPlace 4 = .ok (.iconst 1, 1) := by decide +kernel
theorem dX8_wrongPlace_5 : decode cX8_wrongPlace 5 = .ok (.ireturn, 1) := by decide +kernel
theorem dX8_wrongPlace_6 : decode cX8_wrongPlace 6 = .ok (.aload_n 0, 1) := by decide +kernel
theorem dX8_wrongPlace_7 : decode cX8_wrongPlace 7 = .ok (.getfield 32, 3) := by decide +kernel
theorem dX8_wrongPlace_10 : decode cX8_wrongPlace 10 = .ok (.iload_n 1, 1) := by decide +kernel
theorem dX8_wrongPlace_11 : decode cX8_wrongPlace 11 = .ok (.invokevirtual 137, 3) := by decide +kernel
theorem dX8_wrongPlace_14 : decode cX8_wrongPlace 14 = .ok (.ifCond .ne 5, 3) := by decide +kernel
theorem dX8_wrongPlace_17 : decode cX8_wrongPlace 17 = .ok (.iconst 2, 1) := by decide +kernel
theorem dX8_wrongPlace_18 : decode cX8_wrongPlace 18 = .ok (.ireturn, 1) := by decide +kernel
theorem dX8_wrongPlace_19 : decode cX8_wrongPlace 19 = .ok (.aload_n 0, 1) := by decide +kernel
theorem dX8_wrongPlace_20 : decode cX8_wrongPlace 20 = .ok (.getfield 32, 3) := by decide +kernel
theorem dX8_wrongPlace_23 : decode cX8_wrongPlace 23 = .ok (.iload_n 1, 1) := by decide +kernel
theorem dX8_wrongPlace_24 : decode cX8_wrongPlace 24 = .ok (.invokevirtual 141, 3) := by decide +kernel
theorem dX8_wrongPlace_27 : decode cX8_wrongPlace 27 = .ok (.istore 4, 2) := by decide +kernel
theorem dX8_wrongPlace_29 : decode cX8_wrongPlace 29 = .ok (.iload_n 2, 1) := by decide +kernel
theorem dX8_wrongPlace_30 : decode cX8_wrongPlace 30 = .ok (.iload 4, 2) := by decide +kernel
theorem dX8_wrongPlace_32 : decode cX8_wrongPlace 32 = .ok (.if_icmp .lt 13, 3) := by decide +kernel
theorem dX8_wrongPlace_35 : decode cX8_wrongPlace 35 = .ok (.iload_n 3, 1) := by decide +kernel
theorem dX8_wrongPlace_36 : decode cX8_wrongPlace 36 = .ok (.ifCond .eq 13, 3) := by decide +kernel
theorem dX8_wrongPlace_39 : decode cX8_wrongPlace 39 = .ok (.iload_n 2, 1) := by decide +kernel
theorem dX8_wrongPlace_40 : decode cX8_wrongPlace 40 = .ok (.iload 4, 2) := by decide +kernel
theorem dX8_wrongPlace_42 : decode cX8_wrongPlace 42 = .ok (.if_icmp .ne 7, 3) := by decide +kernel
theorem dX8_wrongPlace_45 : decode cX8_wrongPlace 45 = .ok (.iconst 0, 1) := by decide +kernel
theorem dX8_wrongPlace_46 : decode cX8_wrongPlace 46 = .ok (.goto 4, 3) := by decide +kernel
theorem dX8_wrongPlace_49 : decode cX8_wrongPlace 49 = .ok (.iconst 5, 1) := by decide +kernel
theorem dX8_wrongPlace_50 : decode cX8_wrongPlace 50 = .ok (.ireturn, 1) := by decide +kernel
theorem dX8_wrongSplice_0 : decode cX8_wrongSplice 0 = .ok (.iload_n 2, 1) := by decide +kernel
theorem dX8_wrongSplice_1 : decode cX8_wrongSplice 1 = .ok (.ifCond .lt 7, 3) := by decide +kernel
theorem dX8_wrongSplice_4 : decode cX8_wrongSplice 4 = .ok (.iload_n 3, 1) := by decide +kernel
theorem dX8_wrongSplice_5 : decode cX8_wrongSplice 5 = .ok (.ifCond .ge 5, 3) := by decide +kernel
theorem dX8_wrongSplice_8 : decode cX8_wrongSplice 8 = .ok (.iconst 1, 1) := by decide +kernel
theorem dX8_wrongSplice_9 : decode cX8_wrongSplice 9 = .ok (.ireturn, 1) := by decide +kernel
theorem dX8_wrongSplice_10 : decode cX8_wrongSplice 10 = .ok (.aload_n 0, 1) := by decide +kernel
theorem dX8_wrongSplice_11 : decode cX8_wrongSplice 11 = .ok (.getfield 32, 3) := by decide +kernel
theorem dX8_wrongSplice_14 : decode cX8_wrongSplice 14 = .ok (.iload_n 1, 1) := by decide +kernel
theorem dX8_wrongSplice_15 : decode cX8_wrongSplice 15 = .ok (.invokevirtual 137, 3) := by decide +kernel
theorem dX8_wrongSplice_18 : decode cX8_wrongSplice 18 = .ok (.ifCond .eq 15, 3) := by decide +kernel
theorem dX8_wrongSplice_21 : decode cX8_wrongSplice 21 = .ok (.aload_n 0, 1) := by decide +kernel
theorem dX8_wrongSplice_22 : decode cX8_wrongSplice 22 = .ok (.getfield 32, 3) := by decide +kernel
theorem dX8_wrongSplice_25 : decode cX8_wrongSplice 25 = .ok (.iload 4, 2) := by decide +kernel
theorem dX8_wrongSplice_27 : decode cX8_wrongSplice 27 = .ok (.invokevirtual 137, 3) := by decide +kernel
theorem dX8_wrongSplice_30 : decode cX8_wrongSplice 30 = .ok (.ifCond .ne 5, 3) := by decide +kernel
theorem dX8_wrongSplice_33 : decode cX8_wrongSplice 33 = .ok (.iconst 2, 1) := by decide +kernel
theorem dX8_wrongSplice_34 : decode cX8_wrongSplice 34 = .ok (.ireturn, 1) := by decide +kernel
theorem dX8_wrongSplice_35 : decode cX8_wrongSplice 35 = .ok (.aload_n 0, 1) := by decide +kernel
theorem dX8_wrongSplice_36 : decode cX8_wrongSplice 36 = .ok (.getfield 32, 3) := by decide +kernel
theorem dX8_wrongSplice_39 : decode cX8_wrongSplice 39 = .ok (.iload_n 1, 1) := by decide +kernel
theorem dX8_wrongSplice_40 : decode cX8_wrongSplice 40 = .ok (.iload_n 2, 1) := by decide +kernel
theorem dX8_wrongSplice_41 : decode cX8_wrongSplice 41 = .ok (.iload_n 3, 1) := by decide +kernel
theorem dX8_wrongSplice_42 : decode cX8_wrongSplice 42 = .ok (.invokevirtual 206, 3) := by decide +kernel
theorem dX8_wrongSplice_45 : decode cX8_wrongSplice 45 = .ok (.ifCond .ne 5, 3) := by decide +kernel
theorem dX8_wrongSplice_48 : decode cX8_wrongSplice 48 = .ok (.iconst 5, 1) := by decide +kernel
theorem dX8_wrongSplice_49 : decode cX8_wrongSplice 49 = .ok (.ireturn, 1) := by decide +kernel
theorem dX8_wrongSplice_50 : decode cX8_wrongSplice 50 = .ok (.aload_n 0, 1) := by decide +kernel
theorem dX8_wrongSplice_51 : decode cX8_wrongSplice 51 = .ok (.getfield 32, 3) := by decide +kernel
theorem dX8_wrongSplice_54 : decode cX8_wrongSplice 54 = .ok (.iload_n 1, 1) := by decide +kernel
theorem dX8_wrongSplice_55 : decode cX8_wrongSplice 55 = .ok (.invokevirtual 141, 3) := by decide +kernel
theorem dX8_wrongSplice_58 : decode cX8_wrongSplice 58 = .ok (.iload_n 3, 1) := by decide +kernel
theorem dX8_wrongSplice_59 : decode cX8_wrongSplice 59 = .ok (.isub, 1) := by decide +kernel
theorem dX8_wrongSplice_60 : decode cX8_wrongSplice 60 = .ok (.aload_n 0, 1) := by decide +kernel
theorem dX8_wrongSplice_61 : decode cX8_wrongSplice 61 = .ok (.getfield 32, 3) := by decide +kernel
theorem dX8_wrongSplice_64 : decode cX8_wrongSplice 64 = .ok (.iload 4, 2) := by decide +kernel
theorem dX8_wrongSplice_66 : decode cX8_wrongSplice 66 = .ok (.invokevirtual 141, 3) := by decide +kernel
theorem dX8_wrongSplice_69 : decode cX8_wrongSplice 69 = .ok (.iadd, 1) := by decide +kernel
theorem dX8_wrongSplice_70 : decode cX8_wrongSplice 70 = .ok (.sipush 600, 3) := by decide +kernel
theorem dX8_wrongSplice_73 : decode cX8_wrongSplice 73 = .ok (.if_icmp .le 8, 3) := by decide +kernel
theorem dX8_wrongSplice_76 : decode cX8_wrongSplice 76 = .ok (.bipush 6, 2) := by decide +kernel
theorem dX8_wrongSplice_78 : decode cX8_wrongSplice 78 = .ok (.goto 4, 3) := by decide +kernel
theorem dX8_wrongSplice_81 : decode cX8_wrongSplice 81 = .ok (.iconst 0, 1) := by decide +kernel
theorem dX8_wrongSplice_82 : decode cX8_wrongSplice 82 = .ok (.ireturn, 1) := by decide +kernel
theorem dX8_draftSplice_0 : decode cX8_draftSplice 0 = .ok (.iload_n 2, 1) := by decide +kernel
theorem dX8_draftSplice_1 : decode cX8_draftSplice 1 = .ok (.iload_n 3, 1) := by decide +kernel
theorem dX8_draftSplice_2 : decode cX8_draftSplice 2 = .ok (.iadd, 1) := by decide +kernel
theorem dX8_draftSplice_3 : decode cX8_draftSplice 3 = .ok (.istore 5, 2) := by decide +kernel
theorem dX8_draftSplice_5 : decode cX8_draftSplice 5 = .ok (.aload_n 0, 1) := by decide +kernel
theorem dX8_draftSplice_6 : decode cX8_draftSplice 6 = .ok (.getfield 41, 3) := by decide +kernel
theorem dX8_draftSplice_9 : decode cX8_draftSplice 9 = .ok (.invokevirtual 210, 3) := by decide +kernel
theorem dX8_draftSplice_12 : decode cX8_draftSplice 12 = .ok (.aload_n 0, 1) := by decide +kernel
theorem dX8_draftSplice_13 : decode cX8_draftSplice 13 = .ok (.getfield 41, 3) := by decide +kernel
theorem dX8_draftSplice_16 : decode cX8_draftSplice 16 = .ok (.aload_n 0, 1) := by decide +kernel
theorem dX8_draftSplice_17 : decode cX8_draftSplice 17 = .ok (.getfield 32, 3) := by decide +kernel
theorem dX8_draftSplice_20 : decode cX8_draftSplice 20 = .ok (.iload_n 1, 1) := by decide +kernel
theorem dX8_draftSplice_21 : decode cX8_draftSplice 21 = .ok (.iconst 0, 1) := by decide +kernel
theorem dX8_draftSplice_22 : decode cX8_draftSplice 22 = .ok (.iload_n 2, 1) := by decide +kernel
theorem dX8_draftSplice_23 : decode cX8_draftSplice 23 = .ok (.invokevirtual 213, 3) := by decide +kernel
theorem dX8_draftSplice_26 : decode cX8_draftSplice 26 = .ok (.aload_n 0, 1) := by decide +kernel
theorem dX8_draftSplice_27 : decode cX8_draftSplice 27 = .ok (.getfield 41, 3) := by decide +kernel
theorem dX8_draftSplice_30 : decode cX8_draftSplice 30 = .ok (.aload_n 0, 1) := by decide +kernel
theorem dX8_draftSplice_31 : decode cX8_draftSplice 31 = .ok (.getfield 32, 3) := by decide +kernel
theorem dX8_draftSplice_34 : decode cX8_draftSplice 34 = .ok (.iload 4, 2) := by decide +kernel
theorem dX8_draftSplice_36 : decode cX8_draftSplice 36 = .ok (.invokevirtual 228, 3) := by decide +kernel
theorem dX8_draftSplice_39 : decode cX8_draftSplice 39 = .ok (.aload_n 0, 1) := by decide +kernel
theorem dX8_draftSplice_40 : decode cX8_draftSplice 40 = .ok (.getfield 41, 3) := by decide +kernel
theorem dX8_draftSplice_43 : decode cX8_draftSplice 43 = .ok (.aload_n 0, 1) := by decide +kernel
theorem dX8_draftSplice_44 : decode cX8_draftSplice 44 = .ok (.getfield 32, 3) := by decide +kernel
theorem dX8_draftSplice_47 : decode cX8_draftSplice 47 = .ok (.iload_n 1, 1) := by decide +kernel
theorem dX8_draftSplice_48 : decode cX8_draftSplice 48 = .ok (.iload 5, 2) := by decide +kernel
theorem dX8_draftSplice_50 : decode cX8_draftSplice 50 = .ok (.aload_n 0, 1) := by decide +kernel
theorem dX8_draftSplice_51 : decode cX8_draftSplice 51 = .ok (.getfield 32, 3) := by decide +kernel
theorem dX8_draftSplice_54 : decode cX8_draftSplice 54 = .ok (.iload_n 1, 1) := by decide +kernel
theorem dX8_draftSplice_55 : decode cX8_draftSplice 55 = .ok (.invokevirtual 141, 3) := by decide +kernel
theorem dX8_draftSplice_58 : decode cX8_draftSplice 58 = .ok (.iload 5, 2) := by decide +kernel
theorem dX8_draftSplice_60 : decode cX8_draftSplice 60 = .ok (.isub, 1) := by decide +kernel
theorem dX8_draftSplice_61 : decode cX8_draftSplice 61 = .ok (.invokevirtual 213, 3) := by decide +kernel
theorem dX8_draftSplice_64 : decode cX8_draftSplice 64 = .ok (.return_, 1) := by decide +kernel
theorem dX8_actOn_0 : decode cX8_actOn 0 = .ok (.aload_n 0, 1) := by decide +kernel
theorem dX8_actOn_1 : decode cX8_actOn 1 = .ok (.sipush 600, 3) := by decide +kernel
theorem dX8_actOn_4 : decode cX8_actOn 4 = .ok (.invokevirtual 94, 3) := by decide +kernel
theorem dX8_actOn_7 : decode cX8_actOn 7 = .ok (.aload_n 0, 1) := by decide +kernel
theorem dX8_actOn_8 : decode cX8_actOn 8 = .ok (.invokevirtual 97, 3) := by decide +kernel
theorem dX8_actOn_11 : decode cX8_actOn 11 = .ok (.aload_n 0, 1) := by decide +kernel
theorem dX8_actOn_12 : decode cX8_actOn 12 = .ok (.getfield 32, 3) := by decide +kernel
theorem dX8_actOn_15 : decode cX8_actOn 15 = .ok (.iload_n 1, 1) := by decide +kernel
theorem dX8_actOn_16 : decode cX8_actOn 16 = .ok (.aload_n 0, 1) := by decide +kernel
theorem dX8_actOn_17 : decode cX8_actOn 17 = .ok (.getfield 41, 3) := by decide +kernel
theorem dX8_actOn_20 : decode cX8_actOn 20 = .ok (.invokevirtual 313, 3) := by decide +kernel
theorem dX8_actOn_23 : decode cX8_actOn 23 = .ok (.aload_n 0, 1) := by decide +kernel
theorem dX8_actOn_24 : decode cX8_actOn 24 = .ok (.getfield 66, 3) := by decide +kernel
theorem dX8_actOn_27 : decode cX8_actOn 27 = .ok (.aload_n 0, 1) := by decide +kernel
theorem dX8_actOn_28 : decode cX8_actOn 28 = .ok (.getfield 41, 3) := by decide +kernel
theorem dX8_actOn_31 : decode cX8_actOn 31 = .ok (.getfield 295, 3) := by decide +kernel
theorem dX8_actOn_34 : decode cX8_actOn 34 = .ok (.iconst 0, 1) := by decide +kernel
theorem dX8_actOn_35 : decode cX8_actOn 35 = .ok (.aload_n 0, 1) := by decide +kernel
theorem dX8_actOn_36 : decode cX8_actOn 36 = .ok (.getfield 41, 3) := by decide +kernel
theorem dX8_actOn_39 : decode cX8_actOn 39 = .ok (.getfield 298, 3) := by decide +kernel
theorem dX8_actOn_42 : decode cX8_actOn 42 = .ok (.invokevirtual 301, 3) := by decide +kernel
theorem dX8_actOn_45 : decode cX8_actOn 45 = .ok (.istore_n 2, 1) := by decide +kernel
theorem dX8_actOn_46 : decode cX8_actOn 46 = .ok (.aload_n 0, 1) := by decide +kernel
theorem dX8_actOn_47 : decode cX8_actOn 47 = .ok (.getfield 32, 3) := by decide +kernel
theorem dX8_actOn_50 : decode cX8_actOn 50 = .ok (.iload_n 1, 1) := by decide +kernel
theorem dX8_actOn_51 : decode cX8_actOn 51 = .ok (.iload_n 2, 1) := by decide +kernel
theorem dX8_actOn_52 : decode cX8_actOn 52 = .ok (.aload_n 0, 1) := by decide +kernel
theorem dX8_actOn_53 : decode cX8_actOn 53 = .ok (.getfield 66, 3) := by decide +kernel
theorem dX8_actOn_56 : decode cX8_actOn 56 = .ok (.getfield 317, 3) := by decide +kernel
theorem dX8_actOn_59 : decode cX8_actOn 59 = .ok (.invokevirtual 320, 3) := by decide +kernel
theorem dX8_actOn_62 : decode cX8_actOn 62 = .ok (.aload_n 0, 1) := by decide +kernel
theorem dX8_actOn_63 : decode cX8_actOn 63 = .ok (.invokevirtual 107, 3) := by decide +kernel
theorem dX8_actOn_66 : decode cX8_actOn 66 = .ok (.return_, 1) := by decide +kernel
theorem dX8_beginAct_0 : decode cX8_beginAct 0 = .ok (.aload_n 0, 1) := by decide +kernel
theorem dX8_beginAct_1 : decode cX8_beginAct 1 = .ok (.getfield 58, 3) := by decide +kernel
theorem dX8_beginAct_4 : decode cX8_beginAct 4 = .ok (.invokevirtual 123, 3) := by decide +kernel
theorem dX8_beginAct_7 : decode cX8_beginAct 7 = .ok (.aload_n 0, 1) := by decide +kernel
theorem dX8_beginAct_8 : decode cX8_beginAct 8 = .ok (.invokevirtual 126, 3) := by decide +kernel
theorem dX8_beginAct_11 : decode cX8_beginAct 11 = .ok (.pop, 1) := by decide +kernel
theorem dX8_beginAct_12 : decode cX8_beginAct 12 = .ok (.aload_n 0, 1) := by decide +kernel
theorem dX8_beginAct_13 : decode cX8_beginAct 13 = .ok (.getfield 48, 3) := by decide +kernel
theorem dX8_beginAct_16 : decode cX8_beginAct 16 = .ok (.aload_n 0, 1) := by decide +kernel
theorem dX8_beginAct_17 : decode cX8_beginAct 17 = .ok (.getfield 32, 3) := by decide +kernel
theorem dX8_beginAct_20 : decode cX8_beginAct 20 = .ok (.invokevirtual 263, 3) := by decide +kernel
theorem dX8_beginAct_23 : decode cX8_beginAct 23 = .ok (.return_, 1) := by decide +kernel
theorem dX8_endAct_0 : decode cX8_endAct 0 = .ok (.aload_n 0, 1) := by decide +kernel
theorem dX8_endAct_1 : decode cX8_endAct 1 = .ok (.invokevirtual 126, 3) := by decide +kernel
theorem dX8_endAct_4 : decode cX8_endAct 4 = .ok (.istore_n 1, 1) := by decide +kernel
theorem dX8_endAct_5 : decode cX8_endAct 5 = .ok (.aload_n 0, 1) := by decide +kernel
theorem dX8_endAct_6 : decode cX8_endAct 6 = .ok (.getfield 48, 3) := by decide +kernel
theorem dX8_endAct_9 : decode cX8_endAct 9 = .ok (.invokevirtual 324, 3) := by decide +kernel
theorem dX8_endAct_12 : decode cX8_endAct 12 = .ok (.astore_n 2, 1) := by decide +kernel
theorem dX8_endAct_13 : decode cX8_endAct 13 = .ok (.aload_n 2, 1) := by decide +kernel
theorem dX8_endAct_14 : decode cX8_endAct 14 = .ok (.ifnull 8, 3) := by decide +kernel
theorem dX8_endAct_17 : decode cX8_endAct 17 = .ok (.aload_n 2, 1) := by decide +kernel
theorem dX8_endAct_18 : decode cX8_endAct 18 = .ok (.iload_n 1, 1) := by decide +kernel
theorem dX8_endAct_19 : decode cX8_endAct 19 = .ok (.putfield 328, 3) := by decide +kernel
theorem dX8_endAct_22 : decode cX8_endAct 22 = .ok (.return_, 1) := by decide +kernel
theorem dX8_newsOfLatest_0 : decode cX8_newsOfLatest 0 = .ok (.aload_n 0, 1) := by decide +kernel
theorem dX8_newsOfLatest_1 : decode cX8_newsOfLatest 1 = .ok (.getfield 48, 3) := by decide +kernel
theorem dX8_newsOfLatest_4 : decode cX8_newsOfLatest 4 = .ok (.invokevirtual 324, 3) := by decide +kernel
theorem dX8_newsOfLatest_7 : decode cX8_newsOfLatest 7 = .ok (.astore_n 1, 1) := by decide +kernel
theorem dX8_newsOfLatest_8 : decode cX8_newsOfLatest 8 = .ok (.aload_n 1, 1) := by decide +kernel
theorem dX8_newsOfLatest_9 : decode cX8_newsOfLatest 9 = .ok (.ifnonnull 7, 3) := by decide +kernel
theorem dX8_newsOfLatest_12 : decode cX8_newsOfLatest 12 = .ok (.iconst 0, 1) := by decide +kernel
theorem dX8_newsOfLatest_13 : decode cX8_newsOfLatest 13 = .ok (.goto 7, 3) := by decide +kernel
theorem dX8_newsOfLatest_16 : decode cX8_newsOfLatest 16 = .ok (.aload_n 1, 1) := by decide +kernel
theorem dX8_newsOfLatest_17 : decode cX8_newsOfLatest 17 = .ok (.getfield 328, 3) := by decide +kernel
theorem dX8_newsOfLatest_20 : decode cX8_newsOfLatest 20 = .ok (.ireturn, 1) := by decide +kernel
theorem dX8_restoreFrom_0 : decode cX8_restoreFrom 0 = .ok (.aload_n 1, 1) := by decide +kernel
theorem dX8_restoreFrom_1 : decode cX8_restoreFrom 1 = .ok (.invokevirtual 324, 3) := by decide +kernel
theorem dX8_restoreFrom_4 : decode cX8_restoreFrom 4 = .ok (.astore_n 2, 1) := by decide +kernel
theorem dX8_restoreFrom_5 : decode cX8_restoreFrom 5 = .ok (.aload_n 2, 1) := by decide +kernel
theorem dX8_restoreFrom_6 : decode cX8_restoreFrom 6 = .ok (.ifnonnull 9, 3) := by decide +kernel
theorem dX8_restoreFrom_9 : decode cX8_restoreFrom 9 = .ok (.aload_n 0, 1) := by decide +kernel
theorem dX8_restoreFrom_10 : decode cX8_restoreFrom 10 = .ok (.iconst 5, 1) := by decide +kernel
theorem dX8_restoreFrom_11 : decode cX8_restoreFrom 11 = .ok (.invokevirtual 84, 3) := by decide +kernel
theorem dX8_restoreFrom_14 : decode cX8_restoreFrom 14 = .ok (.ireturn, 1) := by decide +kernel
theorem dX8_restoreFrom_15 : decode cX8_restoreFrom 15 = .ok (.aload_n 0, 1) := by decide +kernel
theorem dX8_restoreFrom_16 : decode cX8_restoreFrom 16 = .ok (.getfield 32, 3) := by decide +kernel
theorem dX8_restoreFrom_19 : decode cX8_restoreFrom 19 = .ok (.aload_n 2, 1) := by decide +kernel
theorem dX8_restoreFrom_20 : decode cX8_restoreFrom 20 = .ok (.invokevirtual 103, 3) := by decide +kernel
theorem dX8_restoreFrom_23 : decode cX8_restoreFrom 23 = .ok (.aload_n 1, 1) := by decide +kernel
theorem dX8_restoreFrom_24 : decode cX8_restoreFrom 24 = .ok (.invokevirtual 331, 3) := by decide +kernel
theorem dX8_restoreFrom_27 : decode cX8_restoreFrom 27 = .ok (.aload_n 0, 1) := by decide +kernel
theorem dX8_restoreFrom_28 : decode cX8_restoreFrom 28 = .ok (.sipush 4800, 3) := by decide +kernel
theorem dX8_restoreFrom_31 : decode cX8_restoreFrom 31 = .ok (.invokevirtual 94, 3) := by decide +kernel
theorem dX8_restoreFrom_34 : decode cX8_restoreFrom 34 = .ok (.aload_n 0, 1) := by decide +kernel
theorem dX8_restoreFrom_35 : decode cX8_restoreFrom 35 = .ok (.aload_n 1, 1) := by decide +kernel
theorem dX8_restoreFrom_36 : decode cX8_restoreFrom 36 = .ok (.getfield 133, 3) := by decide +kernel
theorem dX8_restoreFrom_39 : decode cX8_restoreFrom 39 = .ok (.invokevirtual 113, 3) := by decide +kernel
theorem dX8_restoreFrom_42 : decode cX8_restoreFrom 42 = .ok (.ireturn, 1) := by decide +kernel
theorem dX8_settle_0 : decode cX8_settle 0 = .ok (.aload_n 0, 1) := by decide +kernel
theorem dX8_settle_1 : decode cX8_settle 1 = .ok (.getfield 66, 3) := by decide +kernel
theorem dX8_settle_4 : decode cX8_settle 4 = .ok (.invokevirtual 334, 3) := by decide +kernel
theorem dX8_settle_7 : decode cX8_settle 7 = .ok (.iload_n 1, 1) := by decide +kernel
theorem dX8_settle_8 : decode cX8_settle 8 = .ok (.if_icmp .ge 10, 3) := by decide +kernel
theorem dX8_settle_11 : decode cX8_settle 11 = .ok (.aload_n 0, 1) := by decide +kernel
theorem dX8_settle_12 : decode cX8_settle 12 = .ok (.getfield 66, 3) := by decide +kernel
theorem dX8_settle_15 : decode cX8_settle 15 = .ok (.invokevirtual 337, 3) := by decide +kernel
theorem dX8_settle_18 : decode cX8_settle 18 = .ok (.aload_n 0, 1) := by decide +kernel
theorem dX8_settle_19 : decode cX8_settle 19 = .ok (.getfield 32, 3) := by decide +kernel
theorem dX8_settle_22 : decode cX8_settle 22 = .ok (.getfield 338, 3) := by decide +kernel
theorem dX8_settle_25 : decode cX8_settle 25 = .ok (.aload_n 0, 1) := by decide +kernel
theorem dX8_settle_26 : decode cX8_settle 26 = .ok (.getfield 66, 3) := by decide +kernel
theorem dX8_settle_29 : decode cX8_settle 29 = .ok (.getfield 341, 3) := by decide +kernel
theorem dX8_settle_32 : decode cX8_settle 32 = .ok (.if_icmp .ne 4, 3) := by decide +kernel
theorem dX8_settle_35 : decode cX8_settle 35 = .ok (.return_, 1) := by decide +kernel
theorem dX8_settle_36 : decode cX8_settle 36 = .ok (.iconst 0, 1) := by decide +kernel
theorem dX8_settle_37 : decode cX8_settle 37 = .ok (.istore_n 2, 1) := by decide +kernel
theorem dX8_settle_38 : decode cX8_settle 38 = .ok (.iload_n 2, 1) := by decide +kernel
theorem dX8_settle_39 : decode cX8_settle 39 = .ok (.aload_n 0, 1) := by decide +kernel
theorem dX8_settle_40 : decode cX8_settle 40 = .ok (.getfield 32, 3) := by decide +kernel
theorem dX8_settle_43 : decode cX8_settle 43 = .ok (.getfield 110, 3) := by decide +kernel
theorem dX8_settle_46 : decode cX8_settle 46 = .ok (.if_icmp .ge 53, 3) := by decide +kernel
theorem dX8_settle_49 : decode cX8_settle 49 = .ok (.aload_n 0, 1) := by decide +kernel
theorem dX8_settle_50 : decode cX8_settle 50 = .ok (.getfield 66, 3) := by decide +kernel
theorem dX8_settle_53 : decode cX8_settle 53 = .ok (.aload_n 0, 1) := by decide +kernel
theorem dX8_settle_54 : decode cX8_settle 54 = .ok (.getfield 32, 3) := by decide +kernel
theorem dX8_settle_57 : decode cX8_settle 57 = .ok (.getfield 342, 3) := by decide +kernel
theorem dX8_settle_60 : decode cX8_settle 60 = .ok (.iload_n 2, 1) := by decide +kernel
theorem dX8_settle_61 : decode cX8_settle 61 = .ok (.sipush 600, 3) := by decide +kernel
theorem dX8_settle_64 : decode cX8_settle 64 = .ok (.imul, 1) := by decide +kernel
theorem dX8_settle_65 : decode cX8_settle 65 = .ok (.aload_n 0, 1) := by decide +kernel
theorem dX8_settle_66 : decode cX8_settle 66 = .ok (.getfield 32, 3) := by decide +kernel
theorem dX8_settle_69 : decode cX8_settle 69 = .ok (.iload_n 2, 1) := by decide +kernel
theorem dX8_settle_70 : decode cX8_settle 70 = .ok (.invokevirtual 141, 3) := by decide +kernel
theorem dX8_settle_73 : decode cX8_settle 73 = .ok (.invokevirtual 301, 3) := by decide +kernel
theorem dX8_settle_76 : decode cX8_settle 76 = .ok (.istore_n 3, 1) := by decide +kernel
theorem dX8_settle_77 : decode cX8_settle 77 = .ok (.aload_n 0, 1) := by decide +kernel
theorem dX8_settle_78 : decode cX8_settle 78 = .ok (.getfield 32, 3) := by decide +kernel
theorem dX8_settle_81 : decode cX8_settle 81 = .ok (.iload_n 2, 1) := by decide +kernel
theorem dX8_settle_82 : decode cX8_settle 82 = .ok (.iload_n 3, 1) := by decide +kernel
theorem dX8_settle_83 : decode cX8_settle 83 = .ok (.aload_n 0, 1) := by decide +kernel
theorem dX8_settle_84 : decode cX8_settle 84 = .ok (.getfield 66, 3) := by decide +kernel
theorem dX8_settle_87 : decode cX8_settle 87 = .ok (.getfield 317, 3) := by decide +kernel
theorem dX8_settle_90 : decode cX8_settle 90 = .ok (.invokevirtual 320, 3) := by decide +kernel
theorem dX8_settle_93 : decode cX8_settle 93 = .ok (.iinc 2 1, 3) := by decide +kernel
theorem dX8_settle_96 : decode cX8_settle 96 = .ok (.goto (-58), 3) := by decide +kernel
theorem dX8_settle_99 : decode cX8_settle 99 = .ok (.aload_n 0, 1) := by decide +kernel
theorem dX8_settle_100 : decode cX8_settle 100 = .ok (.getfield 32, 3) := by decide +kernel
theorem dX8_settle_103 : decode cX8_settle 103 = .ok (.aload_n 0, 1) := by decide +kernel
theorem dX8_settle_104 : decode cX8_settle 104 = .ok (.getfield 66, 3) := by decide +kernel
theorem dX8_settle_107 : decode cX8_settle 107 = .ok (.getfield 341, 3) := by decide +kernel
theorem dX8_settle_110 : decode cX8_settle 110 = .ok (.putfield 338, 3) := by decide +kernel
theorem dX8_settle_113 : decode cX8_settle 113 = .ok (.return_, 1) := by decide +kernel
theorem dX8_visitAll_0 : decode cX8_visitAll 0 = .ok (.iconst 0, 1) := by decide +kernel
theorem dX8_visitAll_1 : decode cX8_visitAll 1 = .ok (.istore_n 1, 1) := by decide +kernel
theorem dX8_visitAll_2 : decode cX8_visitAll 2 = .ok (.iconst 0, 1) := by decide +kernel
theorem dX8_visitAll_3 : decode cX8_visitAll 3 = .ok (.istore_n 2, 1) := by decide +kernel
theorem dX8_visitAll_4 : decode cX8_visitAll 4 = .ok (.iload_n 2, 1) := by decide +kernel
theorem dX8_visitAll_5 : decode cX8_visitAll 5 = .ok (.aload_n 0, 1) := by decide +kernel
theorem dX8_visitAll_6 : decode cX8_visitAll 6 = .ok (.getfield 32, 3) := by decide +kernel
theorem dX8_visitAll_9 : decode cX8_visitAll 9 = .ok (.getfield 110, 3) := by decide +kernel
theorem dX8_visitAll_12 : decode cX8_visitAll 12 = .ok (.if_icmp .ge 27, 3) := by decide +kernel
theorem dX8_visitAll_15 : decode cX8_visitAll 15 = .ok (.iload_n 1, 1) := by decide +kernel
theorem dX8_visitAll_16 : decode cX8_visitAll 16 = .ok (.aload_n 0, 1) := by decide +kernel
theorem dX8_visitAll_17 : decode cX8_visitAll 17 = .ok (.getfield 58, 3) := by decide +kernel
theorem dX8_visitAll_20 : decode cX8_visitAll 20 = .ok (.aload_n 0, 1) := by decide +kernel
theorem dX8_visitAll_21 : decode cX8_visitAll 21 = .ok (.getfield 32, 3) := by decide +kernel
theorem dX8_visitAll_24 : decode cX8_visitAll 24 = .ok (.iload_n 2, 1) := by decide +kernel
theorem dX8_visitAll_25 : decode cX8_visitAll 25 = .ok (.invokevirtual 147, 3) := by decide +kernel
theorem dX8_visitAll_28 : decode cX8_visitAll 28 = .ok (.invokevirtual 305, 3) := by decide +kernel
theorem dX8_visitAll_31 : decode cX8_visitAll 31 = .ok (.iadd, 1) := by decide +kernel
theorem dX8_visitAll_32 : decode cX8_visitAll 32 = .ok (.istore_n 1, 1) := by decide +kernel
theorem dX8_visitAll_33 : decode cX8_visitAll 33 = .ok (.iinc 2 1, 3) := by decide +kernel
theorem dX8_visitAll_36 : decode cX8_visitAll 36 = .ok (.goto (-32), 3) := by decide +kernel
theorem dX8_visitAll_39 : decode cX8_visitAll 39 = .ok (.iload_n 1, 1) := by decide +kernel
theorem dX8_visitAll_40 : decode cX8_visitAll 40 = .ok (.ireturn, 1) := by decide +kernel
theorem dX8_number_0 : decode cX8_number 0 = .ok (.aload_n 0, 1) := by decide +kernel
theorem dX8_number_1 : decode cX8_number 1 = .ok (.getfield 58, 3) := by decide +kernel
theorem dX8_number_4 : decode cX8_number 4 = .ok (.invokevirtual 123, 3) := by decide +kernel
theorem dX8_number_7 : decode cX8_number 7 = .ok (.aload_n 0, 1) := by decide +kernel
theorem dX8_number_8 : decode cX8_number 8 = .ok (.getfield 58, 3) := by decide +kernel
theorem dX8_number_11 : decode cX8_number 11 = .ok (.aload_n 0, 1) := by decide +kernel
theorem dX8_number_12 : decode cX8_number 12 = .ok (.getfield 32, 3) := by decide +kernel
theorem dX8_number_15 : decode cX8_number 15 = .ok (.iload_n 1, 1) := by decide +kernel
theorem dX8_number_16 : decode cX8_number 16 = .ok (.invokevirtual 147, 3) := by decide +kernel
theorem dX8_number_19 : decode cX8_number 19 = .ok (.invokevirtual 305, 3) := by decide +kernel
theorem dX8_number_22 : decode cX8_number 22 = .ok (.ireturn, 1) := by decide +kernel
theorem dX8_firstPart_0 : decode cX8_firstPart 0 = .ok (.aload_n 0, 1) := by decide +kernel
theorem dX8_firstPart_1 : decode cX8_firstPart 1 = .ok (.getfield 66, 3) := by decide +kernel
theorem dX8_firstPart_4 : decode cX8_firstPart 4 = .ok (.iload_n 1, 1) := by decide +kernel
theorem dX8_firstPart_5 : decode cX8_firstPart 5 = .ok (.invokevirtual 343, 3) := by decide +kernel
theorem dX8_firstPart_8 : decode cX8_firstPart 8 = .ok (.istore_n 2, 1) := by decide +kernel
theorem dX8_firstPart_9 : decode cX8_firstPart 9 = .ok (.aload_n 0, 1) := by decide +kernel
theorem dX8_firstPart_10 : decode cX8_firstPart 10 = .ok (.getfield 66, 3) := by decide +kernel
theorem dX8_firstPart_13 : decode cX8_firstPart 13 = .ok (.iload_n 1, 1) := by decide +kernel
theorem dX8_firstPart_14 : decode cX8_firstPart 14 = .ok (.invokevirtual 179, 3) := by decide +kernel
theorem dX8_firstPart_17 : decode cX8_firstPart 17 = .ok (.ifCond .ne 7, 3) := by decide +kernel
theorem dX8_firstPart_20 : decode cX8_firstPart 20 = .ok (.iload_n 2, 1) := by decide +kernel
theorem dX8_firstPart_21 : decode cX8_firstPart 21 = .ok (.goto 11, 3) := by decide +kernel
theorem dX8_firstPart_24 : decode cX8_firstPart 24 = .ok (.aload_n 0, 1) := by decide +kernel
theorem dX8_firstPart_25 : decode cX8_firstPart 25 = .ok (.getfield 58, 3) := by decide +kernel
theorem dX8_firstPart_28 : decode cX8_firstPart 28 = .ok (.iload_n 2, 1) := by decide +kernel
theorem dX8_firstPart_29 : decode cX8_firstPart 29 = .ok (.invokevirtual 199, 3) := by decide +kernel
theorem dX8_firstPart_32 : decode cX8_firstPart 32 = .ok (.ireturn, 1) := by decide +kernel
theorem dX8_secondPart_0 : decode cX8_secondPart 0 = .ok (.aload_n 0, 1) := by decide +kernel
theorem dX8_secondPart_1 : decode cX8_secondPart 1 = .ok (.getfield 66, 3) := by decide +kernel
theorem dX8_secondPart_4 : decode cX8_secondPart 4 = .ok (.iload_n 1, 1) := by decide +kernel
theorem dX8_secondPart_5 : decode cX8_secondPart 5 = .ok (.invokevirtual 346, 3) := by decide +kernel
theorem dX8_secondPart_8 : decode cX8_secondPart 8 = .ok (.istore_n 2, 1) := by decide +kernel
theorem dX8_secondPart_9 : decode cX8_secondPart 9 = .ok (.aload_n 0, 1) := by decide +kernel
theorem dX8_secondPart_10 : decode cX8_secondPart 10 = .ok (.getfield 66, 3) := by decide +kernel
theorem dX8_secondPart_13 : decode cX8_secondPart 13 = .ok (.iload_n 1, 1) := by decide +kernel
theorem dX8_secondPart_14 : decode cX8_secondPart 14 = .ok (.invokevirtual 179, 3) := by decide +kernel
theorem dX8_secondPart_17 : decode cX8_secondPart 17 = .ok (.iconst 1, 1) := by decide +kernel
theorem dX8_secondPart_18 : decode cX8_secondPart 18 = .ok (.if_icmp .ne 14, 3) := by decide +kernel
theorem dX8_secondPart_21 : decode cX8_secondPart 21 = .ok (.aload_n 0, 1) := by decide +kernel
theorem dX8_secondPart_22 : decode cX8_secondPart 22 = .ok (.getfield 58, 3) := by decide +kernel
theorem dX8_secondPart_25 : decode cX8_secondPart 25 = .ok (.iload_n 2, 1) := by decide +kernel
theorem dX8_secondPart_26 : decode cX8_secondPart 26 = .ok (.invokevirtual 199, 3) := by decide +kernel
theorem dX8_secondPart_29 : decode cX8_secondPart 29 = .ok (.goto 4, 3) := by decide +kernel
theorem dX8_secondPart_32 : decode cX8_secondPart 32 = .ok (.iload_n 2, 1) := by decide +kernel
theorem dX8_secondPart_33 : decode cX8_secondPart 33 = .ok (.ireturn, 1) := by decide +kernel
theorem dX8_sharedRules_0 : decode cX8_sharedRules 0 = .ok (.aload_n 0, 1) := by decide +kernel
theorem dX8_sharedRules_1 : decode cX8_sharedRules 1 = .ok (.iload_n 2, 1) := by decide +kernel
theorem dX8_sharedRules_2 : decode cX8_sharedRules 2 = .ok (.invokevirtual 144, 3) := by decide +kernel
theorem dX8_sharedRules_5 : decode cX8_sharedRules 5 = .ok (.istore_n 3, 1) := by decide +kernel
theorem dX8_sharedRules_6 : decode cX8_sharedRules 6 = .ok (.aload_n 0, 1) := by decide +kernel
theorem dX8_sharedRules_7 : decode cX8_sharedRules 7 = .ok (.iload_n 1, 1) := by decide +kernel
theorem dX8_sharedRules_8 : decode cX8_sharedRules 8 = .ok (.invokevirtual 144, 3) := by decide +kernel
theorem dX8_sharedRules_11 : decode cX8_sharedRules 11 = .ok (.pop, 1) := by decide +kernel
theorem dX8_sharedRules_12 : decode cX8_sharedRules 12 = .ok (.iload_n 3, 1) := by decide +kernel
theorem dX8_sharedRules_13 : decode cX8_sharedRules 13 = .ok (.aload_n 0, 1) := by decide +kernel
theorem dX8_sharedRules_14 : decode cX8_sharedRules 14 = .ok (.getfield 58, 3) := by decide +kernel
theorem dX8_sharedRules_17 : decode cX8_sharedRules 17 = .ok (.aload_n 0, 1) := by decide +kernel
theorem dX8_sharedRules_18 : decode cX8_sharedRules 18 = .ok (.getfield 32, 3) := by decide +kernel
theorem dX8_sharedRules_21 : decode cX8_sharedRules 21 = .ok (.iload_n 2, 1) := by decide +kernel
theorem dX8_sharedRules_22 : decode cX8_sharedRules 22 = .ok (.invokevirtual 147, 3) := by decide +kernel
theorem dX8_sharedRules_25 : decode cX8_sharedRules 25 = .ok (.invokevirtual 305, 3) := by decide +kernel
theorem dX8_sharedRules_28 : decode cX8_sharedRules 28 = .ok (.isub, 1) := by decide +kernel
theorem dX8_sharedRules_29 : decode cX8_sharedRules 29 = .ok (.ireturn, 1) := by decide +kernel
theorem dX9_init_0 : decode cX9_init 0 = .ok (.aload_n 0, 1) := by decide +kernel
theorem dX9_init_1 : decode cX9_init 1 = .ok (.invokespecial 1, 3) := by decide +kernel
theorem dX9_init_4 : decode cX9_init 4 = .ok (.aload_n 0, 1) := by decide +kernel
theorem dX9_init_5 : decode cX9_init 5 = .ok (.ldc 7, 2) := by decide +kernel
theorem dX9_init_7 : decode cX9_init 7 = .ok (.newarray .int, 2) := by decide +kernel
theorem dX9_init_9 : decode cX9_init 9 = .ok (.putfield 8, 3) := by decide +kernel
theorem dX9_init_12 : decode cX9_init 12 = .ok (.aload_n 0, 1) := by decide +kernel
theorem dX9_init_13 : decode cX9_init 13 = .ok (.bipush 8, 2) := by decide +kernel
theorem dX9_init_15 : decode cX9_init 15 = .ok (.newarray .int, 2) := by decide +kernel
theorem dX9_init_17 : decode cX9_init 17 = .ok (.putfield 14, 3) := by decide +kernel
theorem dX9_init_20 : decode cX9_init 20 = .ok (.aload_n 0, 1) := by decide +kernel
theorem dX9_init_21 : decode cX9_init 21 = .ok (.sipush 10400, 3) := by decide +kernel
theorem dX9_init_24 : decode cX9_init 24 = .ok (.newarray .int, 2) := by decide +kernel
theorem dX9_init_26 : decode cX9_init 26 = .ok (.putfield 17, 3) := by decide +kernel
theorem dX9_init_29 : decode cX9_init 29 = .ok (.aload_n 0, 1) := by decide +kernel
theorem dX9_init_30 : decode cX9_init 30 = .ok (.sipush 10400, 3) := by decide +kernel
theorem dX9_init_33 : decode cX9_init 33 = .ok (.newarray .int, 2) := by decide +kernel
theorem dX9_init_35 : decode cX9_init 35 = .ok (.putfield 20, 3) := by decide +kernel
theorem dX9_init_38 : decode cX9_init 38 = .ok (.aload_n 0, 1) := by decide +kernel
theorem dX9_init_39 : decode cX9_init 39 = .ok (.sipush 10400, 3) := by decide +kernel
theorem dX9_init_42 : decode cX9_init 42 = .ok (.newarray .int, 2) := by decide +kernel
theorem dX9_init_44 : decode cX9_init 44 = .ok (.putfield 23, 3) := by decide +kernel
theorem dX9_init_47 : decode cX9_init 47 = .ok (.aload_n 0, 1) := by decide +kernel
theorem dX9_init_48 : decode cX9_init 48 = .ok (.sipush 10400, 3) := by decide +kernel
theorem dX9_init_51 : decode cX9_init 51 = .ok (.newarray .int, 2) := by decide +kernel
theorem dX9_init_53 : decode cX9_init 53 = .ok (.putfield 26, 3) := by decide +kernel
theorem dX9_init_56 : decode cX9_init 56 = .ok (.aload_n 0, 1) := by decide +kernel
theorem dX9_init_57 : decode cX9_init 57 = .ok (.sipush 10400, 3) := by decide +kernel
theorem dX9_init_60 : decode cX9_init 60 = .ok (.newarray .int, 2) := by decide +kernel
theorem dX9_init_62 : decode cX9_init 62 = .ok (.putfield 29, 3) := by decide +kernel
theorem dX9_init_65 : decode cX9_init 65 = .ok (.aload_n 0, 1) := by decide +kernel
theorem dX9_init_66 : decode cX9_init 66 = .ok (.sipush 10400, 3) := by decide +kernel
theorem dX9_init_69 : decode cX9_init 69 = .ok (.newarray .int, 2) := by decide +kernel
theorem dX9_init_71 : decode cX9_init 71 = .ok (.putfield 32, 3) := by decide +kernel
theorem dX9_init_74 : decode cX9_init 74 = .ok (.aload_n 0, 1) := by decide +kernel
theorem dX9_init_75 : decode cX9_init 75 = .ok (.ldc 35, 2) := by decide +kernel
theorem dX9_init_77 : decode cX9_init 77 = .ok (.newarray .int, 2) := by decide +kernel
theorem dX9_init_79 : decode cX9_init 79 = .ok (.putfield 36, 3) := by decide +kernel
theorem dX9_init_82 : decode cX9_init 82 = .ok (.aload_n 0, 1) := by decide +kernel
theorem dX9_init_83 : decode cX9_init 83 = .ok (.sipush 600, 3) := by decide +kernel
theorem dX9_init_86 : decode cX9_init 86 = .ok (.newarray .int, 2) := by decide +kernel
theorem dX9_init_88 : decode cX9_init 88 = .ok (.putfield 39, 3) := by decide +kernel
theorem dX9_init_91 : decode cX9_init 91 = .ok (.aload_n 0, 1) := by decide +kernel
theorem dX9_init_92 : decode cX9_init 92 = .ok (.sipush 1300, 3) := by decide +kernel
theorem dX9_init_95 : decode cX9_init 95 = .ok (.newarray .int, 2) := by decide +kernel
theorem dX9_init_97 : decode cX9_init 97 = .ok (.putfield 42, 3) := by decide +kernel
theorem dX9_init_100 : decode cX9_init 100 = .ok (.aload_n 0, 1) := by decide +kernel
theorem dX9_init_101 : decode cX9_init 101 = .ok (.sipush 10400, 3) := by decide +kernel
theorem dX9_init_104 : decode cX9_init 104 = .ok (.newarray .int, 2) := by decide +kernel
theorem dX9_init_106 : decode cX9_init 106 = .ok (.putfield 45, 3) := by decide +kernel
theorem dX9_init_109 : decode cX9_init 109 = .ok (.aload_n 0, 1) := by decide +kernel
theorem dX9_init_110 : decode cX9_init 110 = .ok (.sipush 10400, 3) := by decide +kernel
theorem dX9_init_113 : decode cX9_init 113 = .ok (.newarray .int, 2) := by decide +kernel
theorem dX9_init_115 : decode cX9_init 115 = .ok (.putfield 48, 3) := by decide +kernel
theorem dX9_init_118 : decode cX9_init 118 = .ok (.aload_n 0, 1) := by decide +kernel
theorem dX9_init_119 : decode cX9_init 119 = .ok (.sipush 10400, 3) := by decide +kernel
theorem dX9_init_122 : decode cX9_init 122 = .ok (.newarray .int, 2) := by decide +kernel
theorem dX9_init_124 : decode cX9_init 124 = .ok (.putfield 51, 3) := by decide +kernel
theorem dX9_init_127 : decode cX9_init 127 = .ok (.aload_n 0, 1) := by decide +kernel
theorem dX9_init_128 : decode cX9_init 128 = .ok (.sipush 2600, 3) := by decide +kernel
theorem dX9_init_131 : decode cX9_init 131 = .ok (.newarray .int, 2) := by decide +kernel
theorem dX9_init_133 : decode cX9_init 133 = .ok (.putfield 54, 3) := by decide +kernel
theorem dX9_init_136 : decode cX9_init 136 = .ok (.aload_n 0, 1) := by decide +kernel
theorem dX9_init_137 : decode cX9_init 137 = .ok (.sipush 2600, 3) := by decide +kernel
theorem dX9_init_140 : decode cX9_init 140 = .ok (.newarray .int, 2) := by decide +kernel
theorem dX9_init_142 : decode cX9_init 142 = .ok (.putfield 57, 3) := by decide +kernel
theorem dX9_init_145 : decode cX9_init 145 = .ok (.aload_n 0, 1) := by decide +kernel
theorem dX9_init_146 : decode cX9_init 146 = .ok (.sipush 900, 3) := by decide +kernel
theorem dX9_init_149 : decode cX9_init 149 = .ok (.newarray .byte, 2) := by decide +kernel
theorem dX9_init_151 : decode cX9_init 151 = .ok (.putfield 60, 3) := by decide +kernel
theorem dX9_init_154 : decode cX9_init 154 = .ok (.aload_n 0, 1) := by decide +kernel
theorem dX9_init_155 : decode cX9_init 155 = .ok (.sipush 900, 3) := by decide +kernel
theorem dX9_init_158 : decode cX9_init 158 = .ok (.newarray .byte, 2) := by decide +kernel
theorem dX9_init_160 : decode cX9_init 160 = .ok (.putfield 64, 3) := by decide +kernel
theorem dX9_init_163 : decode cX9_init 163 = .ok (.aload_n 0, 1) := by decide +kernel
theorem dX9_init_164 : decode cX9_init 164 = .ok (.iconst (-1), 1) := by decide +kernel
theorem dX9_init_165 : decode cX9_init 165 = .ok (.putfield 67, 3) := by decide +kernel
theorem dX9_init_168 : decode cX9_init 168 = .ok (.aload_n 0, 1) := by decide +kernel
theorem dX9_init_169 : decode cX9_init 169 = .ok (.iconst (-1), 1) := by decide +kernel
theorem dX9_init_170 : decode cX9_init 170 = .ok (.putfield 71, 3) := by decide +kernel
theorem dX9_init_173 : decode cX9_init 173 = .ok (.aload_n 0, 1) := by decide +kernel
theorem dX9_init_174 : decode cX9_init 174 = .ok (.sipush 14000, 3) := by decide +kernel
theorem dX9_init_177 : decode cX9_init 177 = .ok (.newarray .int, 2) := by decide +kernel
theorem dX9_init_179 : decode cX9_init 179 = .ok (.putfield 74, 3) := by decide +kernel
theorem dX9_init_182 : decode cX9_init 182 = .ok (.return_, 1) := by decide +kernel
theorem dX9_status_0 : decode cX9_status 0 = .ok (.aload_n 0, 1) := by decide +kernel
theorem dX9_status_1 : decode cX9_status 1 = .ok (.getfield 77, 3) := by decide +kernel
theorem dX9_status_4 : decode cX9_status 4 = .ok (.ireturn, 1) := by decide +kernel
theorem dX9_refuse_0 : decode cX9_refuse 0 = .ok (.aload_n 0, 1) := by decide +kernel
theorem dX9_refuse_1 : decode cX9_refuse 1 = .ok (.iload_n 1, 1) := by decide +kernel
theorem dX9_refuse_2 : decode cX9_refuse 2 = .ok (.putfield 77, 3) := by decide +kernel
theorem dX9_refuse_5 : decode cX9_refuse 5 = .ok (.iconst (-1), 1) := by decide +kernel
theorem dX9_refuse_6 : decode cX9_refuse 6 = .ok (.ireturn, 1) := by decide +kernel
theorem dX9_gives_0 : decode cX9_gives 0 = .ok (.aload_n 0, 1) := by decide +kernel
theorem dX9_gives_1 : decode cX9_gives 1 = .ok (.iconst 0, 1) := by decide +kernel
theorem dX9_gives_2 : decode cX9_gives 2 = .ok (.putfield 77, 3) := by decide +kernel
theorem dX9_gives_5 : decode cX9_gives 5 = .ok (.iload_n 1, 1) := by decide +kernel
theorem dX9_gives_6 : decode cX9_gives 6 = .ok (.ireturn, 1) := by decide +kernel
theorem dX9_isFrom_0 : decode cX9_isFrom 0 = .ok (.iload_n 0, 1) := by decide +kernel
theorem dX9_isFrom_1 : decode cX9_isFrom 1 = .ok (.iload_n 1, 1) := by decide +kernel
theorem dX9_isFrom_2 : decode cX9_isFrom 2 = .ok (.if_icmp .lt 12, 3) := by decide +kernel
theorem dX9_isFrom_5 : decode cX9_isFrom 5 = .ok (.iload_n 0, 1) := by decide +kernel
theorem dX9_isFrom_6 : decode cX9_isFrom 6 = .ok (.iload_n 2, 1) := by decide +kernel
theorem dX9_isFrom_7 : decode cX9_isFrom 7 = .ok (.if_icmp .gt 7, 3) := by decide +kernel
theorem dX9_isFrom_10 : decode cX9_isFrom 10 = .ok (.iconst 1, 1) := by decide +kernel
theorem dX9_isFrom_11 : decode cX9_isFrom 11 = .ok (.goto 4, 3) := by decide +kernel
theorem dX9_isFrom_14 : decode cX9_isFrom 14 = .ok (.iconst 0, 1) := by decide +kernel
theorem dX9_isFrom_15 : decode cX9_isFrom 15 = .ok (.ireturn, 1) := by decide +kernel
theorem dX9_copies_0 : decode cX9_copies 0 = .ok (.iconst 0, 1) := by decide +kernel
theorem dX9_copies_1 : decode cX9_copies 1 = .ok (.istore_n 3, 1) := by decide +kernel
theorem dX9_copies_2 : decode cX9_copies 2 = .ok (.iload_n 3, 1) := by decide +kernel
theorem dX9_copies_3 : decode cX9_copies 3 = .ok (.sipush 4809, 3) := by decide +kernel
theorem dX9_copies_6 : decode cX9_copies 6 = .ok (.if_icmp .ge 25, 3) := by decide +kernel
theorem dX9_copies_9 : decode cX9_copies 9 = .ok (.aload_n 0, 1) := by decide +kernel
theorem dX9_copies_10 : decode cX9_copies 10 = .ok (.getfield 8, 3) := by decide +kernel
theorem dX9_copies_13 : decode cX9_copies 13 = .ok (.iload_n 2, 1) := by decide +kernel
theorem dX9_copies_14 : decode cX9_copies 14 = .ok (.iload_n 3, 1) := by decide +kernel
theorem dX9_copies_15 : decode cX9_copies 15 = .ok (.iadd, 1) := by decide +kernel
theorem dX9_copies_16 : decode cX9_copies 16 = .ok (.aload_n 0, 1) := by decide +kernel
theorem dX9_copies_17 : decode cX9_copies 17 = .ok (.getfield 8, 3) := by decide +kernel
theorem dX9_copies_20 : decode cX9_copies 20 = .ok (.iload_n 1, 1) := by decide +kernel
theorem dX9_copies_21 : decode cX9_copies 21 = .ok (.iload_n 3, 1) := by decide +kernel
theorem dX9_copies_22 : decode cX9_copies 22 = .ok (.iadd, 1) := by decide +kernel
theorem dX9_copies_23 : decode cX9_copies 23 = .ok (.iaload, 1) := by decide +kernel
theorem dX9_copies_24 : decode cX9_copies 24 = .ok (.iastore, 1) := by decide +kernel
theorem dX9_copies_25 : decode cX9_copies 25 = .ok (.iinc 3 1, 3) := by decide +kernel
theorem dX9_copies_28 : decode cX9_copies 28 = .ok (.goto (-26), 3) := by decide +kernel
theorem dX9_copies_31 : decode cX9_copies 31 = .ok (.return_, 1) := by decide +kernel
theorem dX9_many_0 : decode cX9_many 0 = .ok (.aload_n 0, 1) := by decide +kernel
theorem dX9_many_1 : decode cX9_many 1 = .ok (.getfield 8, 3) := by decide +kernel
theorem dX9_many_4 : decode cX9_many 4 = .ok (.iconst 0, 1) := by decide +kernel
theorem dX9_many_5 : decode cX9_many 5 = .ok (.iaload, 1) := by decide +kernel
theorem dX9_many_6 : decode cX9_many 6 = .ok (.ireturn, 1) := by decide +kernel
theorem dX9_isText_0 : decode cX9_isText 0 = .ok (.iload_n 1, 1) := by decide +kernel
theorem dX9_isText_1 : decode cX9_isText 1 = .ok (.ifCond .lt 15, 3) := by decide +kernel
theorem dX9_isText_4 : decode cX9_isText 4 = .ok (.iload_n 1, 1) := by decide +kernel
theorem dX9_isText_5 : decode cX9_isText 5 = .ok (.aload_n 0, 1) := by decide +kernel
theorem dX9_isText_6 : decode cX9_isText 6 = .ok (.invokevirtual 80, 3) := by decide +kernel
theorem dX9_isText_9 : decode cX9_isText 9 = .ok (.if_icmp .ge 7, 3) := by decide +kernel
theorem dX9_isText_12 : decode cX9_isText 12 = .ok (.iconst 1, 1) := by decide +kernel
theorem dX9_isText_13 : decode cX9_isText 13 = .ok (.goto 4, 3) := by decide +kernel
theorem dX9_isText_16 : decode cX9_isText 16 = .ok (.iconst 0, 1) := by decide +kernel
theorem dX9_isText_17 : decode cX9_isText 17 = .ok (.ireturn, 1) := by decide +kernel
theorem dX9_sizeOf_0 : decode cX9_sizeOf 0 = .ok (.aload_n 0, 1) := by decide +kernel
theorem dX9_sizeOf_1 : decode cX9_sizeOf 1 = .ok (.getfield 8, 3) := by decide +kernel
theorem dX9_sizeOf_4 : decode cX9_sizeOf 4 = .ok (.iconst 1, 1) := by decide +kernel
theorem dX9_sizeOf_5 : decode cX9_sizeOf 5 = .ok (.iload_n 1, 1) := by decide +kernel
theorem dX9_sizeOf_6 : decode cX9_sizeOf 6 = .ok (.iadd, 1) := by decide +kernel
theorem dX9_sizeOf_7 : decode cX9_sizeOf 7 = .ok (.iaload, 1) := by decide +kernel
theorem dX9_sizeOf_8 : decode cX9_sizeOf 8 = .ok (.ireturn, 1) := by decide +kernel
theorem dX9_at_0 : decode cX9_at 0 = .ok (.aload_n 0, 1) := by decide +kernel
theorem dX9_at_1 : decode cX9_at 1 = .ok (.getfield 8, 3) := by decide +kernel
theorem dX9_at_4 : decode cX9_at 4 = .ok (.bipush 9, 2) := by decide +kernel
theorem dX9_at_6 : decode cX9_at 6 = .ok (.sipush 600, 3) := by decide +kernel
theorem dX9_at_9 : decode cX9_at 9 = .ok (.iload_n 1, 1) := by decide +kernel
theorem dX9_at_10 : decode cX9_at 10 = .ok (.imul, 1) := by decide +kernel
theorem dX9_at_11 : decode cX9_at 11 = .ok (.iadd, 1) := by decide +kernel
theorem dX9_at_12 : decode cX9_at 12 = .ok (.iload_n 2, 1) := by decide +kernel
theorem dX9_at_13 : decode cX9_at 13 = .ok (.iadd, 1) := by decide +kernel
theorem dX9_at_14 : decode cX9_at 14 = .ok (.iaload, 1) := by decide +kernel
theorem dX9_at_15 : decode cX9_at 15 = .ok (.ireturn, 1) := by decide +kernel
theorem dX9_forgets_0 : decode cX9_forgets 0 = .ok (.iconst 0, 1) := by decide +kernel
theorem dX9_forgets_1 : decode cX9_forgets 1 = .ok (.istore_n 1, 1) := by decide +kernel
theorem dX9_forgets_2 : decode cX9_forgets 2 = .ok (.iload_n 1, 1) := by decide +kernel
theorem dX9_forgets_3 : decode cX9_forgets 3 = .ok (.ldc 35, 2) := by decide +kernel
theorem dX9_forgets_5 : decode cX9_forgets 5 = .ok (.if_icmp .ge 16, 3) := by decide +kernel
theorem dX9_forgets_8 : decode cX9_forgets 8 = .ok (.aload_n 0, 1) := by decide +kernel
theorem dX9_forgets_9 : decode cX9_forgets 9 = .ok (.getfield 36, 3) := by decide +kernel
theorem dX9_forgets_12 : decode cX9_forgets 12 = .ok (.iload_n 1, 1) := by decide +kernel
theorem dX9_forgets_13 : decode cX9_forgets 13 = .ok (.iconst (-1), 1) := by decide +kernel
theorem dX9_forgets_14 : decode cX9_forgets 14 = .ok (.iastore, 1) := by decide +kernel
theorem dX9_forgets_15 : decode cX9_forgets 15 = .ok (.iinc 1 1, 3) := by decide +kernel
theorem dX9_forgets_18 : decode cX9_forgets 18 = .ok (.goto (-16), 3) := by decide +kernel
theorem dX9_forgets_21 : decode cX9_forgets 21 = .ok (.aload_n 0, 1) := by decide +kernel
theorem dX9_forgets_22 : decode cX9_forgets 22 = .ok (.iconst 0, 1) := by decide +kernel
theorem dX9_forgets_23 : decode cX9_forgets 23 = .ok (.putfield 84, 3) := by decide +kernel
theorem dX9_forgets_26 : decode cX9_forgets 26 = .ok (.return_, 1) := by decide +kernel
theorem dX9_mix_0 : decode cX9_mix 0 = .ok (.iload_n 0, 1) := by decide +kernel
theorem dX9_mix_1 : decode cX9_mix 1 = .ok (.iload_n 1, 1) := by decide +kernel
theorem dX9_mix_2 : decode cX9_mix 2 = .ok (.ixor, 1) := by decide +kernel
theorem dX9_mix_3 : decode cX9_mix 3 = .ok (.ldc 87, 2) := by decide +kernel
theorem dX9_mix_5 : decode cX9_mix 5 = .ok (.imul, 1) := by decide +kernel
theorem dX9_mix_6 : decode cX9_mix 6 = .ok (.istore_n 2, 1) := by decide +kernel
theorem dX9_mix_7 : decode cX9_mix 7 = .ok (.iload_n 2, 1) := by decide +kernel
theorem dX9_mix_8 : decode cX9_mix 8 = .ok (.iload_n 2, 1) := by decide +kernel
theorem dX9_mix_9 : decode cX9_mix 9 = .ok (.bipush 15, 2) := by decide +kernel
theorem dX9_mix_11 : decode cX9_mix 11 = .ok (.iushr, 1) := by decide +kernel
theorem dX9_mix_12 : decode cX9_mix 12 = .ok (.ixor, 1) := by decide +kernel
theorem dX9_mix_13 : decode cX9_mix 13 = .ok (.ireturn, 1) := by decide +kernel
theorem dX9_ruleOf_0 : decode cX9_ruleOf 0 = .ok (.iload_n 1, 1) := by decide +kernel
theorem dX9_ruleOf_1 : decode cX9_ruleOf 1 = .ok (.iload_n 2, 1) := by decide +kernel
theorem dX9_ruleOf_2 : decode cX9_ruleOf 2 = .ok (.invokestatic 88, 3) := by decide +kernel
theorem dX9_ruleOf_5 : decode cX9_ruleOf 5 = .ok (.iload_n 3, 1) := by decide +kernel
theorem dX9_ruleOf_6 : decode cX9_ruleOf 6 = .ok (.invokestatic 88, 3) := by decide +kernel
theorem dX9_ruleOf_9 : decode cX9_ruleOf 9 = .ok (.sipush 32767, 3) := by decide +kernel
theorem dX9_ruleOf_12 : decode cX9_ruleOf 12 = .ok (.iand, 1) := by decide +kernel
theorem dX9_ruleOf_13 : decode cX9_ruleOf 13 = .ok (.istore 4, 2) := by decide +kernel
theorem dX9_ruleOf_15 : decode cX9_ruleOf 15 = .ok (.aload_n 0, 1) := by decide +kernel
theorem dX9_ruleOf_16 : decode cX9_ruleOf 16 = .ok (.getfield 36, 3) := by decide +kernel
theorem dX9_ruleOf_19 : decode cX9_ruleOf 19 = .ok (.iload 4, 2) := by decide +kernel
theorem dX9_ruleOf_21 : decode cX9_ruleOf 21 = .ok (.iaload, 1) := by decide +kernel
theorem dX9_ruleOf_22 : decode cX9_ruleOf 22 = .ok (.iconst (-1), 1) := by decide +kernel
theorem dX9_ruleOf_23 : decode cX9_ruleOf 23 = .ok (.if_icmp .eq 61, 3) := by decide +kernel
theorem dX9_ruleOf_26 : decode cX9_ruleOf 26 = .ok (.aload_n 0, 1) := by decide +kernel
theorem dX9_ruleOf_27 : decode cX9_ruleOf 27 = .ok (.getfield 36, 3) := by decide +kernel
theorem dX9_ruleOf_30 : decode cX9_ruleOf 30 = .ok (.iload 4, 2) := by decide +kernel
theorem dX9_ruleOf_32 : decode cX9_ruleOf 32 = .ok (.iaload, 1) := by decide +kernel
theorem dX9_ruleOf_33 : decode cX9_ruleOf 33 = .ok (.istore 5, 2) := by decide +kernel
theorem dX9_ruleOf_35 : decode cX9_ruleOf 35 = .ok (.aload_n 0, 1) := by decide +kernel
theorem dX9_ruleOf_36 : decode cX9_ruleOf 36 = .ok (.getfield 17, 3) := by decide +kernel
theorem dX9_ruleOf_39 : decode cX9_ruleOf 39 = .ok (.iload 5, 2) := by decide +kernel
theorem dX9_ruleOf_41 : decode cX9_ruleOf 41 = .ok (.iaload, 1) := by decide +kernel
theorem dX9_ruleOf_42 : decode cX9_ruleOf 42 = .ok (.iload_n 1, 1) := by decide +kernel
theorem dX9_ruleOf_43 : decode cX9_ruleOf 43 = .ok (.if_icmp .ne 28, 3) := by decide +kernel
theorem dX9_ruleOf_46 : decode cX9_ruleOf 46 = .ok (.aload_n 0, 1) := by decide +kernel
theorem dX9_ruleOf_47 : decode cX9_ruleOf 47 = .ok (.getfield 20, 3) := by decide +kernel
theorem dX9_ruleOf_50 : decode cX9_ruleOf 50 = .ok (.iload 5, 2) := by decide +kernel
theorem dX9_ruleOf_52 : decode cX9_ruleOf 52 = .ok (.iaload, 1) := by decide +kernel
theorem dX9_ruleOf_53 : decode cX9_ruleOf 53 = .ok (.iload_n 2, 1) := by decide +kernel
theorem dX9_ruleOf_54 : decode cX9_ruleOf 54 = .ok (.if_icmp .ne 17, 3) := by decide +kernel
theorem dX9_ruleOf_57 : decode cX9_ruleOf 57 = .ok (.aload_n 0, 1) := by decide +kernel
theorem dX9_ruleOf_58 : decode cX9_ruleOf 58 = .ok (.getfield 23, 3) := by decide +kernel
theorem dX9_ruleOf_61 : decode cX9_ruleOf 61 = .ok (.iload 5, 2) := by decide +kernel
theorem dX9_ruleOf_63 : decode cX9_ruleOf 63 = .ok (.iaload, 1) := by decide +kernel
theorem dX9_ruleOf_64 : decode cX9_ruleOf 64 = .ok (.iload_n 3, 1) := by decide +kernel
theorem dX9_ruleOf_65 : decode cX9_ruleOf 65 = .ok (.if_icmp .ne 6, 3) := by decide +kernel
theorem dX9_ruleOf_68 : decode cX9_ruleOf 68 = .ok (.iload 5, 2) := by decide +kernel
theorem dX9_ruleOf_70 : decode cX9_ruleOf 70 = .ok (.ireturn, 1) := by decide +kernel
theorem dX9_ruleOf_71 : decode cX9_ruleOf 71 = .ok (.iload 4, 2) := by decide +kernel
theorem dX9_ruleOf_73 : decode cX9_ruleOf 73 = .ok (.iconst 1, 1) := by decide +kernel
theorem dX9_ruleOf_74 : decode cX9_ruleOf 74 = .ok (.iadd, 1) := by decide +kernel
theorem dX9_ruleOf_75 : decode cX9_ruleOf 75 = .ok (.sipush 32767, 3) := by decide +kernel
theorem dX9_ruleOf_78 : decode cX9_ruleOf 78 = .ok (.iand, 1) := by decide +kernel
theorem dX9_ruleOf_79 : decode cX9_ruleOf 79 = .ok (.istore 4, 2) := by decide +kernel
theorem dX9_ruleOf_81 : decode cX9_ruleOf 81 = .ok (.goto (-66), 3) := by decide +kernel
theorem dX9_ruleOf_84 : decode cX9_ruleOf 84 = .ok (.aload_n 0, 1) := by decide +kernel
theorem dX9_ruleOf_85 : decode cX9_ruleOf 85 = .ok (.getfield 84, 3) := by decide +kernel
theorem dX9_ruleOf_88 : decode cX9_ruleOf 88 = .ok (.istore 5, 2) := by decide +kernel
theorem dX9_ruleOf_90 : decode cX9_ruleOf 90 = .ok (.aload_n 0, 1) := by decide +kernel
theorem dX9_ruleOf_91 : decode cX9_ruleOf 91 = .ok (.dup, 1) := by decide +kernel
theorem dX9_ruleOf_92 : decode cX9_ruleOf 92 = .ok (.getfield 84, 3) := by decide +kernel
theorem dX9_ruleOf_95 : decode cX9_ruleOf 95 = .ok (.iconst 1, 1) := by decide +kernel
theorem dX9_ruleOf_96 : decode cX9_ruleOf 96 = .ok (.iadd, 1) := by decide +kernel
theorem dX9_ruleOf_97 : decode cX9_ruleOf 97 = .ok (.putfield 84, 3) := by decide +kernel
theorem dX9_ruleOf_100 : decode cX9_ruleOf 100 = .ok (.aload_n 0, 1) := by decide +kernel
theorem dX9_ruleOf_101 : decode cX9_ruleOf 101 = .ok (.getfield 36, 3) := by decide +kernel
theorem dX9_ruleOf_104 : decode cX9_ruleOf 104 = .ok (.iload 4, 2) := by decide +kernel
theorem dX9_ruleOf_106 : decode cX9_ruleOf 106 = .ok (.iload 5, 2) := by decide +kernel
theorem dX9_ruleOf_108 : decode cX9_ruleOf 108 = .ok (.iastore, 1) := by decide +kernel
theorem dX9_ruleOf_109 : decode cX9_ruleOf 109 = .ok (.aload_n 0, 1) := by decide +kernel
theorem dX9_ruleOf_110 : decode cX9_ruleOf 110 = .ok (.getfield 17, 3) := by decide +kernel
theorem dX9_ruleOf_113 : decode cX9_ruleOf 113 = .ok (.iload 5, 2) := by decide +kernel
theorem dX9_ruleOf_115 : decode cX9_ruleOf 115 = .ok (.iload_n 1, 1) := by decide +kernel
theorem dX9_ruleOf_116 : decode cX9_ruleOf 116 = .ok (.iastore, 1) := by decide +kernel
theorem dX9_ruleOf_117 : decode cX9_ruleOf 117 = .ok (.aload_n 0, 1) := by decide +kernel
theorem dX9_ruleOf_118 : decode cX9_ruleOf 118 = .ok (.getfield 20, 3) := by decide +kernel
theorem dX9_ruleOf_121 : decode cX9_ruleOf 121 = .ok (.iload 5, 2) := by decide +kernel
theorem dX9_ruleOf_123 : decode cX9_ruleOf 123 = .ok (.iload_n 2, 1) := by decide +kernel
theorem dX9_ruleOf_124 : decode cX9_ruleOf 124 = .ok (.iastore, 1) := by decide +kernel
theorem dX9_ruleOf_125 : decode cX9_ruleOf 125 = .ok (.aload_n 0, 1) := by decide +kernel
theorem dX9_ruleOf_126 : decode cX9_ruleOf 126 = .ok (.getfield 23, 3) := by decide +kernel
theorem dX9_ruleOf_129 : decode cX9_ruleOf 129 = .ok (.iload 5, 2) := by decide +kernel
theorem dX9_ruleOf_131 : decode cX9_ruleOf 131 = .ok (.iload_n 3, 1) := by decide +kernel
theorem dX9_ruleOf_132 : decode cX9_ruleOf 132 = .ok (.iastore, 1) := by decide +kernel
theorem dX9_ruleOf_133 : decode cX9_ruleOf 133 = .ok (.aload_n 0, 1) := by decide +kernel
theorem dX9_ruleOf_134 : decode cX9_ruleOf 134 = .ok (.getfield 26, 3) := by decide +kernel
theorem dX9_ruleOf_137 : decode cX9_ruleOf 137 = .ok (.iload 5, 2) := by decide +kernel
theorem dX9_ruleOf_139 : decode cX9_ruleOf 139 = .ok (.iload_n 1, 1) := by decide +kernel
theorem dX9_ruleOf_140 : decode cX9_ruleOf 140 = .ok (.ifCond .ne 14, 3) := by decide +kernel
theorem dX9_ruleOf_143 : decode cX9_ruleOf 143 = .ok (.bipush 7, 2) := by decide +kernel
theorem dX9_ruleOf_145 : decode cX9_ruleOf 145 = .ok (.iload_n 2, 1) := by decide +kernel
theorem dX9_ruleOf_146 : decode cX9_ruleOf 146 = .ok (.iconst 1, 1) := by decide +kernel
theorem dX9_ruleOf_147 : decode cX9_ruleOf 147 = .ok (.iadd, 1) := by decide +kernel
theorem dX9_ruleOf_148 : decode cX9_ruleOf 148 = .ok (.invokestatic 88, 3) := by decide +kernel
theorem dX9_ruleOf_151 : decode cX9_ruleOf 151 = .ok (.goto 46, 3) := by decide +kernel
theorem dX9_ruleOf_154 : decode cX9_ruleOf 154 = .ok (.iload_n 1, 1) := by decide +kernel
theorem dX9_ruleOf_155 : decode cX9_ruleOf 155 = .ok (.iconst 2, 1) := by decide +kernel
theorem dX9_ruleOf_156 : decode cX9_ruleOf 156 = .ok (.if_icmp .ne 21, 3) := by decide +kernel
theorem dX9_ruleOf_159 : decode cX9_ruleOf 159 = .ok (.bipush 11, 2) := by decide +kernel
theorem dX9_ruleOf_161 : decode cX9_ruleOf 161 = .ok (.aload_n 0, 1) := by decide +kernel
theorem dX9_ruleOf_162 : decode cX9_ruleOf 162 = .ok (.getfield 26, 3) := by decide +kernel
theorem dX9_ruleOf_165 : decode cX9_ruleOf 165 = .ok (.iload_n 2, 1) := by decide +kernel
theorem dX9_ruleOf_166 : decode cX9_ruleOf 166 = .ok (.iaload, 1) := by decide +kernel
theorem dX9_ruleOf_167 : decode cX9_ruleOf 167 = .ok (.invokestatic 88, 3) := by decide +kernel
theorem dX9_ruleOf_170 : decode cX9_ruleOf 170 = .ok (.iload_n 3, 1) := by decide +kernel
theorem dX9_ruleOf_171 : decode cX9_ruleOf 171 = .ok (.invokestatic 88, 3) := by decide +kernel
theorem dX9_ruleOf_174 : decode cX9_ruleOf 174 = .ok (.goto 23, 3) := by decide +kernel
theorem dX9_ruleOf_177 : decode cX9_ruleOf 177 = .ok (.bipush 13, 2) := by decide +kernel
theorem dX9_ruleOf_179 : decode cX9_ruleOf 179 = .ok (.aload_n 0, 1) := by decide +kernel
theorem dX9_ruleOf_180 : decode cX9_ruleOf 180 = .ok (.getfield 26, 3) := by decide +kernel
theorem dX9_ruleOf_183 : decode cX9_ruleOf 183 = .ok (.iload_n 2, 1) := by decide +kernel
theorem dX9_ruleOf_184 : decode cX9_ruleOf 184 = .ok (.iaload, 1) := by decide +kernel
theorem dX9_ruleOf_185 : decode cX9_ruleOf 185 = .ok (.invokestatic 88, 3) := by decide +kernel
theorem dX9_ruleOf_188 : decode cX9_ruleOf 188 = .ok (.aload_n 0, 1) := by decide +kernel
theorem dX9_ruleOf_189 : decode cX9_ruleOf 189 = .ok (.getfield 26, 3) := by decide +kernel
theorem dX9_ruleOf_192 : decode cX9_ruleOf 192 = .ok (.iload_n 3, 1) := by decide +kernel
theorem dX9_ruleOf_193 : decode cX9_ruleOf 193 = .ok (.iaload, 1) := by decide +kernel
theorem dX9_ruleOf_194 : decode cX9_ruleOf 194 = .ok (.invokestatic 88, 3) := by decide +kernel
theorem dX9_ruleOf_197 : decode cX9_ruleOf 197 = .ok (.iastore, 1) := by decide +kernel
theorem dX9_ruleOf_198 : decode cX9_ruleOf 198 = .ok (.aload_n 0, 1) := by decide +kernel
theorem dX9_ruleOf_199 : decode cX9_ruleOf 199 = .ok (.getfield 29, 3) := by decide +kernel
theorem dX9_ruleOf_202 : decode cX9_ruleOf 202 = .ok (.iload 5, 2) := by decide +kernel
theorem dX9_ruleOf_204 : decode cX9_ruleOf 204 = .ok (.iload_n 1, 1) := by decide +kernel
theorem dX9_ruleOf_205 : decode cX9_ruleOf 205 = .ok (.ifCond .ne 7, 3) := by decide +kernel
theorem dX9_ruleOf_208 : decode cX9_ruleOf 208 = .ok (.iconst 1, 1) := by decide +kernel
theorem dX9_ruleOf_209 : decode cX9_ruleOf 209 = .ok (.goto 32, 3) := by decide +kernel
theorem dX9_ruleOf_212 : decode cX9_ruleOf 212 = .ok (.iload_n 1, 1) := by decide +kernel
theorem dX9_ruleOf_213 : decode cX9_ruleOf 213 = .ok (.iconst 2, 1) := by decide +kernel
theorem dX9_ruleOf_214 : decode cX9_ruleOf 214 = .ok (.if_icmp .ne 14, 3) := by decide +kernel
theorem dX9_ruleOf_217 : decode cX9_ruleOf 217 = .ok (.aload_n 0, 1) := by decide +kernel
theorem dX9_ruleOf_218 : decode cX9_ruleOf 218 = .ok (.getfield 29, 3) := by decide +kernel
theorem dX9_ruleOf_221 : decode cX9_ruleOf 221 = .ok (.iload_n 2, 1) := by decide +kernel
theorem dX9_ruleOf_222 : decode cX9_ruleOf 222 = .ok (.iaload, 1) := by decide +kernel
theorem dX9_ruleOf_223 : decode cX9_ruleOf 223 = .ok (.iload_n 3, 1) := by decide +kernel
theorem dX9_ruleOf_224 : decode cX9_ruleOf 224 = .ok (.imul, 1) := by decide +kernel
theorem dX9_ruleOf_225 : decode cX9_ruleOf 225 = .ok (.goto 16, 3) := by decide +kernel
theorem dX9_ruleOf_228 : decode cX9_ruleOf 228 = .ok (.aload_n 0, 1) := by decide +kernel
theorem dX9_ruleOf_229 : decode cX9_ruleOf 229 = .ok (.getfield 29, 3) := by decide +kernel
theorem dX9_ruleOf_232 : decode cX9_ruleOf 232 = .ok (.iload_n 2, 1) := by decide +kernel
theorem dX9_ruleOf_233 : decode cX9_ruleOf 233 = .ok (.iaload, 1) := by decide +kernel
theorem dX9_ruleOf_234 : decode cX9_ruleOf 234 = .ok (.aload_n 0, 1) := by decide +kernel
theorem dX9_ruleOf_235 : decode cX9_ruleOf 235 = .ok (.getfield 29, 3) := by decide +kernel
theorem dX9_ruleOf_238 : decode cX9_ruleOf 238 = .ok (.iload_n 3, 1) := by decide +kernel
theorem dX9_ruleOf_239 : decode cX9_ruleOf 239 = .ok (.iaload, 1) := by decide +kernel
theorem dX9_ruleOf_240 : decode cX9_ruleOf 240 = .ok (.iadd, 1) := by decide +kernel
theorem dX9_ruleOf_241 : decode cX9_ruleOf 241 = .ok (.iastore, 1) := by decide +kernel
theorem dX9_ruleOf_242 : decode cX9_ruleOf 242 = .ok (.aload_n 0, 1) := by decide +kernel
theorem dX9_ruleOf_243 : decode cX9_ruleOf 243 = .ok (.getfield 32, 3) := by decide +kernel
theorem dX9_ruleOf_246 : decode cX9_ruleOf 246 = .ok (.iload 5, 2) := by decide +kernel
theorem dX9_ruleOf_248 : decode cX9_ruleOf 248 = .ok (.iload_n 1, 1) := by decide +kernel
theorem dX9_ruleOf_249 : decode cX9_ruleOf 249 = .ok (.ifCond .ne 7, 3) := by decide +kernel
theorem dX9_ruleOf_252 : decode cX9_ruleOf 252 = .ok (.iconst 0, 1) := by decide +kernel
theorem dX9_ruleOf_253 : decode cX9_ruleOf 253 = .ok (.goto 36, 3) := by decide +kernel
theorem dX9_ruleOf_256 : decode cX9_ruleOf 256 = .ok (.iload_n 1, 1) := by decide +kernel
theorem dX9_ruleOf_257 : decode cX9_ruleOf 257 = .ok (.iconst 2, 1) := by decide +kernel
theorem dX9_ruleOf_258 : decode cX9_ruleOf 258 = .ok (.if_icmp .ne 14, 3) := by decide +kernel
theorem dX9_ruleOf_261 : decode cX9_ruleOf 261 = .ok (.iconst 1, 1) := by decide +kernel
theorem dX9_ruleOf_262 : decode cX9_ruleOf 262 = .ok (.aload_n 0, 1) := by decide +kernel
theorem dX9_ruleOf_263 : decode cX9_ruleOf 263 = .ok (.getfield 32, 3) := by decide +kernel
theorem dX9_ruleOf_266 : decode cX9_ruleOf 266 = .ok (.iload_n 2, 1) := by decide +kernel
theorem dX9_ruleOf_267 : decode cX9_ruleOf 267 = .ok (.iaload, 1) := by decide +kernel
theorem dX9_ruleOf_268 : decode cX9_ruleOf 268 = .ok (.iadd, 1) := by decide +kernel
theorem dX9_ruleOf_269 : decode cX9_ruleOf 269 = .ok (.goto 20, 3) := by decide +kernel
theorem dX9_ruleOf_272 : decode cX9_ruleOf 272 = .ok (.iconst 1, 1) := by decide +kernel
theorem dX9_ruleOf_273 : decode cX9_ruleOf 273 = .ok (.aload_n 0, 1) := by decide +kernel
theorem dX9_ruleOf_274 : decode cX9_ruleOf 274 = .ok (.getfield 32, 3) := by decide +kernel
theorem dX9_ruleOf_277 : decode cX9_ruleOf 277 = .ok (.iload_n 2, 1) := by decide +kernel
theorem dX9_ruleOf_278 : decode cX9_ruleOf 278 = .ok (.iaload, 1) := by decide +kernel
theorem dX9_ruleOf_279 : decode cX9_ruleOf 279 = .ok (.aload_n 0, 1) := by decide +kernel
theorem dX9_ruleOf_280 : decode cX9_ruleOf 280 = .ok (.getfield 32, 3) := by decide +kernel
theorem dX9_ruleOf_283 : decode cX9_ruleOf 283 = .ok (.iload_n 3, 1) := by decide +kernel
theorem dX9_ruleOf_284 : decode cX9_ruleOf 284 = .ok (.iaload, 1) := by decide +kernel
theorem dX9_ruleOf_285 : decode cX9_ruleOf 285 = .ok (.invokestatic 92, 3) := by decide +kernel
theorem dX9_ruleOf_288 : decode cX9_ruleOf 288 = .ok (.iadd, 1) := by decide +kernel
theorem dX9_ruleOf_289 : decode cX9_ruleOf 289 = .ok (.iastore, 1) := by decide +kernel
theorem dX9_ruleOf_290 : decode cX9_ruleOf 290 = .ok (.iload 5, 2) := by decide +kernel
theorem dX9_ruleOf_292 : decode cX9_ruleOf 292 = .ok (.ireturn, 1) := by decide +kernel
theorem dX9_runs_0 : decode cX9_runs 0 = .ok (.iconst 0, 1) := by decide +kernel
theorem dX9_runs_1 : decode cX9_runs 1 = .ok (.istore_n 1, 1) := by decide +kernel
theorem dX9_runs_2 : decode cX9_runs 2 = .ok (.iconst 0, 1) := by decide +kernel
theorem dX9_runs_3 : decode cX9_runs 3 = .ok (.istore_n 2, 1) := by decide +kernel
theorem dX9_runs_4 : decode cX9_runs 4 = .ok (.iload_n 2, 1) := by decide +kernel
theorem dX9_runs_5 : decode cX9_runs 5 = .ok (.aload_n 0, 1) := by decide +kernel
theorem dX9_runs_6 : decode cX9_runs 6 = .ok (.getfield 97, 3) := by decide +kernel
theorem dX9_runs_9 : decode cX9_runs 9 = .ok (.if_icmp .ge 82, 3) := by decide +kernel
theorem dX9_runs_12 : decode cX9_runs 12 = .ok (.iload_n 2, 1) := by decide +kernel
theorem dX9_runs_13 : decode cX9_runs 13 = .ok (.istore_n 3, 1) := by decide +kernel
theorem dX9_runs_14 : decode cX9_runs 14 = .ok (.iload_n 3, 1) := by decide +kernel
theorem dX9_runs_15 : decode cX9_runs 15 = .ok (.aload_n 0, 1) := by decide +kernel
theorem dX9_runs_16 : decode cX9_runs 16 = .ok (.getfield 97, 3) := by decide +kernel
theorem dX9_runs_19 : decode cX9_runs 19 = .ok (.if_icmp .ge 24, 3) := by decide +kernel
theorem dX9_runs_22 : decode cX9_runs 22 = .ok (.aload_n 0, 1) := by decide +kernel
theorem dX9_runs_23 : decode cX9_runs 23 = .ok (.getfield 39, 3) := by decide +kernel
theorem dX9_runs_26 : decode cX9_runs 26 = .ok (.iload_n 3, 1) := by decide +kernel
theorem dX9_runs_27 : decode cX9_runs 27 = .ok (.iaload, 1) := by decide +kernel
theorem dX9_runs_28 : decode cX9_runs 28 = .ok (.aload_n 0, 1) := by decide +kernel
theorem dX9_runs_29 : decode cX9_runs 29 = .ok (.getfield 39, 3) := by decide +kernel
theorem dX9_runs_32 : decode cX9_runs 32 = .ok (.iload_n 2, 1) := by decide +kernel
theorem dX9_runs_33 : decode cX9_runs 33 = .ok (.iaload, 1) := by decide +kernel
theorem dX9_runs_34 : decode cX9_runs 34 = .ok (.if_icmp .ne 9, 3) := by decide +kernel
theorem dX9_runs_37 : decode cX9_runs 37 = .ok (.iinc 3 1, 3) := by decide +kernel
theorem dX9_runs_40 : decode cX9_runs 40 = .ok (.goto (-26), 3) := by decide +kernel
theorem dX9_runs_43 : decode cX9_runs 43 = .ok (.iload_n 3, 1) := by decide +kernel
theorem dX9_runs_44 : decode cX9_runs 44 = .ok (.iload_n 2, 1) := by decide +kernel
theorem dX9_runs_45 : decode cX9_runs 45 = .ok (.isub, 1) := by decide +kernel
theorem dX9_runs_46 : decode cX9_runs 46 = .ok (.iconst 1, 1) := by decide +kernel
theorem dX9_runs_47 : decode cX9_runs 47 = .ok (.if_icmp .le 20, 3) := by decide +kernel
theorem dX9_runs_50 : decode cX9_runs 50 = .ok (.aload_n 0, 1) := by decide +kernel
theorem dX9_runs_51 : decode cX9_runs 51 = .ok (.iconst 2, 1) := by decide +kernel
theorem dX9_runs_52 : decode cX9_runs 52 = .ok (.aload_n 0, 1) := by decide +kernel
theorem dX9_runs_53 : decode cX9_runs 53 = .ok (.getfield 39, 3) := by decide +kernel
theorem dX9_runs_56 : decode cX9_runs 56 = .ok (.iload_n 2, 1) := by decide +kernel
theorem dX9_runs_57 : decode cX9_runs 57 = .ok (.iaload, 1) := by decide +kernel
theorem dX9_runs_58 : decode cX9_runs 58 = .ok (.iload_n 3, 1) := by decide +kernel
theorem dX9_runs_59 : decode cX9_runs 59 = .ok (.iload_n 2, 1) := by decide +kernel
theorem dX9_runs_60 : decode cX9_runs 60 = .ok (.isub, 1) := by decide +kernel
theorem dX9_runs_61 : decode cX9_runs 61 = .ok (.invokevirtual 100, 3) := by decide +kernel
theorem dX9_runs_64 : decode cX9_runs 64 = .ok (.goto 9, 3) := by decide +kernel
theorem dX9_runs_67 : decode cX9_runs 67 = .ok (.aload_n 0, 1) := by decide +kernel
theorem dX9_runs_68 : decode cX9_runs 68 = .ok (.getfield 39, 3) := by decide +kernel
theorem dX9_runs_71 : decode cX9_runs 71 = .ok (.iload_n 2, 1) := by decide +kernel
theorem dX9_runs_72 : decode cX9_runs 72 = .ok (.iaload, 1) := by decide +kernel
theorem dX9_runs_73 : decode cX9_runs 73 = .ok (.istore 4, 2) := by decide +kernel
theorem dX9_runs_75 : decode cX9_runs 75 = .ok (.aload_n 0, 1) := by decide +kernel
theorem dX9_runs_76 : decode cX9_runs 76 = .ok (.getfield 39, 3) := by decide +kernel
theorem dX9_runs_79 : decode cX9_runs 79 = .ok (.iload_n 1, 1) := by decide +kernel
theorem dX9_runs_80 : decode cX9_runs 80 = .ok (.iload 4, 2) := by decide +kernel
theorem dX9_runs_82 : decode cX9_runs 82 = .ok (.iastore, 1) := by decide +kernel
theorem dX9_runs_83 : decode cX9_runs 83 = .ok (.iinc 1 1, 3) := by decide +kernel
theorem dX9_runs_86 : decode cX9_runs 86 = .ok (.iload_n 3, 1) := by decide +kernel
theorem dX9_runs_87 : decode cX9_runs 87 = .ok (.istore_n 2, 1) := by decide +kernel
theorem dX9_runs_88 : decode cX9_runs 88 = .ok (.goto (-84), 3) := by decide +kernel
theorem dX9_runs_91 : decode cX9_runs 91 = .ok (.aload_n 0, 1) := by decide +kernel
theorem dX9_runs_92 : decode cX9_runs 92 = .ok (.iload_n 1, 1) := by decide +kernel
theorem dX9_runs_93 : decode cX9_runs 93 = .ok (.putfield 97, 3) := by decide +kernel
theorem dX9_runs_96 : decode cX9_runs 96 = .ok (.return_, 1) := by decide +kernel
theorem dX9_pairs_0 : decode cX9_pairs 0 = .ok (.iconst 0, 1) := by decide +kernel
theorem dX9_pairs_1 : decode cX9_pairs 1 = .ok (.istore_n 2, 1) := by decide +kernel
theorem dX9_pairs_2 : decode cX9_pairs 2 = .ok (.iconst 0, 1) := by decide +kernel
theorem dX9_pairs_3 : decode cX9_pairs 3 = .ok (.istore_n 3, 1) := by decide +kernel
theorem dX9_pairs_4 : decode cX9_pairs 4 = .ok (.iload_n 3, 1) := by decide +kernel
theorem dX9_pairs_5 : decode cX9_pairs 5 = .ok (.aload_n 0, 1) := by decide +kernel
theorem dX9_pairs_6 : decode cX9_pairs 6 = .ok (.getfield 97, 3) := by decide +kernel
theorem dX9_pairs_9 : decode cX9_pairs 9 = .ok (.if_icmp .ge 130, 3) := by decide +kernel
theorem dX9_pairs_12 : decode cX9_pairs 12 = .ok (.iload_n 3, 1) := by decide +kernel
theorem dX9_pairs_13 : decode cX9_pairs 13 = .ok (.iconst 1, 1) := by decide +kernel
theorem dX9_pairs_14 : decode cX9_pairs 14 = .ok (.iadd, 1) := by decide +kernel
theorem dX9_pairs_15 : decode cX9_pairs 15 = .ok (.aload_n 0, 1) := by decide +kernel
theorem dX9_pairs_16 : decode cX9_pairs 16 = .ok (.getfield 97, 3) := by decide +kernel
theorem dX9_pairs_19 : decode cX9_pairs 19 = .ok (.if_icmp .ge 52, 3) := by decide +kernel
theorem dX9_pairs_22 : decode cX9_pairs 22 = .ok (.iload_n 1, 1) := by decide +kernel
theorem dX9_pairs_23 : decode cX9_pairs 23 = .ok (.bipush 31, 2) := by decide +kernel
theorem dX9_pairs_25 : decode cX9_pairs 25 = .ok (.if_icmp .ge 42, 3) := by decide +kernel
theorem dX9_pairs_28 : decode cX9_pairs 28 = .ok (.aload_n 0, 1) := by decide +kernel
theorem dX9_pairs_29 : decode cX9_pairs 29 = .ok (.getfield 26, 3) := by decide +kernel
theorem dX9_pairs_32 : decode cX9_pairs 32 = .ok (.aload_n 0, 1) := by decide +kernel
theorem dX9_pairs_33 : decode cX9_pairs 33 = .ok (.getfield 39, 3) := by decide +kernel
theorem dX9_pairs_36 : decode cX9_pairs 36 = .ok (.iload_n 3, 1) := by decide +kernel
theorem dX9_pairs_37 : decode cX9_pairs 37 = .ok (.iaload, 1) := by decide +kernel
theorem dX9_pairs_38 : decode cX9_pairs 38 = .ok (.iaload, 1) := by decide +kernel
theorem dX9_pairs_39 : decode cX9_pairs 39 = .ok (.iload_n 1, 1) := by decide +kernel
theorem dX9_pairs_40 : decode cX9_pairs 40 = .ok (.ishr, 1) := by decide +kernel
theorem dX9_pairs_41 : decode cX9_pairs 41 = .ok (.iconst 1, 1) := by decide +kernel
theorem dX9_pairs_42 : decode cX9_pairs 42 = .ok (.iand, 1) := by decide +kernel
theorem dX9_pairs_43 : decode cX9_pairs 43 = .ok (.ifCond .ne 28, 3) := by decide +kernel
theorem dX9_pairs_46 : decode cX9_pairs 46 = .ok (.aload_n 0, 1) := by decide +kernel
theorem dX9_pairs_47 : decode cX9_pairs 47 = .ok (.getfield 26, 3) := by decide +kernel
theorem dX9_pairs_50 : decode cX9_pairs 50 = .ok (.aload_n 0, 1) := by decide +kernel
theorem dX9_pairs_51 : decode cX9_pairs 51 = .ok (.getfield 39, 3) := by decide +kernel
theorem dX9_pairs_54 : decode cX9_pairs 54 = .ok (.iload_n 3, 1) := by decide +kernel
theorem dX9_pairs_55 : decode cX9_pairs 55 = .ok (.iconst 1, 1) := by decide +kernel
theorem dX9_pairs_56 : decode cX9_pairs 56 = .ok (.iadd, 1) := by decide +kernel
theorem dX9_pairs_57 : decode cX9_pairs 57 = .ok (.iaload, 1) := by decide +kernel
theorem dX9_pairs_58 : decode cX9_pairs 58 = .ok (.iaload, 1) := by decide +kernel
theorem dX9_pairs_59 : decode cX9_pairs 59 = .ok (.iload_n 1, 1) := by decide +kernel
theorem dX9_pairs_60 : decode cX9_pairs 60 = .ok (.ishr, 1) := by decide +kernel
theorem dX9_pairs_61 : decode cX9_pairs 61 = .ok (.iconst 1, 1) := by decide +kernel
theorem dX9_pairs_62 : decode cX9_pairs 62 = .ok (.iand, 1) := by decide +kernel
theorem dX9_pairs_63 : decode cX9_pairs 63 = .ok (.iconst 1, 1) := by decide +kernel
theorem dX9_pairs_64 : decode cX9_pairs 64 = .ok (.if_icmp .ne 7, 3) := by decide +kernel
theorem dX9_pairs_67 : decode cX9_pairs 67 = .ok (.iconst 1, 1) := by decide +kernel
theorem dX9_pairs_68 : decode cX9_pairs 68 = .ok (.goto 4, 3) := by decide +kernel
theorem dX9_pairs_71 : decode cX9_pairs 71 = .ok (.iconst 0, 1) := by decide +kernel
theorem dX9_pairs_72 : decode cX9_pairs 72 = .ok (.istore 4, 2) := by decide +kernel
theorem dX9_pairs_74 : decode cX9_pairs 74 = .ok (.iload 4, 2) := by decide +kernel
theorem dX9_pairs_76 : decode cX9_pairs 76 = .ok (.ifCond .eq 25, 3) := by decide +kernel
theorem dX9_pairs_79 : decode cX9_pairs 79 = .ok (.aload_n 0, 1) := by decide +kernel
theorem dX9_pairs_80 : decode cX9_pairs 80 = .ok (.iconst 1, 1) := by decide +kernel
theorem dX9_pairs_81 : decode cX9_pairs 81 = .ok (.aload_n 0, 1) := by decide +kernel
theorem dX9_pairs_82 : decode cX9_pairs 82 = .ok (.getfield 39, 3) := by decide +kernel
theorem dX9_pairs_85 : decode cX9_pairs 85 = .ok (.iload_n 3, 1) := by decide +kernel
theorem dX9_pairs_86 : decode cX9_pairs 86 = .ok (.iaload, 1) := by decide +kernel
theorem dX9_pairs_87 : decode cX9_pairs 87 = .ok (.aload_n 0, 1) := by decide +kernel
theorem dX9_pairs_88 : decode cX9_pairs 88 = .ok (.getfield 39, 3) := by decide +kernel
theorem dX9_pairs_91 : decode cX9_pairs 91 = .ok (.iload_n 3, 1) := by decide +kernel
theorem dX9_pairs_92 : decode cX9_pairs 92 = .ok (.iconst 1, 1) := by decide +kernel
theorem dX9_pairs_93 : decode cX9_pairs 93 = .ok (.iadd, 1) := by decide +kernel
theorem dX9_pairs_94 : decode cX9_pairs 94 = .ok (.iaload, 1) := by decide +kernel
theorem dX9_pairs_95 : decode cX9_pairs 95 = .ok (.invokevirtual 100, 3) := by decide +kernel
theorem dX9_pairs_98 : decode cX9_pairs 98 = .ok (.goto 9, 3) := by decide +kernel
theorem dX9_pairs_101 : decode cX9_pairs 101 = .ok (.aload_n 0, 1) := by decide +kernel
theorem dX9_pairs_102 : decode cX9_pairs 102 = .ok (.getfield 39, 3) := by decide +kernel
theorem dX9_pairs_105 : decode cX9_pairs 105 = .ok (.iload_n 3, 1) := by decide +kernel
theorem dX9_pairs_106 : decode cX9_pairs 106 = .ok (.iaload, 1) := by decide +kernel
theorem dX9_pairs_107 : decode cX9_pairs 107 = .ok (.istore 5, 2) := by decide +kernel
theorem dX9_pairs_109 : decode cX9_pairs 109 = .ok (.aload_n 0, 1) := by decide +kernel
theorem dX9_pairs_110 : decode cX9_pairs 110 = .ok (.getfield 39, 3) := by decide +kernel
theorem dX9_pairs_113 : decode cX9_pairs 113 = .ok (.iload_n 2, 1) := by decide +kernel
theorem dX9_pairs_114 : decode cX9_pairs 114 = .ok (.iload 5, 2) := by decide +kernel
theorem dX9_pairs_116 : decode cX9_pairs 116 = .ok (.iastore, 1) := by decide +kernel
theorem dX9_pairs_117 : decode cX9_pairs 117 = .ok (.iinc 2 1, 3) := by decide +kernel
theorem dX9_pairs_120 : decode cX9_pairs 120 = .ok (.iload_n 3, 1) := by decide +kernel
theorem dX9_pairs_121 : decode cX9_pairs 121 = .ok (.iload 4, 2) := by decide +kernel
theorem dX9_pairs_123 : decode cX9_pairs 123 = .ok (.ifCond .eq 7, 3) := by decide +kernel
theorem dX9_pairs_126 : decode cX9_pairs 126 = .ok (.iconst 1, 1) := by decide +kernel
theorem dX9_pairs_127 : decode cX9_pairs 127 = .ok (.goto 4, 3) := by decide +kernel
theorem dX9_pairs_130 : decode cX9_pairs 130 = .ok (.iconst 0, 1) := by decide +kernel
theorem dX9_pairs_131 : decode cX9_pairs 131 = .ok (.iadd, 1) := by decide +kernel
theorem dX9_pairs_132 : decode cX9_pairs 132 = .ok (.istore_n 3, 1) := by decide +kernel
theorem dX9_pairs_133 : decode cX9_pairs 133 = .ok (.iinc 3 1, 3) := by decide +kernel
theorem dX9_pairs_136 : decode cX9_pairs 136 = .ok (.goto (-132), 3) := by decide +kernel
theorem dX9_pairs_139 : decode cX9_pairs 139 = .ok (.aload_n 0, 1) := by decide +kernel
theorem dX9_pairs_140 : decode cX9_pairs 140 = .ok (.iload_n 2, 1) := by decide +kernel
theorem dX9_pairs_141 : decode cX9_pairs 141 = .ok (.putfield 97, 3) := by decide +kernel
theorem dX9_pairs_144 : decode cX9_pairs 144 = .ok (.return_, 1) := by decide +kernel
theorem dX9_lays_0 : decode cX9_lays 0 = .ok (.aload_n 0, 1) := by decide +kernel
theorem dX9_lays_1 : decode cX9_lays 1 = .ok (.iload_n 2, 1) := by decide +kernel
theorem dX9_lays_2 : decode cX9_lays 2 = .ok (.putfield 97, 3) := by decide +kernel
theorem dX9_lays_5 : decode cX9_lays 5 = .ok (.iconst 0, 1) := by decide +kernel
theorem dX9_lays_6 : decode cX9_lays 6 = .ok (.istore_n 3, 1) := by decide +kernel
theorem dX9_lays_7 : decode cX9_lays 7 = .ok (.iload_n 3, 1) := by decide +kernel
theorem dX9_lays_8 : decode cX9_lays 8 = .ok (.iload_n 2, 1) := by decide +kernel
theorem dX9_lays_9 : decode cX9_lays 9 = .ok (.if_icmp .ge 29, 3) := by decide +kernel
theorem dX9_lays_12 : decode cX9_lays 12 = .ok (.aload_n 0, 1) := by decide +kernel
theorem dX9_lays_13 : decode cX9_lays 13 = .ok (.getfield 39, 3) := by decide +kernel
theorem dX9_lays_16 : decode cX9_lays 16 = .ok (.iload_n 3, 1) := by decide +kernel
theorem dX9_lays_17 : decode cX9_lays 17 = .ok (.aload_n 0, 1) := by decide +kernel
theorem dX9_lays_18 : decode cX9_lays 18 = .ok (.iconst 0, 1) := by decide +kernel
theorem dX9_lays_19 : decode cX9_lays 19 = .ok (.aload_n 0, 1) := by decide +kernel
theorem dX9_lays_20 : decode cX9_lays 20 = .ok (.getfield 8, 3) := by decide +kernel
theorem dX9_lays_23 : decode cX9_lays 23 = .ok (.iload_n 1, 1) := by decide +kernel
theorem dX9_lays_24 : decode cX9_lays 24 = .ok (.iload_n 3, 1) := by decide +kernel
theorem dX9_lays_25 : decode cX9_lays 25 = .ok (.iadd, 1) := by decide +kernel
theorem dX9_lays_26 : decode cX9_lays 26 = .ok (.iaload, 1) := by decide +kernel
theorem dX9_lays_27 : decode cX9_lays 27 = .ok (.iconst 0, 1) := by decide +kernel
theorem dX9_lays_28 : decode cX9_lays 28 = .ok (.invokevirtual 100, 3) := by decide +kernel
theorem dX9_lays_31 : decode cX9_lays 31 = .ok (.iastore, 1) := by decide +kernel
theorem dX9_lays_32 : decode cX9_lays 32 = .ok (.iinc 3 1, 3) := by decide +kernel
theorem dX9_lays_35 : decode cX9_lays 35 = .ok (.goto (-28), 3) := by decide +kernel
theorem dX9_lays_38 : decode cX9_lays 38 = .ok (.aload_n 0, 1) := by decide +kernel
theorem dX9_lays_39 : decode cX9_lays 39 = .ok (.iconst 0, 1) := by decide +kernel
theorem dX9_lays_40 : decode cX9_lays 40 = .ok (.putfield 104, 3) := by decide +kernel
theorem dX9_lays_43 : decode cX9_lays 43 = .ok (.aload_n 0, 1) := by decide +kernel
theorem dX9_lays_44 : decode cX9_lays 44 = .ok (.getfield 97, 3) := by decide +kernel
theorem dX9_lays_47 : decode cX9_lays 47 = .ok (.iconst 1, 1) := by decide +kernel
theorem dX9_lays_48 : decode cX9_lays 48 = .ok (.if_icmp .le 37, 3) := by decide +kernel
theorem dX9_lays_51 : decode cX9_lays 51 = .ok (.aload_n 0, 1) := by decide +kernel
theorem dX9_lays_52 : decode cX9_lays 52 = .ok (.getfield 104, 3) := by decide +kernel
theorem dX9_lays_55 : decode cX9_lays 55 = .ok (.bipush 31, 2) := by decide +kernel
theorem dX9_lays_57 : decode cX9_lays 57 = .ok (.if_icmp .ge 7, 3) := by decide +kernel
theorem dX9_lays_60 : decode cX9_lays 60 = .ok (.aload_n 0, 1) := by decide +kernel
theorem dX9_lays_61 : decode cX9_lays 61 = .ok (.invokevirtual 107, 3) := by decide +kernel
theorem dX9_lays_64 : decode cX9_lays 64 = .ok (.aload_n 0, 1) := by decide +kernel
theorem dX9_lays_65 : decode cX9_lays 65 = .ok (.aload_n 0, 1) := by decide +kernel
theorem dX9_lays_66 : decode cX9_lays 66 = .ok (.getfield 104, 3) := by decide +kernel
