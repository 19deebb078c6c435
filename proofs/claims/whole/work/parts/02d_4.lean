theorem dX9_repeat_57 : decode cX9_repeat 57 = .ok (.istore_n 3, 1) := by decide +kernel
theorem dX9_repeat_58 : decode cX9_repeat 58 = .ok (.iload_n 3, 1) := by decide +kernel
theorem dX9_repeat_59 : decode cX9_repeat 59 = .ok (.iload_n 2, 1) := by decide +kernel
theorem dX9_repeat_60 : decode cX9_repeat 60 = .ok (.if_icmp .ge 20, 3) := by decide +kernel
theorem dX9_repeat_63 : decode cX9_repeat 63 = .ok (.aload_n 0, 1) := by decide +kernel
theorem dX9_repeat_64 : decode cX9_repeat 64 = .ok (.iload_n 1, 1) := by decide +kernel
theorem dX9_repeat_65 : decode cX9_repeat 65 = .ok (.iconst 0, 1) := by decide +kernel
theorem dX9_repeat_66 : decode cX9_repeat 66 = .ok (.aload_n 0, 1) := by decide +kernel
theorem dX9_repeat_67 : decode cX9_repeat 67 = .ok (.iload_n 1, 1) := by decide +kernel
theorem dX9_repeat_68 : decode cX9_repeat 68 = .ok (.invokevirtual 227, 3) := by decide +kernel
theorem dX9_repeat_71 : decode cX9_repeat 71 = .ok (.invokevirtual 282, 3) := by decide +kernel
theorem dX9_repeat_74 : decode cX9_repeat 74 = .ok (.iinc 3 1, 3) := by decide +kernel
theorem dX9_repeat_77 : decode cX9_repeat 77 = .ok (.goto (-19), 3) := by decide +kernel
theorem dX9_repeat_80 : decode cX9_repeat 80 = .ok (.aload_n 0, 1) := by decide +kernel
theorem dX9_repeat_81 : decode cX9_repeat 81 = .ok (.iconst 0, 1) := by decide +kernel
theorem dX9_repeat_82 : decode cX9_repeat 82 = .ok (.sipush 4809, 3) := by decide +kernel
theorem dX9_repeat_85 : decode cX9_repeat 85 = .ok (.invokevirtual 255, 3) := by decide +kernel
theorem dX9_repeat_88 : decode cX9_repeat 88 = .ok (.aload_n 0, 1) := by decide +kernel
theorem dX9_repeat_89 : decode cX9_repeat 89 = .ok (.iload_n 1, 1) := by decide +kernel
theorem dX9_repeat_90 : decode cX9_repeat 90 = .ok (.invokevirtual 249, 3) := by decide +kernel
theorem dX9_repeat_93 : decode cX9_repeat 93 = .ok (.aload_n 0, 1) := by decide +kernel
theorem dX9_repeat_94 : decode cX9_repeat 94 = .ok (.aload_n 0, 1) := by decide +kernel
theorem dX9_repeat_95 : decode cX9_repeat 95 = .ok (.iload_n 1, 1) := by decide +kernel
theorem dX9_repeat_96 : decode cX9_repeat 96 = .ok (.invokevirtual 227, 3) := by decide +kernel
theorem dX9_repeat_99 : decode cX9_repeat 99 = .ok (.invokevirtual 277, 3) := by decide +kernel
theorem dX9_repeat_102 : decode cX9_repeat 102 = .ok (.ireturn, 1) := by decide +kernel
theorem dX9_turn_0 : decode cX9_turn 0 = .ok (.aload_n 0, 1) := by decide +kernel
theorem dX9_turn_1 : decode cX9_turn 1 = .ok (.iload_n 1, 1) := by decide +kernel
theorem dX9_turn_2 : decode cX9_turn 2 = .ok (.invokevirtual 279, 3) := by decide +kernel
theorem dX9_turn_5 : decode cX9_turn 5 = .ok (.ifCond .ne 9, 3) := by decide +kernel
theorem dX9_turn_8 : decode cX9_turn 8 = .ok (.aload_n 0, 1) := by decide +kernel
theorem dX9_turn_9 : decode cX9_turn 9 = .ok (.iconst 2, 1) := by decide +kernel
theorem dX9_turn_10 : decode cX9_turn 10 = .ok (.invokevirtual 252, 3) := by decide +kernel
theorem dX9_turn_13 : decode cX9_turn 13 = .ok (.ireturn, 1) := by decide +kernel
theorem dX9_turn_14 : decode cX9_turn 14 = .ok (.aload_n 0, 1) := by decide +kernel
theorem dX9_turn_15 : decode cX9_turn 15 = .ok (.iload_n 1, 1) := by decide +kernel
theorem dX9_turn_16 : decode cX9_turn 16 = .ok (.invokevirtual 227, 3) := by decide +kernel
theorem dX9_turn_19 : decode cX9_turn 19 = .ok (.istore_n 2, 1) := by decide +kernel
theorem dX9_turn_20 : decode cX9_turn 20 = .ok (.iconst 1, 1) := by decide +kernel
theorem dX9_turn_21 : decode cX9_turn 21 = .ok (.istore_n 3, 1) := by decide +kernel
theorem dX9_turn_22 : decode cX9_turn 22 = .ok (.aload_n 0, 1) := by decide +kernel
theorem dX9_turn_23 : decode cX9_turn 23 = .ok (.iconst 0, 1) := by decide +kernel
theorem dX9_turn_24 : decode cX9_turn 24 = .ok (.sipush 4809, 3) := by decide +kernel
theorem dX9_turn_27 : decode cX9_turn 27 = .ok (.invokevirtual 255, 3) := by decide +kernel
theorem dX9_turn_30 : decode cX9_turn 30 = .ok (.iconst 0, 1) := by decide +kernel
theorem dX9_turn_31 : decode cX9_turn 31 = .ok (.istore 4, 2) := by decide +kernel
theorem dX9_turn_33 : decode cX9_turn 33 = .ok (.iload 4, 2) := by decide +kernel
theorem dX9_turn_35 : decode cX9_turn 35 = .ok (.iload_n 2, 1) := by decide +kernel
theorem dX9_turn_36 : decode cX9_turn 36 = .ok (.if_icmp .ge 83, 3) := by decide +kernel
theorem dX9_turn_39 : decode cX9_turn 39 = .ok (.aload_n 0, 1) := by decide +kernel
theorem dX9_turn_40 : decode cX9_turn 40 = .ok (.getfield 8, 3) := by decide +kernel
theorem dX9_turn_43 : decode cX9_turn 43 = .ok (.bipush 9, 2) := by decide +kernel
theorem dX9_turn_45 : decode cX9_turn 45 = .ok (.sipush 600, 3) := by decide +kernel
theorem dX9_turn_48 : decode cX9_turn 48 = .ok (.iload_n 1, 1) := by decide +kernel
theorem dX9_turn_49 : decode cX9_turn 49 = .ok (.imul, 1) := by decide +kernel
theorem dX9_turn_50 : decode cX9_turn 50 = .ok (.iadd, 1) := by decide +kernel
theorem dX9_turn_51 : decode cX9_turn 51 = .ok (.iload 4, 2) := by decide +kernel
theorem dX9_turn_53 : decode cX9_turn 53 = .ok (.iadd, 1) := by decide +kernel
theorem dX9_turn_54 : decode cX9_turn 54 = .ok (.aload_n 0, 1) := by decide +kernel
theorem dX9_turn_55 : decode cX9_turn 55 = .ok (.getfield 8, 3) := by decide +kernel
theorem dX9_turn_58 : decode cX9_turn 58 = .ok (.sipush 4818, 3) := by decide +kernel
theorem dX9_turn_61 : decode cX9_turn 61 = .ok (.sipush 600, 3) := by decide +kernel
theorem dX9_turn_64 : decode cX9_turn 64 = .ok (.iload_n 1, 1) := by decide +kernel
theorem dX9_turn_65 : decode cX9_turn 65 = .ok (.imul, 1) := by decide +kernel
theorem dX9_turn_66 : decode cX9_turn 66 = .ok (.iadd, 1) := by decide +kernel
theorem dX9_turn_67 : decode cX9_turn 67 = .ok (.iload_n 2, 1) := by decide +kernel
theorem dX9_turn_68 : decode cX9_turn 68 = .ok (.iadd, 1) := by decide +kernel
theorem dX9_turn_69 : decode cX9_turn 69 = .ok (.iconst 1, 1) := by decide +kernel
theorem dX9_turn_70 : decode cX9_turn 70 = .ok (.isub, 1) := by decide +kernel
theorem dX9_turn_71 : decode cX9_turn 71 = .ok (.iload 4, 2) := by decide +kernel
theorem dX9_turn_73 : decode cX9_turn 73 = .ok (.isub, 1) := by decide +kernel
theorem dX9_turn_74 : decode cX9_turn 74 = .ok (.iaload, 1) := by decide +kernel
theorem dX9_turn_75 : decode cX9_turn 75 = .ok (.iastore, 1) := by decide +kernel
theorem dX9_turn_76 : decode cX9_turn 76 = .ok (.iload_n 3, 1) := by decide +kernel
theorem dX9_turn_77 : decode cX9_turn 77 = .ok (.ifCond .eq 34, 3) := by decide +kernel
theorem dX9_turn_80 : decode cX9_turn 80 = .ok (.aload_n 0, 1) := by decide +kernel
theorem dX9_turn_81 : decode cX9_turn 81 = .ok (.iload_n 1, 1) := by decide +kernel
theorem dX9_turn_82 : decode cX9_turn 82 = .ok (.iload 4, 2) := by decide +kernel
theorem dX9_turn_84 : decode cX9_turn 84 = .ok (.invokevirtual 230, 3) := by decide +kernel
theorem dX9_turn_87 : decode cX9_turn 87 = .ok (.aload_n 0, 1) := by decide +kernel
theorem dX9_turn_88 : decode cX9_turn 88 = .ok (.getfield 8, 3) := by decide +kernel
theorem dX9_turn_91 : decode cX9_turn 91 = .ok (.sipush 4818, 3) := by decide +kernel
theorem dX9_turn_94 : decode cX9_turn 94 = .ok (.sipush 600, 3) := by decide +kernel
theorem dX9_turn_97 : decode cX9_turn 97 = .ok (.iload_n 1, 1) := by decide +kernel
theorem dX9_turn_98 : decode cX9_turn 98 = .ok (.imul, 1) := by decide +kernel
theorem dX9_turn_99 : decode cX9_turn 99 = .ok (.iadd, 1) := by decide +kernel
theorem dX9_turn_100 : decode cX9_turn 100 = .ok (.iload 4, 2) := by decide +kernel
theorem dX9_turn_102 : decode cX9_turn 102 = .ok (.iadd, 1) := by decide +kernel
theorem dX9_turn_103 : decode cX9_turn 103 = .ok (.iaload, 1) := by decide +kernel
theorem dX9_turn_104 : decode cX9_turn 104 = .ok (.if_icmp .ne 7, 3) := by decide +kernel
theorem dX9_turn_107 : decode cX9_turn 107 = .ok (.iconst 1, 1) := by decide +kernel
theorem dX9_turn_108 : decode cX9_turn 108 = .ok (.goto 4, 3) := by decide +kernel
theorem dX9_turn_111 : decode cX9_turn 111 = .ok (.iconst 0, 1) := by decide +kernel
theorem dX9_turn_112 : decode cX9_turn 112 = .ok (.istore_n 3, 1) := by decide +kernel
theorem dX9_turn_113 : decode cX9_turn 113 = .ok (.iinc 4 1, 3) := by decide +kernel
theorem dX9_turn_116 : decode cX9_turn 116 = .ok (.goto (-83), 3) := by decide +kernel
theorem dX9_turn_119 : decode cX9_turn 119 = .ok (.aload_n 0, 1) := by decide +kernel
theorem dX9_turn_120 : decode cX9_turn 120 = .ok (.iload_n 3, 1) := by decide +kernel
theorem dX9_turn_121 : decode cX9_turn 121 = .ok (.ifCond .eq 7, 3) := by decide +kernel
theorem dX9_turn_124 : decode cX9_turn 124 = .ok (.iconst 1, 1) := by decide +kernel
theorem dX9_turn_125 : decode cX9_turn 125 = .ok (.goto 4, 3) := by decide +kernel
theorem dX9_turn_128 : decode cX9_turn 128 = .ok (.iconst 0, 1) := by decide +kernel
theorem dX9_turn_129 : decode cX9_turn 129 = .ok (.invokevirtual 277, 3) := by decide +kernel
theorem dX9_turn_132 : decode cX9_turn 132 = .ok (.ireturn, 1) := by decide +kernel
theorem dX9_countOf_0 : decode cX9_countOf 0 = .ok (.iconst 0, 1) := by decide +kernel
theorem dX9_countOf_1 : decode cX9_countOf 1 = .ok (.istore 4, 2) := by decide +kernel
theorem dX9_countOf_3 : decode cX9_countOf 3 = .ok (.iconst 0, 1) := by decide +kernel
theorem dX9_countOf_4 : decode cX9_countOf 4 = .ok (.istore 5, 2) := by decide +kernel
theorem dX9_countOf_6 : decode cX9_countOf 6 = .ok (.iload 5, 2) := by decide +kernel
theorem dX9_countOf_8 : decode cX9_countOf 8 = .ok (.iload_n 3, 1) := by decide +kernel
theorem dX9_countOf_9 : decode cX9_countOf 9 = .ok (.if_icmp .ge 30, 3) := by decide +kernel
theorem dX9_countOf_12 : decode cX9_countOf 12 = .ok (.iload 4, 2) := by decide +kernel
theorem dX9_countOf_14 : decode cX9_countOf 14 = .ok (.aload_n 0, 1) := by decide +kernel
theorem dX9_countOf_15 : decode cX9_countOf 15 = .ok (.iload_n 1, 1) := by decide +kernel
theorem dX9_countOf_16 : decode cX9_countOf 16 = .ok (.iload 5, 2) := by decide +kernel
theorem dX9_countOf_18 : decode cX9_countOf 18 = .ok (.invokevirtual 230, 3) := by decide +kernel
theorem dX9_countOf_21 : decode cX9_countOf 21 = .ok (.iload_n 2, 1) := by decide +kernel
theorem dX9_countOf_22 : decode cX9_countOf 22 = .ok (.if_icmp .ne 7, 3) := by decide +kernel
theorem dX9_countOf_25 : decode cX9_countOf 25 = .ok (.iconst 1, 1) := by decide +kernel
theorem dX9_countOf_26 : decode cX9_countOf 26 = .ok (.goto 4, 3) := by decide +kernel
theorem dX9_countOf_29 : decode cX9_countOf 29 = .ok (.iconst 0, 1) := by decide +kernel
theorem dX9_countOf_30 : decode cX9_countOf 30 = .ok (.iadd, 1) := by decide +kernel
theorem dX9_countOf_31 : decode cX9_countOf 31 = .ok (.istore 4, 2) := by decide +kernel
theorem dX9_countOf_33 : decode cX9_countOf 33 = .ok (.iinc 5 1, 3) := by decide +kernel
theorem dX9_countOf_36 : decode cX9_countOf 36 = .ok (.goto (-30), 3) := by decide +kernel
theorem dX9_countOf_39 : decode cX9_countOf 39 = .ok (.iload 4, 2) := by decide +kernel
theorem dX9_countOf_41 : decode cX9_countOf 41 = .ok (.ireturn, 1) := by decide +kernel
theorem dX9_rename_0 : decode cX9_rename 0 = .ok (.iload_n 2, 1) := by decide +kernel
theorem dX9_rename_1 : decode cX9_rename 1 = .ok (.iconst 0, 1) := by decide +kernel
theorem dX9_rename_2 : decode cX9_rename 2 = .ok (.bipush 25, 2) := by decide +kernel
theorem dX9_rename_4 : decode cX9_rename 4 = .ok (.invokestatic 199, 3) := by decide +kernel
theorem dX9_rename_7 : decode cX9_rename 7 = .ok (.ifCond .eq 13, 3) := by decide +kernel
theorem dX9_rename_10 : decode cX9_rename 10 = .ok (.iload_n 3, 1) := by decide +kernel
theorem dX9_rename_11 : decode cX9_rename 11 = .ok (.iconst 0, 1) := by decide +kernel
theorem dX9_rename_12 : decode cX9_rename 12 = .ok (.bipush 25, 2) := by decide +kernel
theorem dX9_rename_14 : decode cX9_rename 14 = .ok (.invokestatic 199, 3) := by decide +kernel
theorem dX9_rename_17 : decode cX9_rename 17 = .ok (.ifCond .ne 9, 3) := by decide +kernel
theorem dX9_rename_20 : decode cX9_rename 20 = .ok (.aload_n 0, 1) := by decide +kernel
theorem dX9_rename_21 : decode cX9_rename 21 = .ok (.iconst 1, 1) := by decide +kernel
theorem dX9_rename_22 : decode cX9_rename 22 = .ok (.invokevirtual 252, 3) := by decide +kernel
theorem dX9_rename_25 : decode cX9_rename 25 = .ok (.ireturn, 1) := by decide +kernel
theorem dX9_rename_26 : decode cX9_rename 26 = .ok (.aload_n 0, 1) := by decide +kernel
theorem dX9_rename_27 : decode cX9_rename 27 = .ok (.iload_n 1, 1) := by decide +kernel
theorem dX9_rename_28 : decode cX9_rename 28 = .ok (.invokevirtual 279, 3) := by decide +kernel
theorem dX9_rename_31 : decode cX9_rename 31 = .ok (.ifCond .ne 9, 3) := by decide +kernel
theorem dX9_rename_34 : decode cX9_rename 34 = .ok (.aload_n 0, 1) := by decide +kernel
theorem dX9_rename_35 : decode cX9_rename 35 = .ok (.iconst 2, 1) := by decide +kernel
theorem dX9_rename_36 : decode cX9_rename 36 = .ok (.invokevirtual 252, 3) := by decide +kernel
theorem dX9_rename_39 : decode cX9_rename 39 = .ok (.ireturn, 1) := by decide +kernel
theorem dX9_rename_40 : decode cX9_rename 40 = .ok (.iload_n 2, 1) := by decide +kernel
theorem dX9_rename_41 : decode cX9_rename 41 = .ok (.iload_n 3, 1) := by decide +kernel
theorem dX9_rename_42 : decode cX9_rename 42 = .ok (.if_icmp .ne 9, 3) := by decide +kernel
theorem dX9_rename_45 : decode cX9_rename 45 = .ok (.aload_n 0, 1) := by decide +kernel
theorem dX9_rename_46 : decode cX9_rename 46 = .ok (.iconst 4, 1) := by decide +kernel
theorem dX9_rename_47 : decode cX9_rename 47 = .ok (.invokevirtual 252, 3) := by decide +kernel
theorem dX9_rename_50 : decode cX9_rename 50 = .ok (.ireturn, 1) := by decide +kernel
theorem dX9_rename_51 : decode cX9_rename 51 = .ok (.aload_n 0, 1) := by decide +kernel
theorem dX9_rename_52 : decode cX9_rename 52 = .ok (.iload_n 1, 1) := by decide +kernel
theorem dX9_rename_53 : decode cX9_rename 53 = .ok (.iload_n 2, 1) := by decide +kernel
theorem dX9_rename_54 : decode cX9_rename 54 = .ok (.aload_n 0, 1) := by decide +kernel
theorem dX9_rename_55 : decode cX9_rename 55 = .ok (.iload_n 1, 1) := by decide +kernel
theorem dX9_rename_56 : decode cX9_rename 56 = .ok (.invokevirtual 227, 3) := by decide +kernel
theorem dX9_rename_59 : decode cX9_rename 59 = .ok (.invokevirtual 297, 3) := by decide +kernel
theorem dX9_rename_62 : decode cX9_rename 62 = .ok (.istore 4, 2) := by decide +kernel
theorem dX9_rename_64 : decode cX9_rename 64 = .ok (.iload 4, 2) := by decide +kernel
theorem dX9_rename_66 : decode cX9_rename 66 = .ok (.ifCond .ne 9, 3) := by decide +kernel
theorem dX9_rename_69 : decode cX9_rename 69 = .ok (.aload_n 0, 1) := by decide +kernel
theorem dX9_rename_70 : decode cX9_rename 70 = .ok (.iconst 5, 1) := by decide +kernel
theorem dX9_rename_71 : decode cX9_rename 71 = .ok (.invokevirtual 252, 3) := by decide +kernel
theorem dX9_rename_74 : decode cX9_rename 74 = .ok (.ireturn, 1) := by decide +kernel
theorem dX9_rename_75 : decode cX9_rename 75 = .ok (.aload_n 0, 1) := by decide +kernel
theorem dX9_rename_76 : decode cX9_rename 76 = .ok (.iconst 0, 1) := by decide +kernel
theorem dX9_rename_77 : decode cX9_rename 77 = .ok (.sipush 4809, 3) := by decide +kernel
theorem dX9_rename_80 : decode cX9_rename 80 = .ok (.invokevirtual 255, 3) := by decide +kernel
theorem dX9_rename_83 : decode cX9_rename 83 = .ok (.bipush 9, 2) := by decide +kernel
theorem dX9_rename_85 : decode cX9_rename 85 = .ok (.sipush 600, 3) := by decide +kernel
theorem dX9_rename_88 : decode cX9_rename 88 = .ok (.iload_n 1, 1) := by decide +kernel
theorem dX9_rename_89 : decode cX9_rename 89 = .ok (.imul, 1) := by decide +kernel
theorem dX9_rename_90 : decode cX9_rename 90 = .ok (.iadd, 1) := by decide +kernel
theorem dX9_rename_91 : decode cX9_rename 91 = .ok (.istore 5, 2) := by decide +kernel
theorem dX9_rename_93 : decode cX9_rename 93 = .ok (.iload 5, 2) := by decide +kernel
theorem dX9_rename_95 : decode cX9_rename 95 = .ok (.bipush 9, 2) := by decide +kernel
theorem dX9_rename_97 : decode cX9_rename 97 = .ok (.sipush 600, 3) := by decide +kernel
theorem dX9_rename_100 : decode cX9_rename 100 = .ok (.iload_n 1, 1) := by decide +kernel
theorem dX9_rename_101 : decode cX9_rename 101 = .ok (.imul, 1) := by decide +kernel
theorem dX9_rename_102 : decode cX9_rename 102 = .ok (.iadd, 1) := by decide +kernel
theorem dX9_rename_103 : decode cX9_rename 103 = .ok (.aload_n 0, 1) := by decide +kernel
theorem dX9_rename_104 : decode cX9_rename 104 = .ok (.iload_n 1, 1) := by decide +kernel
theorem dX9_rename_105 : decode cX9_rename 105 = .ok (.invokevirtual 227, 3) := by decide +kernel
theorem dX9_rename_108 : decode cX9_rename 108 = .ok (.iadd, 1) := by decide +kernel
theorem dX9_rename_109 : decode cX9_rename 109 = .ok (.if_icmp .ge 38, 3) := by decide +kernel
theorem dX9_rename_112 : decode cX9_rename 112 = .ok (.aload_n 0, 1) := by decide +kernel
theorem dX9_rename_113 : decode cX9_rename 113 = .ok (.getfield 8, 3) := by decide +kernel
theorem dX9_rename_116 : decode cX9_rename 116 = .ok (.iload 5, 2) := by decide +kernel
theorem dX9_rename_118 : decode cX9_rename 118 = .ok (.aload_n 0, 1) := by decide +kernel
theorem dX9_rename_119 : decode cX9_rename 119 = .ok (.getfield 8, 3) := by decide +kernel
theorem dX9_rename_122 : decode cX9_rename 122 = .ok (.iload 5, 2) := by decide +kernel
theorem dX9_rename_124 : decode cX9_rename 124 = .ok (.iaload, 1) := by decide +kernel
theorem dX9_rename_125 : decode cX9_rename 125 = .ok (.iload_n 2, 1) := by decide +kernel
theorem dX9_rename_126 : decode cX9_rename 126 = .ok (.if_icmp .ne 7, 3) := by decide +kernel
theorem dX9_rename_129 : decode cX9_rename 129 = .ok (.iload_n 3, 1) := by decide +kernel
theorem dX9_rename_130 : decode cX9_rename 130 = .ok (.goto 10, 3) := by decide +kernel
theorem dX9_rename_133 : decode cX9_rename 133 = .ok (.aload_n 0, 1) := by decide +kernel
theorem dX9_rename_134 : decode cX9_rename 134 = .ok (.getfield 8, 3) := by decide +kernel
theorem dX9_rename_137 : decode cX9_rename 137 = .ok (.iload 5, 2) := by decide +kernel
theorem dX9_rename_139 : decode cX9_rename 139 = .ok (.iaload, 1) := by decide +kernel
theorem dX9_rename_140 : decode cX9_rename 140 = .ok (.iastore, 1) := by decide +kernel
theorem dX9_rename_141 : decode cX9_rename 141 = .ok (.iinc 5 1, 3) := by decide +kernel
theorem dX9_rename_144 : decode cX9_rename 144 = .ok (.goto (-51), 3) := by decide +kernel
theorem dX9_rename_147 : decode cX9_rename 147 = .ok (.aload_n 0, 1) := by decide +kernel
theorem dX9_rename_148 : decode cX9_rename 148 = .ok (.iload 4, 2) := by decide +kernel
theorem dX9_rename_150 : decode cX9_rename 150 = .ok (.invokevirtual 277, 3) := by decide +kernel
theorem dX9_rename_153 : decode cX9_rename 153 = .ok (.ireturn, 1) := by decide +kernel
theorem dX9_drop_0 : decode cX9_drop 0 = .ok (.aload_n 0, 1) := by decide +kernel
theorem dX9_drop_1 : decode cX9_drop 1 = .ok (.iload_n 1, 1) := by decide +kernel
theorem dX9_drop_2 : decode cX9_drop 2 = .ok (.invokevirtual 279, 3) := by decide +kernel
theorem dX9_drop_5 : decode cX9_drop 5 = .ok (.ifCond .ne 9, 3) := by decide +kernel
theorem dX9_drop_8 : decode cX9_drop 8 = .ok (.aload_n 0, 1) := by decide +kernel
theorem dX9_drop_9 : decode cX9_drop 9 = .ok (.iconst 2, 1) := by decide +kernel
theorem dX9_drop_10 : decode cX9_drop 10 = .ok (.invokevirtual 252, 3) := by decide +kernel
theorem dX9_drop_13 : decode cX9_drop 13 = .ok (.ireturn, 1) := by decide +kernel
theorem dX9_drop_14 : decode cX9_drop 14 = .ok (.aload_n 0, 1) := by decide +kernel
theorem dX9_drop_15 : decode cX9_drop 15 = .ok (.iconst 0, 1) := by decide +kernel
theorem dX9_drop_16 : decode cX9_drop 16 = .ok (.sipush 4809, 3) := by decide +kernel
theorem dX9_drop_19 : decode cX9_drop 19 = .ok (.invokevirtual 255, 3) := by decide +kernel
theorem dX9_drop_22 : decode cX9_drop 22 = .ok (.iload_n 1, 1) := by decide +kernel
theorem dX9_drop_23 : decode cX9_drop 23 = .ok (.iconst 1, 1) := by decide +kernel
theorem dX9_drop_24 : decode cX9_drop 24 = .ok (.iadd, 1) := by decide +kernel
theorem dX9_drop_25 : decode cX9_drop 25 = .ok (.istore_n 2, 1) := by decide +kernel
theorem dX9_drop_26 : decode cX9_drop 26 = .ok (.iload_n 2, 1) := by decide +kernel
theorem dX9_drop_27 : decode cX9_drop 27 = .ok (.aload_n 0, 1) := by decide +kernel
theorem dX9_drop_28 : decode cX9_drop 28 = .ok (.invokevirtual 80, 3) := by decide +kernel
theorem dX9_drop_31 : decode cX9_drop 31 = .ok (.if_icmp .ge 62, 3) := by decide +kernel
theorem dX9_drop_34 : decode cX9_drop 34 = .ok (.aload_n 0, 1) := by decide +kernel
theorem dX9_drop_35 : decode cX9_drop 35 = .ok (.getfield 8, 3) := by decide +kernel
theorem dX9_drop_38 : decode cX9_drop 38 = .ok (.iconst 1, 1) := by decide +kernel
theorem dX9_drop_39 : decode cX9_drop 39 = .ok (.iload_n 2, 1) := by decide +kernel
theorem dX9_drop_40 : decode cX9_drop 40 = .ok (.iadd, 1) := by decide +kernel
theorem dX9_drop_41 : decode cX9_drop 41 = .ok (.iconst 1, 1) := by decide +kernel
theorem dX9_drop_42 : decode cX9_drop 42 = .ok (.isub, 1) := by decide +kernel
theorem dX9_drop_43 : decode cX9_drop 43 = .ok (.aload_n 0, 1) := by decide +kernel
theorem dX9_drop_44 : decode cX9_drop 44 = .ok (.iload_n 2, 1) := by decide +kernel
theorem dX9_drop_45 : decode cX9_drop 45 = .ok (.invokevirtual 227, 3) := by decide +kernel
theorem dX9_drop_48 : decode cX9_drop 48 = .ok (.iastore, 1) := by decide +kernel
theorem dX9_drop_49 : decode cX9_drop 49 = .ok (.iconst 0, 1) := by decide +kernel
theorem dX9_drop_50 : decode cX9_drop 50 = .ok (.istore_n 3, 1) := by decide +kernel
theorem dX9_drop_51 : decode cX9_drop 51 = .ok (.iload_n 3, 1) := by decide +kernel
theorem dX9_drop_52 : decode cX9_drop 52 = .ok (.sipush 600, 3) := by decide +kernel
theorem dX9_drop_55 : decode cX9_drop 55 = .ok (.if_icmp .ge 32, 3) := by decide +kernel
theorem dX9_drop_58 : decode cX9_drop 58 = .ok (.aload_n 0, 1) := by decide +kernel
theorem dX9_drop_59 : decode cX9_drop 59 = .ok (.getfield 8, 3) := by decide +kernel
theorem dX9_drop_62 : decode cX9_drop 62 = .ok (.bipush 9, 2) := by decide +kernel
theorem dX9_drop_64 : decode cX9_drop 64 = .ok (.sipush 600, 3) := by decide +kernel
theorem dX9_drop_67 : decode cX9_drop 67 = .ok (.iload_n 2, 1) := by decide +kernel
theorem dX9_drop_68 : decode cX9_drop 68 = .ok (.iconst 1, 1) := by decide +kernel
theorem dX9_drop_69 : decode cX9_drop 69 = .ok (.isub, 1) := by decide +kernel
theorem dX9_drop_70 : decode cX9_drop 70 = .ok (.imul, 1) := by decide +kernel
theorem dX9_drop_71 : decode cX9_drop 71 = .ok (.iadd, 1) := by decide +kernel
theorem dX9_drop_72 : decode cX9_drop 72 = .ok (.iload_n 3, 1) := by decide +kernel
theorem dX9_drop_73 : decode cX9_drop 73 = .ok (.iadd, 1) := by decide +kernel
theorem dX9_drop_74 : decode cX9_drop 74 = .ok (.aload_n 0, 1) := by decide +kernel
theorem dX9_drop_75 : decode cX9_drop 75 = .ok (.iload_n 2, 1) := by decide +kernel
theorem dX9_drop_76 : decode cX9_drop 76 = .ok (.iload_n 3, 1) := by decide +kernel
theorem dX9_drop_77 : decode cX9_drop 77 = .ok (.invokevirtual 230, 3) := by decide +kernel
theorem dX9_drop_80 : decode cX9_drop 80 = .ok (.iastore, 1) := by decide +kernel
theorem dX9_drop_81 : decode cX9_drop 81 = .ok (.iinc 3 1, 3) := by decide +kernel
theorem dX9_drop_84 : decode cX9_drop 84 = .ok (.goto (-33), 3) := by decide +kernel
theorem dX9_drop_87 : decode cX9_drop 87 = .ok (.iinc 2 1, 3) := by decide +kernel
theorem dX9_drop_90 : decode cX9_drop 90 = .ok (.goto (-64), 3) := by decide +kernel
theorem dX9_drop_93 : decode cX9_drop 93 = .ok (.aload_n 0, 1) := by decide +kernel
theorem dX9_drop_94 : decode cX9_drop 94 = .ok (.getfield 8, 3) := by decide +kernel
theorem dX9_drop_97 : decode cX9_drop 97 = .ok (.iconst 0, 1) := by decide +kernel
theorem dX9_drop_98 : decode cX9_drop 98 = .ok (.dup2, 1) := by decide +kernel
theorem dX9_drop_99 : decode cX9_drop 99 = .ok (.iaload, 1) := by decide +kernel
theorem dX9_drop_100 : decode cX9_drop 100 = .ok (.iconst 1, 1) := by decide +kernel
theorem dX9_drop_101 : decode cX9_drop 101 = .ok (.isub, 1) := by decide +kernel
theorem dX9_drop_102 : decode cX9_drop 102 = .ok (.iastore, 1) := by decide +kernel
theorem dX9_drop_103 : decode cX9_drop 103 = .ok (.aload_n 0, 1) := by decide +kernel
theorem dX9_drop_104 : decode cX9_drop 104 = .ok (.aload_n 0, 1) := by decide +kernel
theorem dX9_drop_105 : decode cX9_drop 105 = .ok (.invokevirtual 80, 3) := by decide +kernel
theorem dX9_drop_108 : decode cX9_drop 108 = .ok (.invokevirtual 277, 3) := by decide +kernel
theorem dX9_drop_111 : decode cX9_drop 111 = .ok (.ireturn, 1) := by decide +kernel
theorem dX9_undo_0 : decode cX9_undo 0 = .ok (.aload_n 0, 1) := by decide +kernel
theorem dX9_undo_1 : decode cX9_undo 1 = .ok (.getfield 268, 3) := by decide +kernel
theorem dX9_undo_4 : decode cX9_undo 4 = .ok (.ifCond .ne 9, 3) := by decide +kernel
theorem dX9_undo_7 : decode cX9_undo 7 = .ok (.aload_n 0, 1) := by decide +kernel
theorem dX9_undo_8 : decode cX9_undo 8 = .ok (.iconst 5, 1) := by decide +kernel
theorem dX9_undo_9 : decode cX9_undo 9 = .ok (.invokevirtual 252, 3) := by decide +kernel
theorem dX9_undo_12 : decode cX9_undo 12 = .ok (.ireturn, 1) := by decide +kernel
theorem dX9_undo_13 : decode cX9_undo 13 = .ok (.aload_n 0, 1) := by decide +kernel
theorem dX9_undo_14 : decode cX9_undo 14 = .ok (.dup, 1) := by decide +kernel
theorem dX9_undo_15 : decode cX9_undo 15 = .ok (.getfield 268, 3) := by decide +kernel
theorem dX9_undo_18 : decode cX9_undo 18 = .ok (.iconst 1, 1) := by decide +kernel
theorem dX9_undo_19 : decode cX9_undo 19 = .ok (.isub, 1) := by decide +kernel
theorem dX9_undo_20 : decode cX9_undo 20 = .ok (.putfield 268, 3) := by decide +kernel
theorem dX9_undo_23 : decode cX9_undo 23 = .ok (.aload_n 0, 1) := by decide +kernel
theorem dX9_undo_24 : decode cX9_undo 24 = .ok (.sipush 9618, 3) := by decide +kernel
theorem dX9_undo_27 : decode cX9_undo 27 = .ok (.sipush 4809, 3) := by decide +kernel
theorem dX9_undo_30 : decode cX9_undo 30 = .ok (.aload_n 0, 1) := by decide +kernel
theorem dX9_undo_31 : decode cX9_undo 31 = .ok (.getfield 268, 3) := by decide +kernel
theorem dX9_undo_34 : decode cX9_undo 34 = .ok (.imul, 1) := by decide +kernel
theorem dX9_undo_35 : decode cX9_undo 35 = .ok (.iadd, 1) := by decide +kernel
theorem dX9_undo_36 : decode cX9_undo 36 = .ok (.iconst 0, 1) := by decide +kernel
theorem dX9_undo_37 : decode cX9_undo 37 = .ok (.invokevirtual 255, 3) := by decide +kernel
theorem dX9_undo_40 : decode cX9_undo 40 = .ok (.aload_n 0, 1) := by decide +kernel
theorem dX9_undo_41 : decode cX9_undo 41 = .ok (.aload_n 0, 1) := by decide +kernel
theorem dX9_undo_42 : decode cX9_undo 42 = .ok (.getfield 268, 3) := by decide +kernel
theorem dX9_undo_45 : decode cX9_undo 45 = .ok (.invokevirtual 265, 3) := by decide +kernel
theorem dX9_undo_48 : decode cX9_undo 48 = .ok (.ireturn, 1) := by decide +kernel
theorem dX9_mark_0 : decode cX9_mark 0 = .ok (.aload_n 0, 1) := by decide +kernel
theorem dX9_mark_1 : decode cX9_mark 1 = .ok (.getfield 300, 3) := by decide +kernel
theorem dX9_mark_4 : decode cX9_mark 4 = .ok (.iconst 3, 1) := by decide +kernel
theorem dX9_mark_5 : decode cX9_mark 5 = .ok (.if_icmp .ne 9, 3) := by decide +kernel
theorem dX9_mark_8 : decode cX9_mark 8 = .ok (.aload_n 0, 1) := by decide +kernel
theorem dX9_mark_9 : decode cX9_mark 9 = .ok (.iconst 3, 1) := by decide +kernel
theorem dX9_mark_10 : decode cX9_mark 10 = .ok (.invokevirtual 252, 3) := by decide +kernel
theorem dX9_mark_13 : decode cX9_mark 13 = .ok (.ireturn, 1) := by decide +kernel
theorem dX9_mark_14 : decode cX9_mark 14 = .ok (.aload_n 0, 1) := by decide +kernel
theorem dX9_mark_15 : decode cX9_mark 15 = .ok (.iconst 0, 1) := by decide +kernel
theorem dX9_mark_16 : decode cX9_mark 16 = .ok (.ldc_w 303, 3) := by decide +kernel
theorem dX9_mark_19 : decode cX9_mark 19 = .ok (.sipush 4809, 3) := by decide +kernel
theorem dX9_mark_22 : decode cX9_mark 22 = .ok (.aload_n 0, 1) := by decide +kernel
theorem dX9_mark_23 : decode cX9_mark 23 = .ok (.getfield 300, 3) := by decide +kernel
theorem dX9_mark_26 : decode cX9_mark 26 = .ok (.imul, 1) := by decide +kernel
theorem dX9_mark_27 : decode cX9_mark 27 = .ok (.iadd, 1) := by decide +kernel
theorem dX9_mark_28 : decode cX9_mark 28 = .ok (.invokevirtual 255, 3) := by decide +kernel
theorem dX9_mark_31 : decode cX9_mark 31 = .ok (.aload_n 0, 1) := by decide +kernel
theorem dX9_mark_32 : decode cX9_mark 32 = .ok (.dup, 1) := by decide +kernel
theorem dX9_mark_33 : decode cX9_mark 33 = .ok (.getfield 300, 3) := by decide +kernel
theorem dX9_mark_36 : decode cX9_mark 36 = .ok (.iconst 1, 1) := by decide +kernel
theorem dX9_mark_37 : decode cX9_mark 37 = .ok (.iadd, 1) := by decide +kernel
theorem dX9_mark_38 : decode cX9_mark 38 = .ok (.putfield 300, 3) := by decide +kernel
theorem dX9_mark_41 : decode cX9_mark 41 = .ok (.aload_n 0, 1) := by decide +kernel
theorem dX9_mark_42 : decode cX9_mark 42 = .ok (.aload_n 0, 1) := by decide +kernel
theorem dX9_mark_43 : decode cX9_mark 43 = .ok (.getfield 300, 3) := by decide +kernel
theorem dX9_mark_46 : decode cX9_mark 46 = .ok (.invokevirtual 265, 3) := by decide +kernel
theorem dX9_mark_49 : decode cX9_mark 49 = .ok (.ireturn, 1) := by decide +kernel
theorem dX9_back_0 : decode cX9_back 0 = .ok (.aload_n 0, 1) := by decide +kernel
theorem dX9_back_1 : decode cX9_back 1 = .ok (.getfield 300, 3) := by decide +kernel
theorem dX9_back_4 : decode cX9_back 4 = .ok (.ifCond .ne 9, 3) := by decide +kernel
theorem dX9_back_7 : decode cX9_back 7 = .ok (.aload_n 0, 1) := by decide +kernel
theorem dX9_back_8 : decode cX9_back 8 = .ok (.iconst 5, 1) := by decide +kernel
theorem dX9_back_9 : decode cX9_back 9 = .ok (.invokevirtual 252, 3) := by decide +kernel
theorem dX9_back_12 : decode cX9_back 12 = .ok (.ireturn, 1) := by decide +kernel
theorem dX9_back_13 : decode cX9_back 13 = .ok (.aload_n 0, 1) := by decide +kernel
theorem dX9_back_14 : decode cX9_back 14 = .ok (.dup, 1) := by decide +kernel
theorem dX9_back_15 : decode cX9_back 15 = .ok (.getfield 300, 3) := by decide +kernel
theorem dX9_back_18 : decode cX9_back 18 = .ok (.iconst 1, 1) := by decide +kernel
theorem dX9_back_19 : decode cX9_back 19 = .ok (.isub, 1) := by decide +kernel
theorem dX9_back_20 : decode cX9_back 20 = .ok (.putfield 300, 3) := by decide +kernel
theorem dX9_back_23 : decode cX9_back 23 = .ok (.aload_n 0, 1) := by decide +kernel
theorem dX9_back_24 : decode cX9_back 24 = .ok (.ldc_w 303, 3) := by decide +kernel
theorem dX9_back_27 : decode cX9_back 27 = .ok (.sipush 4809, 3) := by decide +kernel
theorem dX9_back_30 : decode cX9_back 30 = .ok (.aload_n 0, 1) := by decide +kernel
theorem dX9_back_31 : decode cX9_back 31 = .ok (.getfield 300, 3) := by decide +kernel
theorem dX9_back_34 : decode cX9_back 34 = .ok (.imul, 1) := by decide +kernel
theorem dX9_back_35 : decode cX9_back 35 = .ok (.iadd, 1) := by decide +kernel
theorem dX9_back_36 : decode cX9_back 36 = .ok (.iconst 0, 1) := by decide +kernel
theorem dX9_back_37 : decode cX9_back 37 = .ok (.invokevirtual 255, 3) := by decide +kernel
theorem dX9_back_40 : decode cX9_back 40 = .ok (.aload_n 0, 1) := by decide +kernel
theorem dX9_back_41 : decode cX9_back 41 = .ok (.aload_n 0, 1) := by decide +kernel
theorem dX9_back_42 : decode cX9_back 42 = .ok (.getfield 300, 3) := by decide +kernel
theorem dX9_back_45 : decode cX9_back 45 = .ok (.invokevirtual 265, 3) := by decide +kernel
theorem dX9_back_48 : decode cX9_back 48 = .ok (.ireturn, 1) := by decide +kernel
theorem dX9_letters_0 : decode cX9_letters 0 = .ok (.iconst 0, 1) := by decide +kernel
theorem dX9_letters_1 : decode cX9_letters 1 = .ok (.istore_n 1, 1) := by decide +kernel
theorem dX9_letters_2 : decode cX9_letters 2 = .ok (.iconst 0, 1) := by decide +kernel
theorem dX9_letters_3 : decode cX9_letters 3 = .ok (.istore_n 2, 1) := by decide +kernel
theorem dX9_letters_4 : decode cX9_letters 4 = .ok (.iload_n 2, 1) := by decide +kernel
theorem dX9_letters_5 : decode cX9_letters 5 = .ok (.aload_n 0, 1) := by decide +kernel
theorem dX9_letters_6 : decode cX9_letters 6 = .ok (.invokevirtual 80, 3) := by decide +kernel
theorem dX9_letters_9 : decode cX9_letters 9 = .ok (.if_icmp .ge 17, 3) := by decide +kernel
theorem dX9_letters_12 : decode cX9_letters 12 = .ok (.iload_n 1, 1) := by decide +kernel
theorem dX9_letters_13 : decode cX9_letters 13 = .ok (.aload_n 0, 1) := by decide +kernel
theorem dX9_letters_14 : decode cX9_letters 14 = .ok (.iload_n 2, 1) := by decide +kernel
theorem dX9_letters_15 : decode cX9_letters 15 = .ok (.invokevirtual 227, 3) := by decide +kernel
theorem dX9_letters_18 : decode cX9_letters 18 = .ok (.iadd, 1) := by decide +kernel
theorem dX9_letters_19 : decode cX9_letters 19 = .ok (.istore_n 1, 1) := by decide +kernel
theorem dX9_letters_20 : decode cX9_letters 20 = .ok (.iinc 2 1, 3) := by decide +kernel
theorem dX9_letters_23 : decode cX9_letters 23 = .ok (.goto (-19), 3) := by decide +kernel
theorem dX9_letters_26 : decode cX9_letters 26 = .ok (.iload_n 1, 1) := by decide +kernel
theorem dX9_letters_27 : decode cX9_letters 27 = .ok (.ireturn, 1) := by decide +kernel
theorem dX9_allRules_0 : decode cX9_allRules 0 = .ok (.aload_n 0, 1) := by decide +kernel
theorem dX9_allRules_1 : decode cX9_allRules 1 = .ok (.invokevirtual 123, 3) := by decide +kernel
theorem dX9_allRules_4 : decode cX9_allRules 4 = .ok (.aload_n 0, 1) := by decide +kernel
theorem dX9_allRules_5 : decode cX9_allRules 5 = .ok (.iconst 0, 1) := by decide +kernel
theorem dX9_allRules_6 : decode cX9_allRules 6 = .ok (.invokevirtual 274, 3) := by decide +kernel
theorem dX9_allRules_9 : decode cX9_allRules 9 = .ok (.ireturn, 1) := by decide +kernel
theorem dX9_many__0 : decode cX9_many_ 0 = .ok (.iload_n 1, 1) := by decide +kernel
theorem dX9_many__1 : decode cX9_many_ 1 = .ok (.tableswitch 111 0 5 #[39, 48, 57, 66, 75, 84], 39) := by decide +kernel
theorem dX9_many__40 : decode cX9_many_ 40 = .ok (.aload_n 0, 1) := by decide +kernel
theorem dX9_many__41 : decode cX9_many_ 41 = .ok (.aload_n 0, 1) := by decide +kernel
theorem dX9_many__42 : decode cX9_many_ 42 = .ok (.invokevirtual 80, 3) := by decide +kernel
theorem dX9_many__45 : decode cX9_many_ 45 = .ok (.invokevirtual 265, 3) := by decide +kernel
theorem dX9_many__48 : decode cX9_many_ 48 = .ok (.ireturn, 1) := by decide +kernel
theorem dX9_many__49 : decode cX9_many_ 49 = .ok (.aload_n 0, 1) := by decide +kernel
theorem dX9_many__50 : decode cX9_many_ 50 = .ok (.aload_n 0, 1) := by decide +kernel
theorem dX9_many__51 : decode cX9_many_ 51 = .ok (.invokevirtual 304, 3) := by decide +kernel
theorem dX9_many__54 : decode cX9_many_ 54 = .ok (.invokevirtual 265, 3) := by decide +kernel
theorem dX9_many__57 : decode cX9_many_ 57 = .ok (.ireturn, 1) := by decide +kernel
theorem dX9_many__58 : decode cX9_many_ 58 = .ok (.aload_n 0, 1) := by decide +kernel
theorem dX9_many__59 : decode cX9_many_ 59 = .ok (.aload_n 0, 1) := by decide +kernel
theorem dX9_many__60 : decode cX9_many_ 60 = .ok (.invokevirtual 307, 3) := by decide +kernel
theorem dX9_many__63 : decode cX9_many_ 63 = .ok (.invokevirtual 265, 3) := by decide +kernel
theorem dX9_many__66 : decode cX9_many_ 66 = .ok (.ireturn, 1) := by decide +kernel
theorem dX9_many__67 : decode cX9_many_ 67 = .ok (.aload_n 0, 1) := by decide +kernel
theorem dX9_many__68 : decode cX9_many_ 68 = .ok (.aload_n 0, 1) := by decide +kernel
theorem dX9_many__69 : decode cX9_many_ 69 = .ok (.getfield 268, 3) := by decide +kernel
theorem dX9_many__72 : decode cX9_many_ 72 = .ok (.invokevirtual 265, 3) := by decide +kernel
theorem dX9_many__75 : decode cX9_many_ 75 = .ok (.ireturn, 1) := by decide +kernel
theorem dX9_many__76 : decode cX9_many_ 76 = .ok (.aload_n 0, 1) := by decide +kernel
theorem dX9_many__77 : decode cX9_many_ 77 = .ok (.aload_n 0, 1) := by decide +kernel
theorem dX9_many__78 : decode cX9_many_ 78 = .ok (.getfield 300, 3) := by decide +kernel
theorem dX9_many__81 : decode cX9_many_ 81 = .ok (.invokevirtual 265, 3) := by decide +kernel
theorem dX9_many__84 : decode cX9_many_ 84 = .ok (.ireturn, 1) := by decide +kernel
theorem dX9_many__85 : decode cX9_many_ 85 = .ok (.aload_n 0, 1) := by decide +kernel
theorem dX9_many__86 : decode cX9_many_ 86 = .ok (.aload_n 0, 1) := by decide +kernel
theorem dX9_many__87 : decode cX9_many_ 87 = .ok (.getfield 268, 3) := by decide +kernel
theorem dX9_many__90 : decode cX9_many_ 90 = .ok (.ifCond .ne 7, 3) := by decide +kernel
theorem dX9_many__93 : decode cX9_many_ 93 = .ok (.iconst 0, 1) := by decide +kernel
theorem dX9_many__94 : decode cX9_many_ 94 = .ok (.goto 14, 3) := by decide +kernel
theorem dX9_many__97 : decode cX9_many_ 97 = .ok (.aload_n 0, 1) := by decide +kernel
theorem dX9_many__98 : decode cX9_many_ 98 = .ok (.getfield 14, 3) := by decide +kernel
theorem dX9_many__101 : decode cX9_many_ 101 = .ok (.aload_n 0, 1) := by decide +kernel
theorem dX9_many__102 : decode cX9_many_ 102 = .ok (.getfield 268, 3) := by decide +kernel
theorem dX9_many__105 : decode cX9_many_ 105 = .ok (.iconst 1, 1) := by decide +kernel
theorem dX9_many__106 : decode cX9_many_ 106 = .ok (.isub, 1) := by decide +kernel
theorem dX9_many__107 : decode cX9_many_ 107 = .ok (.iaload, 1) := by decide +kernel
theorem dX9_many__108 : decode cX9_many_ 108 = .ok (.invokevirtual 265, 3) := by decide +kernel
theorem dX9_many__111 : decode cX9_many_ 111 = .ok (.ireturn, 1) := by decide +kernel
theorem dX9_many__112 : decode cX9_many_ 112 = .ok (.aload_n 0, 1) := by decide +kernel
theorem dX9_many__113 : decode cX9_many_ 113 = .ok (.iconst 1, 1) := by decide +kernel
theorem dX9_many__114 : decode cX9_many_ 114 = .ok (.invokevirtual 252, 3) := by decide +kernel
theorem dX9_many__117 : decode cX9_many_ 117 = .ok (.ireturn, 1) := by decide +kernel
theorem dX9_period_0 : decode cX9_period 0 = .ok (.iconst 1, 1) := by decide +kernel
theorem dX9_period_1 : decode cX9_period 1 = .ok (.istore_n 2, 1) := by decide +kernel
theorem dX9_period_2 : decode cX9_period 2 = .ok (.iconst 0, 1) := by decide +kernel
theorem dX9_period_3 : decode cX9_period 3 = .ok (.istore_n 3, 1) := by decide +kernel
theorem dX9_period_4 : decode cX9_period 4 = .ok (.iload_n 3, 1) := by decide +kernel
theorem dX9_period_5 : decode cX9_period 5 = .ok (.ifCond .ne 70, 3) := by decide +kernel
theorem dX9_period_8 : decode cX9_period 8 = .ok (.iconst 1, 1) := by decide +kernel
theorem dX9_period_9 : decode cX9_period 9 = .ok (.istore_n 3, 1) := by decide +kernel
theorem dX9_period_10 : decode cX9_period 10 = .ok (.iconst 0, 1) := by decide +kernel
theorem dX9_period_11 : decode cX9_period 11 = .ok (.istore 4, 2) := by decide +kernel
theorem dX9_period_13 : decode cX9_period 13 = .ok (.iload 4, 2) := by decide +kernel
theorem dX9_period_15 : decode cX9_period 15 = .ok (.iload_n 2, 1) := by decide +kernel
theorem dX9_period_16 : decode cX9_period 16 = .ok (.iadd, 1) := by decide +kernel
theorem dX9_period_17 : decode cX9_period 17 = .ok (.aload_n 0, 1) := by decide +kernel
theorem dX9_period_18 : decode cX9_period 18 = .ok (.iload_n 1, 1) := by decide +kernel
theorem dX9_period_19 : decode cX9_period 19 = .ok (.invokevirtual 227, 3) := by decide +kernel
theorem dX9_period_22 : decode cX9_period 22 = .ok (.if_icmp .ge 38, 3) := by decide +kernel
theorem dX9_period_25 : decode cX9_period 25 = .ok (.iload_n 3, 1) := by decide +kernel
theorem dX9_period_26 : decode cX9_period 26 = .ok (.ifCond .eq 26, 3) := by decide +kernel
theorem dX9_period_29 : decode cX9_period 29 = .ok (.aload_n 0, 1) := by decide +kernel
theorem dX9_period_30 : decode cX9_period 30 = .ok (.iload_n 1, 1) := by decide +kernel
theorem dX9_period_31 : decode cX9_period 31 = .ok (.iload 4, 2) := by decide +kernel
theorem dX9_period_33 : decode cX9_period 33 = .ok (.invokevirtual 230, 3) := by decide +kernel
theorem dX9_period_36 : decode cX9_period 36 = .ok (.aload_n 0, 1) := by decide +kernel
theorem dX9_period_37 : decode cX9_period 37 = .ok (.iload_n 1, 1) := by decide +kernel
theorem dX9_period_38 : decode cX9_period 38 = .ok (.iload 4, 2) := by decide +kernel
theorem dX9_period_40 : decode cX9_period 40 = .ok (.iload_n 2, 1) := by decide +kernel
theorem dX9_period_41 : decode cX9_period 41 = .ok (.iadd, 1) := by decide +kernel
theorem dX9_period_42 : decode cX9_period 42 = .ok (.invokevirtual 230, 3) := by decide +kernel
theorem dX9_period_45 : decode cX9_period 45 = .ok (.if_icmp .ne 7, 3) := by decide +kernel
theorem dX9_period_48 : decode cX9_period 48 = .ok (.iconst 1, 1) := by decide +kernel
theorem dX9_period_49 : decode cX9_period 49 = .ok (.goto 4, 3) := by decide +kernel
theorem dX9_period_52 : decode cX9_period 52 = .ok (.iconst 0, 1) := by decide +kernel
theorem dX9_period_53 : decode cX9_period 53 = .ok (.istore_n 3, 1) := by decide +kernel
theorem dX9_period_54 : decode cX9_period 54 = .ok (.iinc 4 1, 3) := by decide +kernel
theorem dX9_period_57 : decode cX9_period 57 = .ok (.goto (-44), 3) := by decide +kernel
theorem dX9_period_60 : decode cX9_period 60 = .ok (.iload_n 2, 1) := by decide +kernel
theorem dX9_period_61 : decode cX9_period 61 = .ok (.iload_n 3, 1) := by decide +kernel
theorem dX9_period_62 : decode cX9_period 62 = .ok (.ifCond .eq 7, 3) := by decide +kernel
theorem dX9_period_65 : decode cX9_period 65 = .ok (.iconst 0, 1) := by decide +kernel
theorem dX9_period_66 : decode cX9_period 66 = .ok (.goto 4, 3) := by decide +kernel
theorem dX9_period_69 : decode cX9_period 69 = .ok (.iconst 1, 1) := by decide +kernel
theorem dX9_period_70 : decode cX9_period 70 = .ok (.iadd, 1) := by decide +kernel
theorem dX9_period_71 : decode cX9_period 71 = .ok (.istore_n 2, 1) := by decide +kernel
theorem dX9_period_72 : decode cX9_period 72 = .ok (.goto (-68), 3) := by decide +kernel
theorem dX9_period_75 : decode cX9_period 75 = .ok (.iload_n 2, 1) := by decide +kernel
theorem dX9_period_76 : decode cX9_period 76 = .ok (.ireturn, 1) := by decide +kernel
theorem dX9_unlike_0 : decode cX9_unlike 0 = .ok (.iconst 0, 1) := by decide +kernel
theorem dX9_unlike_1 : decode cX9_unlike 1 = .ok (.istore_n 2, 1) := by decide +kernel
theorem dX9_unlike_2 : decode cX9_unlike 2 = .ok (.iconst 0, 1) := by decide +kernel
theorem dX9_unlike_3 : decode cX9_unlike 3 = .ok (.istore_n 3, 1) := by decide +kernel
theorem dX9_unlike_4 : decode cX9_unlike 4 = .ok (.iload_n 3, 1) := by decide +kernel
theorem dX9_unlike_5 : decode cX9_unlike 5 = .ok (.bipush 26, 2) := by decide +kernel
theorem dX9_unlike_7 : decode cX9_unlike 7 = .ok (.if_icmp .ge 31, 3) := by decide +kernel
theorem dX9_unlike_10 : decode cX9_unlike 10 = .ok (.iload_n 2, 1) := by decide +kernel
theorem dX9_unlike_11 : decode cX9_unlike 11 = .ok (.aload_n 0, 1) := by decide +kernel
theorem dX9_unlike_12 : decode cX9_unlike 12 = .ok (.iload_n 1, 1) := by decide +kernel
theorem dX9_unlike_13 : decode cX9_unlike 13 = .ok (.iload_n 3, 1) := by decide +kernel
theorem dX9_unlike_14 : decode cX9_unlike 14 = .ok (.aload_n 0, 1) := by decide +kernel
theorem dX9_unlike_15 : decode cX9_unlike 15 = .ok (.iload_n 1, 1) := by decide +kernel
theorem dX9_unlike_16 : decode cX9_unlike 16 = .ok (.invokevirtual 227, 3) := by decide +kernel
theorem dX9_unlike_19 : decode cX9_unlike 19 = .ok (.invokevirtual 297, 3) := by decide +kernel
theorem dX9_unlike_22 : decode cX9_unlike 22 = .ok (.ifCond .le 7, 3) := by decide +kernel
theorem dX9_unlike_25 : decode cX9_unlike 25 = .ok (.iconst 1, 1) := by decide +kernel
theorem dX9_unlike_26 : decode cX9_unlike 26 = .ok (.goto 4, 3) := by decide +kernel
theorem dX9_unlike_29 : decode cX9_unlike 29 = .ok (.iconst 0, 1) := by decide +kernel
theorem dX9_unlike_30 : decode cX9_unlike 30 = .ok (.iadd, 1) := by decide +kernel
theorem dX9_unlike_31 : decode cX9_unlike 31 = .ok (.istore_n 2, 1) := by decide +kernel
theorem dX9_unlike_32 : decode cX9_unlike 32 = .ok (.iinc 3 1, 3) := by decide +kernel
theorem dX9_unlike_35 : decode cX9_unlike 35 = .ok (.goto (-31), 3) := by decide +kernel
theorem dX9_unlike_38 : decode cX9_unlike 38 = .ok (.iload_n 2, 1) := by decide +kernel
theorem dX9_unlike_39 : decode cX9_unlike 39 = .ok (.ireturn, 1) := by decide +kernel
theorem dX9_of_0 : decode cX9_of 0 = .ok (.iload_n 2, 1) := by decide +kernel
theorem dX9_of_1 : decode cX9_of 1 = .ok (.iconst 0, 1) := by decide +kernel
theorem dX9_of_2 : decode cX9_of 2 = .ok (.bipush 6, 2) := by decide +kernel
theorem dX9_of_4 : decode cX9_of 4 = .ok (.invokestatic 199, 3) := by decide +kernel
theorem dX9_of_7 : decode cX9_of 7 = .ok (.ifCond .ne 9, 3) := by decide +kernel
theorem dX9_of_10 : decode cX9_of 10 = .ok (.aload_n 0, 1) := by decide +kernel
theorem dX9_of_11 : decode cX9_of 11 = .ok (.iconst 1, 1) := by decide +kernel
theorem dX9_of_12 : decode cX9_of 12 = .ok (.invokevirtual 252, 3) := by decide +kernel
theorem dX9_of_15 : decode cX9_of 15 = .ok (.ireturn, 1) := by decide +kernel
theorem dX9_of_16 : decode cX9_of 16 = .ok (.aload_n 0, 1) := by decide +kernel
theorem dX9_of_17 : decode cX9_of 17 = .ok (.iload_n 1, 1) := by decide +kernel
theorem dX9_of_18 : decode cX9_of 18 = .ok (.invokevirtual 279, 3) := by decide +kernel
theorem dX9_of_21 : decode cX9_of 21 = .ok (.ifCond .ne 9, 3) := by decide +kernel
theorem dX9_of_24 : decode cX9_of 24 = .ok (.aload_n 0, 1) := by decide +kernel
theorem dX9_of_25 : decode cX9_of 25 = .ok (.iconst 2, 1) := by decide +kernel
theorem dX9_of_26 : decode cX9_of 26 = .ok (.invokevirtual 252, 3) := by decide +kernel
theorem dX9_of_29 : decode cX9_of 29 = .ok (.ireturn, 1) := by decide +kernel
theorem dX9_of_30 : decode cX9_of 30 = .ok (.aload_n 0, 1) := by decide +kernel
theorem dX9_of_31 : decode cX9_of 31 = .ok (.iload_n 1, 1) := by decide +kernel
theorem dX9_of_32 : decode cX9_of 32 = .ok (.invokevirtual 310, 3) := by decide +kernel
theorem dX9_of_35 : decode cX9_of 35 = .ok (.istore_n 3, 1) := by decide +kernel
theorem dX9_of_36 : decode cX9_of 36 = .ok (.iload_n 2, 1) := by decide +kernel
theorem dX9_of_37 : decode cX9_of 37 = .ok (.tableswitch 99 0 5 #[39, 49, 58, 69, 78, 89], 39) := by decide +kernel
theorem dX9_of_76 : decode cX9_of 76 = .ok (.aload_n 0, 1) := by decide +kernel
theorem dX9_of_77 : decode cX9_of 77 = .ok (.aload_n 0, 1) := by decide +kernel
theorem dX9_of_78 : decode cX9_of 78 = .ok (.iload_n 1, 1) := by decide +kernel
theorem dX9_of_79 : decode cX9_of 79 = .ok (.invokevirtual 227, 3) := by decide +kernel
theorem dX9_of_82 : decode cX9_of 82 = .ok (.invokevirtual 265, 3) := by decide +kernel
theorem dX9_of_85 : decode cX9_of 85 = .ok (.ireturn, 1) := by decide +kernel
theorem dX9_of_86 : decode cX9_of 86 = .ok (.aload_n 0, 1) := by decide +kernel
theorem dX9_of_87 : decode cX9_of 87 = .ok (.aload_n 0, 1) := by decide +kernel
theorem dX9_of_88 : decode cX9_of 88 = .ok (.getfield 120, 3) := by decide +kernel
theorem dX9_of_91 : decode cX9_of 91 = .ok (.invokevirtual 265, 3) := by decide +kernel
theorem dX9_of_94 : decode cX9_of 94 = .ok (.ireturn, 1) := by decide +kernel
theorem dX9_of_95 : decode cX9_of 95 = .ok (.aload_n 0, 1) := by decide +kernel
theorem dX9_of_96 : decode cX9_of 96 = .ok (.aload_n 0, 1) := by decide +kernel
theorem dX9_of_97 : decode cX9_of 97 = .ok (.getfield 32, 3) := by decide +kernel
theorem dX9_of_100 : decode cX9_of 100 = .ok (.iload_n 3, 1) := by decide +kernel
theorem dX9_of_101 : decode cX9_of 101 = .ok (.iaload, 1) := by decide +kernel
theorem dX9_of_102 : decode cX9_of 102 = .ok (.invokevirtual 265, 3) := by decide +kernel
theorem dX9_of_105 : decode cX9_of 105 = .ok (.ireturn, 1) := by decide +kernel
theorem dX9_of_106 : decode cX9_of 106 = .ok (.aload_n 0, 1) := by decide +kernel
theorem dX9_of_107 : decode cX9_of 107 = .ok (.aload_n 0, 1) := by decide +kernel
theorem dX9_of_108 : decode cX9_of 108 = .ok (.getfield 104, 3) := by decide +kernel
theorem dX9_of_111 : decode cX9_of 111 = .ok (.invokevirtual 265, 3) := by decide +kernel
theorem dX9_of_114 : decode cX9_of 114 = .ok (.ireturn, 1) := by decide +kernel
theorem dX9_of_115 : decode cX9_of 115 = .ok (.aload_n 0, 1) := by decide +kernel
theorem dX9_of_116 : decode cX9_of 116 = .ok (.aload_n 0, 1) := by decide +kernel
theorem dX9_of_117 : decode cX9_of 117 = .ok (.getfield 26, 3) := by decide +kernel
theorem dX9_of_120 : decode cX9_of 120 = .ok (.iload_n 3, 1) := by decide +kernel
theorem dX9_of_121 : decode cX9_of 121 = .ok (.iaload, 1) := by decide +kernel
theorem dX9_of_122 : decode cX9_of 122 = .ok (.invokevirtual 265, 3) := by decide +kernel
theorem dX9_of_125 : decode cX9_of 125 = .ok (.ireturn, 1) := by decide +kernel
theorem dX9_of_126 : decode cX9_of 126 = .ok (.aload_n 0, 1) := by decide +kernel
theorem dX9_of_127 : decode cX9_of 127 = .ok (.aload_n 0, 1) := by decide +kernel
theorem dX9_of_128 : decode cX9_of 128 = .ok (.iload_n 1, 1) := by decide +kernel
theorem dX9_of_129 : decode cX9_of 129 = .ok (.invokevirtual 313, 3) := by decide +kernel
theorem dX9_of_132 : decode cX9_of 132 = .ok (.invokevirtual 265, 3) := by decide +kernel
theorem dX9_of_135 : decode cX9_of 135 = .ok (.ireturn, 1) := by decide +kernel
theorem dX9_of_136 : decode cX9_of 136 = .ok (.aload_n 0, 1) := by decide +kernel
theorem dX9_of_137 : decode cX9_of 137 = .ok (.aload_n 0, 1) := by decide +kernel
theorem dX9_of_138 : decode cX9_of 138 = .ok (.iload_n 1, 1) := by decide +kernel
theorem dX9_of_139 : decode cX9_of 139 = .ok (.invokevirtual 316, 3) := by decide +kernel
theorem dX9_of_142 : decode cX9_of 142 = .ok (.invokevirtual 265, 3) := by decide +kernel
theorem dX9_of_145 : decode cX9_of 145 = .ok (.ireturn, 1) := by decide +kernel
theorem dX9_letter_0 : decode cX9_letter 0 = .ok (.iload_n 2, 1) := by decide +kernel
theorem dX9_letter_1 : decode cX9_letter 1 = .ok (.ifCond .ge 9, 3) := by decide +kernel
theorem dX9_letter_4 : decode cX9_letter 4 = .ok (.aload_n 0, 1) := by decide +kernel
theorem dX9_letter_5 : decode cX9_letter 5 = .ok (.iconst 1, 1) := by decide +kernel
theorem dX9_letter_6 : decode cX9_letter 6 = .ok (.invokevirtual 252, 3) := by decide +kernel
theorem dX9_letter_9 : decode cX9_letter 9 = .ok (.ireturn, 1) := by decide +kernel
theorem dX9_letter_10 : decode cX9_letter 10 = .ok (.aload_n 0, 1) := by decide +kernel
theorem dX9_letter_11 : decode cX9_letter 11 = .ok (.iload_n 1, 1) := by decide +kernel
theorem dX9_letter_12 : decode cX9_letter 12 = .ok (.invokevirtual 279, 3) := by decide +kernel
theorem dX9_letter_15 : decode cX9_letter 15 = .ok (.ifCond .ne 9, 3) := by decide +kernel
theorem dX9_letter_18 : decode cX9_letter 18 = .ok (.aload_n 0, 1) := by decide +kernel
theorem dX9_letter_19 : decode cX9_letter 19 = .ok (.iconst 2, 1) := by decide +kernel
theorem dX9_letter_20 : decode cX9_letter 20 = .ok (.invokevirtual 252, 3) := by decide +kernel
theorem dX9_letter_23 : decode cX9_letter 23 = .ok (.ireturn, 1) := by decide +kernel
theorem dX9_letter_24 : decode cX9_letter 24 = .ok (.iload_n 2, 1) := by decide +kernel
theorem dX9_letter_25 : decode cX9_letter 25 = .ok (.aload_n 0, 1) := by decide +kernel
theorem dX9_letter_26 : decode cX9_letter 26 = .ok (.iload_n 1, 1) := by decide +kernel
theorem dX9_letter_27 : decode cX9_letter 27 = .ok (.invokevirtual 227, 3) := by decide +kernel
theorem dX9_letter_30 : decode cX9_letter 30 = .ok (.if_icmp .ge 16, 3) := by decide +kernel
theorem dX9_letter_33 : decode cX9_letter 33 = .ok (.aload_n 0, 1) := by decide +kernel
theorem dX9_letter_34 : decode cX9_letter 34 = .ok (.aload_n 0, 1) := by decide +kernel
theorem dX9_letter_35 : decode cX9_letter 35 = .ok (.iload_n 1, 1) := by decide +kernel
theorem dX9_letter_36 : decode cX9_letter 36 = .ok (.iload_n 2, 1) := by decide +kernel
theorem dX9_letter_37 : decode cX9_letter 37 = .ok (.invokevirtual 230, 3) := by decide +kernel
theorem dX9_letter_40 : decode cX9_letter 40 = .ok (.invokevirtual 265, 3) := by decide +kernel
theorem dX9_letter_43 : decode cX9_letter 43 = .ok (.goto 8, 3) := by decide +kernel
theorem dX9_letter_46 : decode cX9_letter 46 = .ok (.aload_n 0, 1) := by decide +kernel
theorem dX9_letter_47 : decode cX9_letter 47 = .ok (.iconst 5, 1) := by decide +kernel
theorem dX9_letter_48 : decode cX9_letter 48 = .ok (.invokevirtual 252, 3) := by decide +kernel
theorem dX9_letter_51 : decode cX9_letter 51 = .ok (.ireturn, 1) := by decide +kernel
theorem dX9_rule_0 : decode cX9_rule 0 = .ok (.iload_n 2, 1) := by decide +kernel
theorem dX9_rule_1 : decode cX9_rule 1 = .ok (.ifCond .lt 13, 3) := by decide +kernel
theorem dX9_rule_4 : decode cX9_rule 4 = .ok (.iload_n 3, 1) := by decide +kernel
theorem dX9_rule_5 : decode cX9_rule 5 = .ok (.iconst 0, 1) := by decide +kernel
theorem dX9_rule_6 : decode cX9_rule 6 = .ok (.bipush 6, 2) := by decide +kernel
theorem dX9_rule_8 : decode cX9_rule 8 = .ok (.invokestatic 199, 3) := by decide +kernel
theorem dX9_rule_11 : decode cX9_rule 11 = .ok (.ifCond .ne 9, 3) := by decide +kernel
theorem dX9_rule_14 : decode cX9_rule 14 = .ok (.aload_n 0, 1) := by decide +kernel
theorem dX9_rule_15 : decode cX9_rule 15 = .ok (.iconst 1, 1) := by decide +kernel
theorem dX9_rule_16 : decode cX9_rule 16 = .ok (.invokevirtual 252, 3) := by decide +kernel
theorem dX9_rule_19 : decode cX9_rule 19 = .ok (.ireturn, 1) := by decide +kernel
theorem dX9_rule_20 : decode cX9_rule 20 = .ok (.aload_n 0, 1) := by decide +kernel
theorem dX9_rule_21 : decode cX9_rule 21 = .ok (.iload_n 1, 1) := by decide +kernel
theorem dX9_rule_22 : decode cX9_rule 22 = .ok (.invokevirtual 279, 3) := by decide +kernel
theorem dX9_rule_25 : decode cX9_rule 25 = .ok (.ifCond .ne 9, 3) := by decide +kernel
theorem dX9_rule_28 : decode cX9_rule 28 = .ok (.aload_n 0, 1) := by decide +kernel
theorem dX9_rule_29 : decode cX9_rule 29 = .ok (.iconst 2, 1) := by decide +kernel
theorem dX9_rule_30 : decode cX9_rule 30 = .ok (.invokevirtual 252, 3) := by decide +kernel
theorem dX9_rule_33 : decode cX9_rule 33 = .ok (.ireturn, 1) := by decide +kernel
theorem dX9_rule_34 : decode cX9_rule 34 = .ok (.aload_n 0, 1) := by decide +kernel
theorem dX9_rule_35 : decode cX9_rule 35 = .ok (.iload_n 1, 1) := by decide +kernel
theorem dX9_rule_36 : decode cX9_rule 36 = .ok (.invokevirtual 310, 3) := by decide +kernel
theorem dX9_rule_39 : decode cX9_rule 39 = .ok (.istore 4, 2) := by decide +kernel
theorem dX9_rule_41 : decode cX9_rule 41 = .ok (.iload_n 2, 1) := by decide +kernel
theorem dX9_rule_42 : decode cX9_rule 42 = .ok (.aload_n 0, 1) := by decide +kernel
theorem dX9_rule_43 : decode cX9_rule 43 = .ok (.getfield 120, 3) := by decide +kernel
theorem dX9_rule_46 : decode cX9_rule 46 = .ok (.if_icmp .lt 9, 3) := by decide +kernel
theorem dX9_rule_49 : decode cX9_rule 49 = .ok (.aload_n 0, 1) := by decide +kernel
theorem dX9_rule_50 : decode cX9_rule 50 = .ok (.iconst 5, 1) := by decide +kernel
theorem dX9_rule_51 : decode cX9_rule 51 = .ok (.invokevirtual 252, 3) := by decide +kernel
theorem dX9_rule_54 : decode cX9_rule 54 = .ok (.ireturn, 1) := by decide +kernel
theorem dX9_rule_55 : decode cX9_rule 55 = .ok (.aload_n 0, 1) := by decide +kernel
theorem dX9_rule_56 : decode cX9_rule 56 = .ok (.getfield 42, 3) := by decide +kernel
theorem dX9_rule_59 : decode cX9_rule 59 = .ok (.iload_n 2, 1) := by decide +kernel
theorem dX9_rule_60 : decode cX9_rule 60 = .ok (.iaload, 1) := by decide +kernel
theorem dX9_rule_61 : decode cX9_rule 61 = .ok (.istore 5, 2) := by decide +kernel
theorem dX9_rule_63 : decode cX9_rule 63 = .ok (.aload_n 0, 1) := by decide +kernel
theorem dX9_rule_64 : decode cX9_rule 64 = .ok (.iload 4, 2) := by decide +kernel
theorem dX9_rule_66 : decode cX9_rule 66 = .ok (.invokevirtual 319, 3) := by decide +kernel
theorem dX9_rule_69 : decode cX9_rule 69 = .ok (.iload_n 3, 1) := by decide +kernel
theorem dX9_rule_70 : decode cX9_rule 70 = .ok (.tableswitch 175 0 5 #[38, 50, 62, 99, 151, 163], 38) := by decide +kernel
theorem dX9_rule_108 : decode cX9_rule 108 = .ok (.aload_n 0, 1) := by decide +kernel
theorem dX9_rule_109 : decode cX9_rule 109 = .ok (.aload_n 0, 1) := by decide +kernel
theorem dX9_rule_110 : decode cX9_rule 110 = .ok (.getfield 17, 3) := by decide +kernel
theorem dX9_rule_113 : decode cX9_rule 113 = .ok (.iload 5, 2) := by decide +kernel
theorem dX9_rule_115 : decode cX9_rule 115 = .ok (.iaload, 1) := by decide +kernel
theorem dX9_rule_116 : decode cX9_rule 116 = .ok (.invokevirtual 265, 3) := by decide +kernel
theorem dX9_rule_119 : decode cX9_rule 119 = .ok (.ireturn, 1) := by decide +kernel
theorem dX9_rule_120 : decode cX9_rule 120 = .ok (.aload_n 0, 1) := by decide +kernel
theorem dX9_rule_121 : decode cX9_rule 121 = .ok (.aload_n 0, 1) := by decide +kernel
theorem dX9_rule_122 : decode cX9_rule 122 = .ok (.getfield 29, 3) := by decide +kernel
theorem dX9_rule_125 : decode cX9_rule 125 = .ok (.iload 5, 2) := by decide +kernel
theorem dX9_rule_127 : decode cX9_rule 127 = .ok (.iaload, 1) := by decide +kernel
theorem dX9_rule_128 : decode cX9_rule 128 = .ok (.invokevirtual 265, 3) := by decide +kernel
theorem dX9_rule_131 : decode cX9_rule 131 = .ok (.ireturn, 1) := by decide +kernel
theorem dX9_rule_132 : decode cX9_rule 132 = .ok (.aload_n 0, 1) := by decide +kernel
theorem dX9_rule_133 : decode cX9_rule 133 = .ok (.aload_n 0, 1) := by decide +kernel
theorem dX9_rule_134 : decode cX9_rule 134 = .ok (.getfield 17, 3) := by decide +kernel
theorem dX9_rule_137 : decode cX9_rule 137 = .ok (.iload 5, 2) := by decide +kernel
theorem dX9_rule_139 : decode cX9_rule 139 = .ok (.iaload, 1) := by decide +kernel
theorem dX9_rule_140 : decode cX9_rule 140 = .ok (.ifCond .ne 13, 3) := by decide +kernel
theorem dX9_rule_143 : decode cX9_rule 143 = .ok (.aload_n 0, 1) := by decide +kernel
theorem dX9_rule_144 : decode cX9_rule 144 = .ok (.getfield 20, 3) := by decide +kernel
theorem dX9_rule_147 : decode cX9_rule 147 = .ok (.iload 5, 2) := by decide +kernel
theorem dX9_rule_149 : decode cX9_rule 149 = .ok (.iaload, 1) := by decide +kernel
theorem dX9_rule_150 : decode cX9_rule 150 = .ok (.goto 15, 3) := by decide +kernel
theorem dX9_rule_153 : decode cX9_rule 153 = .ok (.aload_n 0, 1) := by decide +kernel
theorem dX9_rule_154 : decode cX9_rule 154 = .ok (.getfield 45, 3) := by decide +kernel
theorem dX9_rule_157 : decode cX9_rule 157 = .ok (.aload_n 0, 1) := by decide +kernel
theorem dX9_rule_158 : decode cX9_rule 158 = .ok (.getfield 20, 3) := by decide +kernel
theorem dX9_rule_161 : decode cX9_rule 161 = .ok (.iload 5, 2) := by decide +kernel
theorem dX9_rule_163 : decode cX9_rule 163 = .ok (.iaload, 1) := by decide +kernel
theorem dX9_rule_164 : decode cX9_rule 164 = .ok (.iaload, 1) := by decide +kernel
theorem dX9_rule_165 : decode cX9_rule 165 = .ok (.invokevirtual 265, 3) := by decide +kernel
theorem dX9_rule_168 : decode cX9_rule 168 = .ok (.ireturn, 1) := by decide +kernel
theorem dX9_rule_169 : decode cX9_rule 169 = .ok (.aload_n 0, 1) := by decide +kernel
theorem dX9_rule_170 : decode cX9_rule 170 = .ok (.aload_n 0, 1) := by decide +kernel
theorem dX9_rule_171 : decode cX9_rule 171 = .ok (.getfield 17, 3) := by decide +kernel
theorem dX9_rule_174 : decode cX9_rule 174 = .ok (.iload 5, 2) := by decide +kernel
theorem dX9_rule_176 : decode cX9_rule 176 = .ok (.iaload, 1) := by decide +kernel
theorem dX9_rule_177 : decode cX9_rule 177 = .ok (.ifCond .ne 7, 3) := by decide +kernel
theorem dX9_rule_180 : decode cX9_rule 180 = .ok (.iconst (-1), 1) := by decide +kernel
theorem dX9_rule_181 : decode cX9_rule 181 = .ok (.goto 36, 3) := by decide +kernel
theorem dX9_rule_184 : decode cX9_rule 184 = .ok (.aload_n 0, 1) := by decide +kernel
theorem dX9_rule_185 : decode cX9_rule 185 = .ok (.getfield 17, 3) := by decide +kernel
theorem dX9_rule_188 : decode cX9_rule 188 = .ok (.iload 5, 2) := by decide +kernel
theorem dX9_rule_190 : decode cX9_rule 190 = .ok (.iaload, 1) := by decide +kernel
theorem dX9_rule_191 : decode cX9_rule 191 = .ok (.iconst 2, 1) := by decide +kernel
theorem dX9_rule_192 : decode cX9_rule 192 = .ok (.if_icmp .ne 13, 3) := by decide +kernel
theorem dX9_rule_195 : decode cX9_rule 195 = .ok (.aload_n 0, 1) := by decide +kernel
theorem dX9_rule_196 : decode cX9_rule 196 = .ok (.getfield 23, 3) := by decide +kernel
theorem dX9_rule_199 : decode cX9_rule 199 = .ok (.iload 5, 2) := by decide +kernel
theorem dX9_rule_201 : decode cX9_rule 201 = .ok (.iaload, 1) := by decide +kernel
theorem dX9_rule_202 : decode cX9_rule 202 = .ok (.goto 15, 3) := by decide +kernel
theorem dX9_rule_205 : decode cX9_rule 205 = .ok (.aload_n 0, 1) := by decide +kernel
theorem dX9_rule_206 : decode cX9_rule 206 = .ok (.getfield 45, 3) := by decide +kernel
theorem dX9_rule_209 : decode cX9_rule 209 = .ok (.aload_n 0, 1) := by decide +kernel
theorem dX9_rule_210 : decode cX9_rule 210 = .ok (.getfield 23, 3) := by decide +kernel
theorem dX9_rule_213 : decode cX9_rule 213 = .ok (.iload 5, 2) := by decide +kernel
theorem dX9_rule_215 : decode cX9_rule 215 = .ok (.iaload, 1) := by decide +kernel
theorem dX9_rule_216 : decode cX9_rule 216 = .ok (.iaload, 1) := by decide +kernel
theorem dX9_rule_217 : decode cX9_rule 217 = .ok (.invokevirtual 265, 3) := by decide +kernel
theorem dX9_rule_220 : decode cX9_rule 220 = .ok (.ireturn, 1) := by decide +kernel
theorem dX9_rule_221 : decode cX9_rule 221 = .ok (.aload_n 0, 1) := by decide +kernel
theorem dX9_rule_222 : decode cX9_rule 222 = .ok (.aload_n 0, 1) := by decide +kernel
theorem dX9_rule_223 : decode cX9_rule 223 = .ok (.getfield 51, 3) := by decide +kernel
theorem dX9_rule_226 : decode cX9_rule 226 = .ok (.iload 5, 2) := by decide +kernel
theorem dX9_rule_228 : decode cX9_rule 228 = .ok (.iaload, 1) := by decide +kernel
theorem dX9_rule_229 : decode cX9_rule 229 = .ok (.invokevirtual 265, 3) := by decide +kernel
theorem dX9_rule_232 : decode cX9_rule 232 = .ok (.ireturn, 1) := by decide +kernel
theorem dX9_rule_233 : decode cX9_rule 233 = .ok (.aload_n 0, 1) := by decide +kernel
theorem dX9_rule_234 : decode cX9_rule 234 = .ok (.aload_n 0, 1) := by decide +kernel
theorem dX9_rule_235 : decode cX9_rule 235 = .ok (.getfield 26, 3) := by decide +kernel
theorem dX9_rule_238 : decode cX9_rule 238 = .ok (.iload 5, 2) := by decide +kernel
theorem dX9_rule_240 : decode cX9_rule 240 = .ok (.iaload, 1) := by decide +kernel
theorem dX9_rule_241 : decode cX9_rule 241 = .ok (.invokevirtual 265, 3) := by decide +kernel
theorem dX9_rule_244 : decode cX9_rule 244 = .ok (.ireturn, 1) := by decide +kernel
theorem dX9_rule_245 : decode cX9_rule 245 = .ok (.aload_n 0, 1) := by decide +kernel
theorem dX9_rule_246 : decode cX9_rule 246 = .ok (.aload_n 0, 1) := by decide +kernel
theorem dX9_rule_247 : decode cX9_rule 247 = .ok (.getfield 48, 3) := by decide +kernel
theorem dX9_rule_250 : decode cX9_rule 250 = .ok (.iload 5, 2) := by decide +kernel
theorem dX9_rule_252 : decode cX9_rule 252 = .ok (.iaload, 1) := by decide +kernel
theorem dX9_rule_253 : decode cX9_rule 253 = .ok (.invokevirtual 265, 3) := by decide +kernel
theorem dX9_rule_256 : decode cX9_rule 256 = .ok (.ireturn, 1) := by decide +kernel
theorem dX9_around_0 : decode cX9_around 0 = .ok (.iload_n 2, 1) := by decide +kernel
theorem dX9_around_1 : decode cX9_around 1 = .ok (.ifCond .lt 7, 3) := by decide +kernel
theorem dX9_around_4 : decode cX9_around 4 = .ok (.iload_n 3, 1) := by decide +kernel
theorem dX9_around_5 : decode cX9_around 5 = .ok (.ifCond .ge 9, 3) := by decide +kernel
theorem dX9_around_8 : decode cX9_around 8 = .ok (.aload_n 0, 1) := by decide +kernel
theorem dX9_around_9 : decode cX9_around 9 = .ok (.iconst 1, 1) := by decide +kernel
theorem dX9_around_10 : decode cX9_around 10 = .ok (.invokevirtual 252, 3) := by decide +kernel
theorem dX9_around_13 : decode cX9_around 13 = .ok (.ireturn, 1) := by decide +kernel
theorem dX9_around_14 : decode cX9_around 14 = .ok (.aload_n 0, 1) := by decide +kernel
theorem dX9_around_15 : decode cX9_around 15 = .ok (.iload_n 1, 1) := by decide +kernel
theorem dX9_around_16 : decode cX9_around 16 = .ok (.invokevirtual 279, 3) := by decide +kernel
theorem dX9_around_19 : decode cX9_around 19 = .ok (.ifCond .ne 9, 3) := by decide +kernel
theorem dX9_around_22 : decode cX9_around 22 = .ok (.aload_n 0, 1) := by decide +kernel
theorem dX9_around_23 : decode cX9_around 23 = .ok (.iconst 2, 1) := by decide +kernel
theorem dX9_around_24 : decode cX9_around 24 = .ok (.invokevirtual 252, 3) := by decide +kernel
theorem dX9_around_27 : decode cX9_around 27 = .ok (.ireturn, 1) := by decide +kernel
theorem dX9_around_28 : decode cX9_around 28 = .ok (.iload_n 2, 1) := by decide +kernel
theorem dX9_around_29 : decode cX9_around 29 = .ok (.aload_n 0, 1) := by decide +kernel
theorem dX9_around_30 : decode cX9_around 30 = .ok (.iload_n 1, 1) := by decide +kernel
theorem dX9_around_31 : decode cX9_around 31 = .ok (.invokevirtual 227, 3) := by decide +kernel
theorem dX9_around_34 : decode cX9_around 34 = .ok (.if_icmp .lt 9, 3) := by decide +kernel
theorem dX9_around_37 : decode cX9_around 37 = .ok (.aload_n 0, 1) := by decide +kernel
theorem dX9_around_38 : decode cX9_around 38 = .ok (.iconst 5, 1) := by decide +kernel
theorem dX9_around_39 : decode cX9_around 39 = .ok (.invokevirtual 252, 3) := by decide +kernel
theorem dX9_around_42 : decode cX9_around 42 = .ok (.ireturn, 1) := by decide +kernel
theorem dX9_around_43 : decode cX9_around 43 = .ok (.aload_n 0, 1) := by decide +kernel
theorem dX9_around_44 : decode cX9_around 44 = .ok (.iload_n 1, 1) := by decide +kernel
theorem dX9_around_45 : decode cX9_around 45 = .ok (.invokevirtual 310, 3) := by decide +kernel
theorem dX9_around_48 : decode cX9_around 48 = .ok (.istore 4, 2) := by decide +kernel
theorem dX9_around_50 : decode cX9_around 50 = .ok (.iload_n 2, 1) := by decide +kernel
theorem dX9_around_51 : decode cX9_around 51 = .ok (.istore 5, 2) := by decide +kernel
theorem dX9_around_53 : decode cX9_around 53 = .ok (.iconst 0, 1) := by decide +kernel
theorem dX9_around_54 : decode cX9_around 54 = .ok (.istore 6, 2) := by decide +kernel
theorem dX9_around_56 : decode cX9_around 56 = .ok (.iload 6, 2) := by decide +kernel
theorem dX9_around_58 : decode cX9_around 58 = .ok (.iload_n 3, 1) := by decide +kernel
theorem dX9_around_59 : decode cX9_around 59 = .ok (.if_icmp .ge 120, 3) := by decide +kernel
theorem dX9_around_62 : decode cX9_around 62 = .ok (.aload_n 0, 1) := by decide +kernel
theorem dX9_around_63 : decode cX9_around 63 = .ok (.getfield 17, 3) := by decide +kernel
theorem dX9_around_66 : decode cX9_around 66 = .ok (.iload 4, 2) := by decide +kernel
theorem dX9_around_68 : decode cX9_around 68 = .ok (.iaload, 1) := by decide +kernel
theorem dX9_around_69 : decode cX9_around 69 = .ok (.ifCond .ne 9, 3) := by decide +kernel
theorem dX9_around_72 : decode cX9_around 72 = .ok (.aload_n 0, 1) := by decide +kernel
theorem dX9_around_73 : decode cX9_around 73 = .ok (.iconst 5, 1) := by decide +kernel
theorem dX9_around_74 : decode cX9_around 74 = .ok (.invokevirtual 252, 3) := by decide +kernel
theorem dX9_around_77 : decode cX9_around 77 = .ok (.ireturn, 1) := by decide +kernel
theorem dX9_around_78 : decode cX9_around 78 = .ok (.aload_n 0, 1) := by decide +kernel
theorem dX9_around_79 : decode cX9_around 79 = .ok (.getfield 17, 3) := by decide +kernel
theorem dX9_around_82 : decode cX9_around 82 = .ok (.iload 4, 2) := by decide +kernel
theorem dX9_around_84 : decode cX9_around 84 = .ok (.iaload, 1) := by decide +kernel
theorem dX9_around_85 : decode cX9_around 85 = .ok (.iconst 2, 1) := by decide +kernel
theorem dX9_around_86 : decode cX9_around 86 = .ok (.if_icmp .ne 32, 3) := by decide +kernel
theorem dX9_around_89 : decode cX9_around 89 = .ok (.iload 5, 2) := by decide +kernel
theorem dX9_around_91 : decode cX9_around 91 = .ok (.aload_n 0, 1) := by decide +kernel
theorem dX9_around_92 : decode cX9_around 92 = .ok (.getfield 29, 3) := by decide +kernel
theorem dX9_around_95 : decode cX9_around 95 = .ok (.aload_n 0, 1) := by decide +kernel
theorem dX9_around_96 : decode cX9_around 96 = .ok (.getfield 20, 3) := by decide +kernel
theorem dX9_around_99 : decode cX9_around 99 = .ok (.iload 4, 2) := by decide +kernel
theorem dX9_around_101 : decode cX9_around 101 = .ok (.iaload, 1) := by decide +kernel
theorem dX9_around_102 : decode cX9_around 102 = .ok (.iaload, 1) := by decide +kernel
theorem dX9_around_103 : decode cX9_around 103 = .ok (.irem, 1) := by decide +kernel
theorem dX9_around_104 : decode cX9_around 104 = .ok (.istore 5, 2) := by decide +kernel
theorem dX9_around_106 : decode cX9_around 106 = .ok (.aload_n 0, 1) := by decide +kernel
theorem dX9_around_107 : decode cX9_around 107 = .ok (.getfield 20, 3) := by decide +kernel
theorem dX9_around_110 : decode cX9_around 110 = .ok (.iload 4, 2) := by decide +kernel
theorem dX9_around_112 : decode cX9_around 112 = .ok (.iaload, 1) := by decide +kernel
theorem dX9_around_113 : decode cX9_around 113 = .ok (.istore 4, 2) := by decide +kernel
theorem dX9_around_115 : decode cX9_around 115 = .ok (.goto 58, 3) := by decide +kernel
theorem dX9_around_118 : decode cX9_around 118 = .ok (.iload 5, 2) := by decide +kernel
theorem dX9_around_120 : decode cX9_around 120 = .ok (.aload_n 0, 1) := by decide +kernel
theorem dX9_around_121 : decode cX9_around 121 = .ok (.getfield 29, 3) := by decide +kernel
theorem dX9_around_124 : decode cX9_around 124 = .ok (.aload_n 0, 1) := by decide +kernel
theorem dX9_around_125 : decode cX9_around 125 = .ok (.getfield 20, 3) := by decide +kernel
theorem dX9_around_128 : decode cX9_around 128 = .ok (.iload 4, 2) := by decide +kernel
theorem dX9_around_130 : decode cX9_around 130 = .ok (.iaload, 1) := by decide +kernel
theorem dX9_around_131 : decode cX9_around 131 = .ok (.iaload, 1) := by decide +kernel
theorem dX9_around_132 : decode cX9_around 132 = .ok (.if_icmp .ge 15, 3) := by decide +kernel
theorem dX9_around_135 : decode cX9_around 135 = .ok (.aload_n 0, 1) := by decide +kernel
theorem dX9_around_136 : decode cX9_around 136 = .ok (.getfield 20, 3) := by decide +kernel
theorem dX9_around_139 : decode cX9_around 139 = .ok (.iload 4, 2) := by decide +kernel
theorem dX9_around_141 : decode cX9_around 141 = .ok (.iaload, 1) := by decide +kernel
theorem dX9_around_142 : decode cX9_around 142 = .ok (.istore 4, 2) := by decide +kernel
theorem dX9_around_144 : decode cX9_around 144 = .ok (.goto 29, 3) := by decide +kernel
theorem dX9_around_147 : decode cX9_around 147 = .ok (.iload 5, 2) := by decide +kernel
theorem dX9_around_149 : decode cX9_around 149 = .ok (.aload_n 0, 1) := by decide +kernel
theorem dX9_around_150 : decode cX9_around 150 = .ok (.getfield 29, 3) := by decide +kernel
theorem dX9_around_153 : decode cX9_around 153 = .ok (.aload_n 0, 1) := by decide +kernel
theorem dX9_around_154 : decode cX9_around 154 = .ok (.getfield 20, 3) := by decide +kernel
theorem dX9_around_157 : decode cX9_around 157 = .ok (.iload 4, 2) := by decide +kernel
theorem dX9_around_159 : decode cX9_around 159 = .ok (.iaload, 1) := by decide +kernel
theorem dX9_around_160 : decode cX9_around 160 = .ok (.iaload, 1) := by decide +kernel
theorem dX9_around_161 : decode cX9_around 161 = .ok (.isub, 1) := by decide +kernel
theorem dX9_around_162 : decode cX9_around 162 = .ok (.istore 5, 2) := by decide +kernel
theorem dX9_around_164 : decode cX9_around 164 = .ok (.aload_n 0, 1) := by decide +kernel
theorem dX9_around_165 : decode cX9_around 165 = .ok (.getfield 23, 3) := by decide +kernel
theorem dX9_around_168 : decode cX9_around 168 = .ok (.iload 4, 2) := by decide +kernel
theorem dX9_around_170 : decode cX9_around 170 = .ok (.iaload, 1) := by decide +kernel
theorem dX9_around_171 : decode cX9_around 171 = .ok (.istore 4, 2) := by decide +kernel
theorem dX9_around_173 : decode cX9_around 173 = .ok (.iinc 6 1, 3) := by decide +kernel
theorem dX9_around_176 : decode cX9_around 176 = .ok (.goto (-120), 3) := by decide +kernel
theorem dX9_around_179 : decode cX9_around 179 = .ok (.aload_n 0, 1) := by decide +kernel
theorem dX9_around_180 : decode cX9_around 180 = .ok (.aload_n 0, 1) := by decide +kernel
theorem dX9_around_181 : decode cX9_around 181 = .ok (.getfield 45, 3) := by decide +kernel
theorem dX9_around_184 : decode cX9_around 184 = .ok (.iload 4, 2) := by decide +kernel
theorem dX9_around_186 : decode cX9_around 186 = .ok (.iaload, 1) := by decide +kernel
theorem dX9_around_187 : decode cX9_around 187 = .ok (.invokevirtual 265, 3) := by decide +kernel
theorem dX9_around_190 : decode cX9_around 190 = .ok (.ireturn, 1) := by decide +kernel
theorem dX9_value_0 : decode cX9_value 0 = .ok (.aload_n 0, 1) := by decide +kernel
theorem dX9_value_1 : decode cX9_value 1 = .ok (.iload_n 1, 1) := by decide +kernel
theorem dX9_value_2 : decode cX9_value 2 = .ok (.invokevirtual 279, 3) := by decide +kernel
theorem dX9_value_5 : decode cX9_value 5 = .ok (.ifCond .ne 10, 3) := by decide +kernel
theorem dX9_value_8 : decode cX9_value 8 = .ok (.aload_n 0, 1) := by decide +kernel
theorem dX9_value_9 : decode cX9_value 9 = .ok (.iconst 2, 1) := by decide +kernel
theorem dX9_value_10 : decode cX9_value 10 = .ok (.invokevirtual 252, 3) := by decide +kernel
theorem dX9_value_13 : decode cX9_value 13 = .ok (.i2l, 1) := by decide +kernel
theorem dX9_value_14 : decode cX9_value 14 = .ok (.lreturn, 1) := by decide +kernel
theorem dX9_value_15 : decode cX9_value 15 = .ok (.lconst 0, 1) := by decide +kernel
theorem dX9_value_16 : decode cX9_value 16 = .ok (.lstore_n 2, 1) := by decide +kernel
theorem dX9_value_17 : decode cX9_value 17 = .ok (.iconst 0, 1) := by decide +kernel
theorem dX9_value_18 : decode cX9_value 18 = .ok (.istore 4, 2) := by decide +kernel
theorem dX9_value_20 : decode cX9_value 20 = .ok (.iload 4, 2) := by decide +kernel
theorem dX9_value_22 : decode cX9_value 22 = .ok (.aload_n 0, 1) := by decide +kernel
theorem dX9_value_23 : decode cX9_value 23 = .ok (.iload_n 1, 1) := by decide +kernel
theorem dX9_value_24 : decode cX9_value 24 = .ok (.invokevirtual 227, 3) := by decide +kernel
theorem dX9_value_27 : decode cX9_value 27 = .ok (.if_icmp .ge 53, 3) := by decide +kernel
theorem dX9_value_30 : decode cX9_value 30 = .ok (.lload_n 2, 1) := by decide +kernel
theorem dX9_value_31 : decode cX9_value 31 = .ok (.ldc2_w 324, 3) := by decide +kernel
theorem dX9_value_34 : decode cX9_value 34 = .ok (.aload_n 0, 1) := by decide +kernel
theorem dX9_value_35 : decode cX9_value 35 = .ok (.iload_n 1, 1) := by decide +kernel
theorem dX9_value_36 : decode cX9_value 36 = .ok (.iload 4, 2) := by decide +kernel
theorem dX9_value_38 : decode cX9_value 38 = .ok (.invokevirtual 230, 3) := by decide +kernel
theorem dX9_value_41 : decode cX9_value 41 = .ok (.i2l, 1) := by decide +kernel
theorem dX9_value_42 : decode cX9_value 42 = .ok (.lsub, 1) := by decide +kernel
theorem dX9_value_43 : decode cX9_value 43 = .ok (.ldc2_w 326, 3) := by decide +kernel
theorem dX9_value_46 : decode cX9_value 46 = .ok (.ldiv, 1) := by decide +kernel
theorem dX9_value_47 : decode cX9_value 47 = .ok (.lcmp, 1) := by decide +kernel
theorem dX9_value_48 : decode cX9_value 48 = .ok (.ifCond .le 11, 3) := by decide +kernel
theorem dX9_value_51 : decode cX9_value 51 = .ok (.aload_n 0, 1) := by decide +kernel
theorem dX9_value_52 : decode cX9_value 52 = .ok (.bipush 7, 2) := by decide +kernel
theorem dX9_value_54 : decode cX9_value 54 = .ok (.invokevirtual 252, 3) := by decide +kernel
theorem dX9_value_57 : decode cX9_value 57 = .ok (.i2l, 1) := by decide +kernel
theorem dX9_value_58 : decode cX9_value 58 = .ok (.lreturn, 1) := by decide +kernel
theorem dX9_value_59 : decode cX9_value 59 = .ok (.ldc2_w 326, 3) := by decide +kernel
theorem dX9_value_62 : decode cX9_value 62 = .ok (.lload_n 2, 1) := by decide +kernel
theorem dX9_value_63 : decode cX9_value 63 = .ok (.lmul, 1) := by decide +kernel
theorem dX9_value_64 : decode cX9_value 64 = .ok (.aload_n 0, 1) := by decide +kernel
theorem dX9_value_65 : decode cX9_value 65 = .ok (.iload_n 1, 1) := by decide +kernel
theorem dX9_value_66 : decode cX9_value 66 = .ok (.iload 4, 2) := by decide +kernel
theorem dX9_value_68 : decode cX9_value 68 = .ok (.invokevirtual 230, 3) := by decide +kernel
theorem dX9_value_71 : decode cX9_value 71 = .ok (.i2l, 1) := by decide +kernel
theorem dX9_value_72 : decode cX9_value 72 = .ok (.ladd, 1) := by decide +kernel
theorem dX9_value_73 : decode cX9_value 73 = .ok (.lstore_n 2, 1) := by decide +kernel
theorem dX9_value_74 : decode cX9_value 74 = .ok (.iinc 4 1, 3) := by decide +kernel
theorem dX9_value_77 : decode cX9_value 77 = .ok (.goto (-57), 3) := by decide +kernel
theorem dX9_value_80 : decode cX9_value 80 = .ok (.aload_n 0, 1) := by decide +kernel
theorem dX9_value_81 : decode cX9_value 81 = .ok (.iconst 0, 1) := by decide +kernel
theorem dX9_value_82 : decode cX9_value 82 = .ok (.putfield 77, 3) := by decide +kernel
theorem dX9_value_85 : decode cX9_value 85 = .ok (.lload_n 2, 1) := by decide +kernel
theorem dX9_value_86 : decode cX9_value 86 = .ok (.lreturn, 1) := by decide +kernel
theorem dX9_same_0 : decode cX9_same 0 = .ok (.iconst 0, 1) := by decide +kernel
theorem dX9_same_1 : decode cX9_same 1 = .ok (.istore 5, 2) := by decide +kernel
theorem dX9_same_3 : decode cX9_same 3 = .ok (.iload_n 2, 1) := by decide +kernel
theorem dX9_same_4 : decode cX9_same 4 = .ok (.iload 5, 2) := by decide +kernel
theorem dX9_same_6 : decode cX9_same 6 = .ok (.iadd, 1) := by decide +kernel
theorem dX9_same_7 : decode cX9_same 7 = .ok (.aload_n 0, 1) := by decide +kernel
theorem dX9_same_8 : decode cX9_same 8 = .ok (.iload_n 1, 1) := by decide +kernel
theorem dX9_same_9 : decode cX9_same 9 = .ok (.invokevirtual 227, 3) := by decide +kernel
theorem dX9_same_12 : decode cX9_same 12 = .ok (.if_icmp .ge 44, 3) := by decide +kernel
theorem dX9_same_15 : decode cX9_same 15 = .ok (.iload 4, 2) := by decide +kernel
theorem dX9_same_17 : decode cX9_same 17 = .ok (.iload 5, 2) := by decide +kernel
theorem dX9_same_19 : decode cX9_same 19 = .ok (.iadd, 1) := by decide +kernel
theorem dX9_same_20 : decode cX9_same 20 = .ok (.aload_n 0, 1) := by decide +kernel
theorem dX9_same_21 : decode cX9_same 21 = .ok (.iload_n 3, 1) := by decide +kernel
theorem dX9_same_22 : decode cX9_same 22 = .ok (.invokevirtual 227, 3) := by decide +kernel
theorem dX9_same_25 : decode cX9_same 25 = .ok (.if_icmp .ge 31, 3) := by decide +kernel
theorem dX9_same_28 : decode cX9_same 28 = .ok (.aload_n 0, 1) := by decide +kernel
theorem dX9_same_29 : decode cX9_same 29 = .ok (.iload_n 1, 1) := by decide +kernel
theorem dX9_same_30 : decode cX9_same 30 = .ok (.iload_n 2, 1) := by decide +kernel
theorem dX9_same_31 : decode cX9_same 31 = .ok (.iload 5, 2) := by decide +kernel
theorem dX9_same_33 : decode cX9_same 33 = .ok (.iadd, 1) := by decide +kernel
theorem dX9_same_34 : decode cX9_same 34 = .ok (.invokevirtual 230, 3) := by decide +kernel
theorem dX9_same_37 : decode cX9_same 37 = .ok (.aload_n 0, 1) := by decide +kernel
theorem dX9_same_38 : decode cX9_same 38 = .ok (.iload_n 3, 1) := by decide +kernel
theorem dX9_same_39 : decode cX9_same 39 = .ok (.iload 4, 2) := by decide +kernel
theorem dX9_same_41 : decode cX9_same 41 = .ok (.iload 5, 2) := by decide +kernel
theorem dX9_same_43 : decode cX9_same 43 = .ok (.iadd, 1) := by decide +kernel
theorem dX9_same_44 : decode cX9_same 44 = .ok (.invokevirtual 230, 3) := by decide +kernel
theorem dX9_same_47 : decode cX9_same 47 = .ok (.if_icmp .ne 9, 3) := by decide +kernel
theorem dX9_same_50 : decode cX9_same 50 = .ok (.iinc 5 1, 3) := by decide +kernel
theorem dX9_same_53 : decode cX9_same 53 = .ok (.goto (-50), 3) := by decide +kernel
theorem dX9_same_56 : decode cX9_same 56 = .ok (.iload 5, 2) := by decide +kernel
theorem dX9_same_58 : decode cX9_same 58 = .ok (.ireturn, 1) := by decide +kernel
theorem dX9_alike_0 : decode cX9_alike 0 = .ok (.iload_n 2, 1) := by decide +kernel
theorem dX9_alike_1 : decode cX9_alike 1 = .ok (.ifCond .lt 8, 3) := by decide +kernel
theorem dX9_alike_4 : decode cX9_alike 4 = .ok (.iload 4, 2) := by decide +kernel
theorem dX9_alike_6 : decode cX9_alike 6 = .ok (.ifCond .ge 9, 3) := by decide +kernel
theorem dX9_alike_9 : decode cX9_alike 9 = .ok (.aload_n 0, 1) := by decide +kernel
theorem dX9_alike_10 : decode cX9_alike 10 = .ok (.iconst 1, 1) := by decide +kernel
theorem dX9_alike_11 : decode cX9_alike 11 = .ok (.invokevirtual 252, 3) := by decide +kernel
theorem dX9_alike_14 : decode cX9_alike 14 = .ok (.ireturn, 1) := by decide +kernel
theorem dX9_alike_15 : decode cX9_alike 15 = .ok (.aload_n 0, 1) := by decide +kernel
theorem dX9_alike_16 : decode cX9_alike 16 = .ok (.iload_n 1, 1) := by decide +kernel
theorem dX9_alike_17 : decode cX9_alike 17 = .ok (.invokevirtual 279, 3) := by decide +kernel
theorem dX9_alike_20 : decode cX9_alike 20 = .ok (.ifCond .eq 11, 3) := by decide +kernel
theorem dX9_alike_23 : decode cX9_alike 23 = .ok (.aload_n 0, 1) := by decide +kernel
theorem dX9_alike_24 : decode cX9_alike 24 = .ok (.iload_n 3, 1) := by decide +kernel
theorem dX9_alike_25 : decode cX9_alike 25 = .ok (.invokevirtual 279, 3) := by decide +kernel
theorem dX9_alike_28 : decode cX9_alike 28 = .ok (.ifCond .ne 9, 3) := by decide +kernel
theorem dX9_alike_31 : decode cX9_alike 31 = .ok (.aload_n 0, 1) := by decide +kernel
theorem dX9_alike_32 : decode cX9_alike 32 = .ok (.iconst 2, 1) := by decide +kernel
theorem dX9_alike_33 : decode cX9_alike 33 = .ok (.invokevirtual 252, 3) := by decide +kernel
theorem dX9_alike_36 : decode cX9_alike 36 = .ok (.ireturn, 1) := by decide +kernel
theorem dX9_alike_37 : decode cX9_alike 37 = .ok (.iload_n 2, 1) := by decide +kernel
theorem dX9_alike_38 : decode cX9_alike 38 = .ok (.aload_n 0, 1) := by decide +kernel
theorem dX9_alike_39 : decode cX9_alike 39 = .ok (.iload_n 1, 1) := by decide +kernel
theorem dX9_alike_40 : decode cX9_alike 40 = .ok (.invokevirtual 227, 3) := by decide +kernel
theorem dX9_alike_43 : decode cX9_alike 43 = .ok (.if_icmp .gt 13, 3) := by decide +kernel
theorem dX9_alike_46 : decode cX9_alike 46 = .ok (.iload 4, 2) := by decide +kernel
theorem dX9_alike_48 : decode cX9_alike 48 = .ok (.aload_n 0, 1) := by decide +kernel
theorem dX9_alike_49 : decode cX9_alike 49 = .ok (.iload_n 3, 1) := by decide +kernel
theorem dX9_alike_50 : decode cX9_alike 50 = .ok (.invokevirtual 227, 3) := by decide +kernel
theorem dX9_alike_53 : decode cX9_alike 53 = .ok (.if_icmp .le 11, 3) := by decide +kernel
theorem dX9_alike_56 : decode cX9_alike 56 = .ok (.aload_n 0, 1) := by decide +kernel
theorem dX9_alike_57 : decode cX9_alike 57 = .ok (.iconst 5, 1) := by decide +kernel
theorem dX9_alike_58 : decode cX9_alike 58 = .ok (.invokevirtual 252, 3) := by decide +kernel
theorem dX9_alike_61 : decode cX9_alike 61 = .ok (.goto 16, 3) := by decide +kernel
theorem dX9_alike_64 : decode cX9_alike 64 = .ok (.aload_n 0, 1) := by decide +kernel
theorem dX9_alike_65 : decode cX9_alike 65 = .ok (.aload_n 0, 1) := by decide +kernel
theorem dX9_alike_66 : decode cX9_alike 66 = .ok (.iload_n 1, 1) := by decide +kernel
theorem dX9_alike_67 : decode cX9_alike 67 = .ok (.iload_n 2, 1) := by decide +kernel
theorem dX9_alike_68 : decode cX9_alike 68 = .ok (.iload_n 3, 1) := by decide +kernel
theorem dX9_alike_69 : decode cX9_alike 69 = .ok (.iload 4, 2) := by decide +kernel
theorem dX9_alike_71 : decode cX9_alike 71 = .ok (.invokevirtual 328, 3) := by decide +kernel
theorem dX9_alike_74 : decode cX9_alike 74 = .ok (.invokevirtual 265, 3) := by decide +kernel
theorem dX9_alike_77 : decode cX9_alike 77 = .ok (.ireturn, 1) := by decide +kernel
theorem dX9_isSame_0 : decode cX9_isSame 0 = .ok (.aload_n 0, 1) := by decide +kernel
theorem dX9_isSame_1 : decode cX9_isSame 1 = .ok (.iload_n 1, 1) := by decide +kernel
theorem dX9_isSame_2 : decode cX9_isSame 2 = .ok (.invokevirtual 227, 3) := by decide +kernel
theorem dX9_isSame_5 : decode cX9_isSame 5 = .ok (.aload_n 0, 1) := by decide +kernel
theorem dX9_isSame_6 : decode cX9_isSame 6 = .ok (.iload_n 2, 1) := by decide +kernel
theorem dX9_isSame_7 : decode cX9_isSame 7 = .ok (.invokevirtual 227, 3) := by decide +kernel
theorem dX9_isSame_10 : decode cX9_isSame 10 = .ok (.if_icmp .ne 23, 3) := by decide +kernel
theorem dX9_isSame_13 : decode cX9_isSame 13 = .ok (.aload_n 0, 1) := by decide +kernel
theorem dX9_isSame_14 : decode cX9_isSame 14 = .ok (.iload_n 1, 1) := by decide +kernel
theorem dX9_isSame_15 : decode cX9_isSame 15 = .ok (.iconst 0, 1) := by decide +kernel
theorem dX9_isSame_16 : decode cX9_isSame 16 = .ok (.iload_n 2, 1) := by decide +kernel
theorem dX9_isSame_17 : decode cX9_isSame 17 = .ok (.iconst 0, 1) := by decide +kernel
theorem dX9_isSame_18 : decode cX9_isSame 18 = .ok (.invokevirtual 328, 3) := by decide +kernel
theorem dX9_isSame_21 : decode cX9_isSame 21 = .ok (.aload_n 0, 1) := by decide +kernel
theorem dX9_isSame_22 : decode cX9_isSame 22 = .ok (.iload_n 1, 1) := by decide +kernel
theorem dX9_isSame_23 : decode cX9_isSame 23 = .ok (.invokevirtual 227, 3) := by decide +kernel
theorem dX9_isSame_26 : decode cX9_isSame 26 = .ok (.if_icmp .ne 7, 3) := by decide +kernel
theorem dX9_isSame_29 : decode cX9_isSame 29 = .ok (.iconst 1, 1) := by decide +kernel
theorem dX9_isSame_30 : decode cX9_isSame 30 = .ok (.goto 4, 3) := by decide +kernel
theorem dX9_isSame_33 : decode cX9_isSame 33 = .ok (.iconst 0, 1) := by decide +kernel
theorem dX9_isSame_34 : decode cX9_isSame 34 = .ok (.ireturn, 1) := by decide +kernel
theorem dX9_isAhead_0 : decode cX9_isAhead 0 = .ok (.aload_n 0, 1) := by decide +kernel
theorem dX9_isAhead_1 : decode cX9_isAhead 1 = .ok (.iload_n 1, 1) := by decide +kernel
theorem dX9_isAhead_2 : decode cX9_isAhead 2 = .ok (.iconst 0, 1) := by decide +kernel
theorem dX9_isAhead_3 : decode cX9_isAhead 3 = .ok (.iload_n 2, 1) := by decide +kernel
theorem dX9_isAhead_4 : decode cX9_isAhead 4 = .ok (.iconst 0, 1) := by decide +kernel
theorem dX9_isAhead_5 : decode cX9_isAhead 5 = .ok (.invokevirtual 328, 3) := by decide +kernel
theorem dX9_isAhead_8 : decode cX9_isAhead 8 = .ok (.istore_n 3, 1) := by decide +kernel
theorem dX9_isAhead_9 : decode cX9_isAhead 9 = .ok (.iload_n 3, 1) := by decide +kernel
theorem dX9_isAhead_10 : decode cX9_isAhead 10 = .ok (.aload_n 0, 1) := by decide +kernel
theorem dX9_isAhead_11 : decode cX9_isAhead 11 = .ok (.iload_n 1, 1) := by decide +kernel
theorem dX9_isAhead_12 : decode cX9_isAhead 12 = .ok (.invokevirtual 227, 3) := by decide +kernel
theorem dX9_isAhead_15 : decode cX9_isAhead 15 = .ok (.if_icmp .ne 20, 3) := by decide +kernel
theorem dX9_isAhead_18 : decode cX9_isAhead 18 = .ok (.iload_n 3, 1) := by decide +kernel
theorem dX9_isAhead_19 : decode cX9_isAhead 19 = .ok (.aload_n 0, 1) := by decide +kernel
theorem dX9_isAhead_20 : decode cX9_isAhead 20 = .ok (.iload_n 2, 1) := by decide +kernel
theorem dX9_isAhead_21 : decode cX9_isAhead 21 = .ok (.invokevirtual 227, 3) := by decide +kernel
theorem dX9_isAhead_24 : decode cX9_isAhead 24 = .ok (.if_icmp .ge 7, 3) := by decide +kernel
theorem dX9_isAhead_27 : decode cX9_isAhead 27 = .ok (.iconst 1, 1) := by decide +kernel
theorem dX9_isAhead_28 : decode cX9_isAhead 28 = .ok (.goto 36, 3) := by decide +kernel
theorem dX9_isAhead_31 : decode cX9_isAhead 31 = .ok (.iconst 0, 1) := by decide +kernel
theorem dX9_isAhead_32 : decode cX9_isAhead 32 = .ok (.goto 32, 3) := by decide +kernel
theorem dX9_isAhead_35 : decode cX9_isAhead 35 = .ok (.iload_n 3, 1) := by decide +kernel
theorem dX9_isAhead_36 : decode cX9_isAhead 36 = .ok (.aload_n 0, 1) := by decide +kernel
theorem dX9_isAhead_37 : decode cX9_isAhead 37 = .ok (.iload_n 2, 1) := by decide +kernel
theorem dX9_isAhead_38 : decode cX9_isAhead 38 = .ok (.invokevirtual 227, 3) := by decide +kernel
theorem dX9_isAhead_41 : decode cX9_isAhead 41 = .ok (.if_icmp .ge 22, 3) := by decide +kernel
theorem dX9_isAhead_44 : decode cX9_isAhead 44 = .ok (.aload_n 0, 1) := by decide +kernel
theorem dX9_isAhead_45 : decode cX9_isAhead 45 = .ok (.iload_n 1, 1) := by decide +kernel
theorem dX9_isAhead_46 : decode cX9_isAhead 46 = .ok (.iload_n 3, 1) := by decide +kernel
theorem dX9_isAhead_47 : decode cX9_isAhead 47 = .ok (.invokevirtual 230, 3) := by decide +kernel
theorem dX9_isAhead_50 : decode cX9_isAhead 50 = .ok (.aload_n 0, 1) := by decide +kernel
theorem dX9_isAhead_51 : decode cX9_isAhead 51 = .ok (.iload_n 2, 1) := by decide +kernel
theorem dX9_isAhead_52 : decode cX9_isAhead 52 = .ok (.iload_n 3, 1) := by decide +kernel
theorem dX9_isAhead_53 : decode cX9_isAhead 53 = .ok (.invokevirtual 230, 3) := by decide +kernel
theorem dX9_isAhead_56 : decode cX9_isAhead 56 = .ok (.if_icmp .ge 7, 3) := by decide +kernel
theorem dX9_isAhead_59 : decode cX9_isAhead 59 = .ok (.iconst 1, 1) := by decide +kernel
theorem dX9_isAhead_60 : decode cX9_isAhead 60 = .ok (.goto 4, 3) := by decide +kernel
theorem dX9_isAhead_63 : decode cX9_isAhead 63 = .ok (.iconst 0, 1) := by decide +kernel
theorem dX9_isAhead_64 : decode cX9_isAhead 64 = .ok (.ireturn, 1) := by decide +kernel
theorem dX9_shared_0 : decode cX9_shared 0 = .ok (.aload_n 0, 1) := by decide +kernel
theorem dX9_shared_1 : decode cX9_shared 1 = .ok (.invokevirtual 123, 3) := by decide +kernel
theorem dX9_shared_4 : decode cX9_shared 4 = .ok (.aload_n 0, 1) := by decide +kernel
theorem dX9_shared_5 : decode cX9_shared 5 = .ok (.iconst 0, 1) := by decide +kernel
theorem dX9_shared_6 : decode cX9_shared 6 = .ok (.iload_n 2, 1) := by decide +kernel
theorem dX9_shared_7 : decode cX9_shared 7 = .ok (.invokevirtual 117, 3) := by decide +kernel
theorem dX9_shared_10 : decode cX9_shared 10 = .ok (.pop, 1) := by decide +kernel
theorem dX9_shared_11 : decode cX9_shared 11 = .ok (.aload_n 0, 1) := by decide +kernel
theorem dX9_shared_12 : decode cX9_shared 12 = .ok (.getfield 84, 3) := by decide +kernel
theorem dX9_shared_15 : decode cX9_shared 15 = .ok (.istore_n 3, 1) := by decide +kernel
theorem dX9_shared_16 : decode cX9_shared 16 = .ok (.aload_n 0, 1) := by decide +kernel
theorem dX9_shared_17 : decode cX9_shared 17 = .ok (.invokevirtual 123, 3) := by decide +kernel
theorem dX9_shared_20 : decode cX9_shared 20 = .ok (.aload_n 0, 1) := by decide +kernel
theorem dX9_shared_21 : decode cX9_shared 21 = .ok (.iconst 0, 1) := by decide +kernel
theorem dX9_shared_22 : decode cX9_shared 22 = .ok (.iload_n 1, 1) := by decide +kernel
theorem dX9_shared_23 : decode cX9_shared 23 = .ok (.invokevirtual 117, 3) := by decide +kernel
theorem dX9_shared_26 : decode cX9_shared 26 = .ok (.pop, 1) := by decide +kernel
theorem dX9_shared_27 : decode cX9_shared 27 = .ok (.aload_n 0, 1) := by decide +kernel
theorem dX9_shared_28 : decode cX9_shared 28 = .ok (.getfield 84, 3) := by decide +kernel
theorem dX9_shared_31 : decode cX9_shared 31 = .ok (.istore 4, 2) := by decide +kernel
theorem dX9_shared_33 : decode cX9_shared 33 = .ok (.aload_n 0, 1) := by decide +kernel
theorem dX9_shared_34 : decode cX9_shared 34 = .ok (.iconst 0, 1) := by decide +kernel
theorem dX9_shared_35 : decode cX9_shared 35 = .ok (.iload_n 2, 1) := by decide +kernel
theorem dX9_shared_36 : decode cX9_shared 36 = .ok (.invokevirtual 117, 3) := by decide +kernel
theorem dX9_shared_39 : decode cX9_shared 39 = .ok (.pop, 1) := by decide +kernel
theorem dX9_shared_40 : decode cX9_shared 40 = .ok (.iload 4, 2) := by decide +kernel
theorem dX9_shared_42 : decode cX9_shared 42 = .ok (.iload_n 3, 1) := by decide +kernel
theorem dX9_shared_43 : decode cX9_shared 43 = .ok (.iadd, 1) := by decide +kernel
theorem dX9_shared_44 : decode cX9_shared 44 = .ok (.aload_n 0, 1) := by decide +kernel
theorem dX9_shared_45 : decode cX9_shared 45 = .ok (.getfield 84, 3) := by decide +kernel
theorem dX9_shared_48 : decode cX9_shared 48 = .ok (.isub, 1) := by decide +kernel
theorem dX9_shared_49 : decode cX9_shared 49 = .ok (.ireturn, 1) := by decide +kernel
theorem dX9_against_0 : decode cX9_against 0 = .ok (.iload_n 3, 1) := by decide +kernel
theorem dX9_against_1 : decode cX9_against 1 = .ok (.iconst 0, 1) := by decide +kernel
theorem dX9_against_2 : decode cX9_against 2 = .ok (.iconst 3, 1) := by decide +kernel
theorem dX9_against_3 : decode cX9_against 3 = .ok (.invokestatic 199, 3) := by decide +kernel
theorem dX9_against_6 : decode cX9_against 6 = .ok (.ifCond .ne 9, 3) := by decide +kernel
theorem dX9_against_9 : decode cX9_against 9 = .ok (.aload_n 0, 1) := by decide +kernel
theorem dX9_against_10 : decode cX9_against 10 = .ok (.iconst 1, 1) := by decide +kernel
theorem dX9_against_11 : decode cX9_against 11 = .ok (.invokevirtual 252, 3) := by decide +kernel
theorem dX9_against_14 : decode cX9_against 14 = .ok (.ireturn, 1) := by decide +kernel
theorem dX9_against_15 : decode cX9_against 15 = .ok (.aload_n 0, 1) := by decide +kernel
theorem dX9_against_16 : decode cX9_against 16 = .ok (.iload_n 1, 1) := by decide +kernel
theorem dX9_against_17 : decode cX9_against 17 = .ok (.invokevirtual 279, 3) := by decide +kernel
theorem dX9_against_20 : decode cX9_against 20 = .ok (.ifCond .eq 11, 3) := by decide +kernel
theorem dX9_against_23 : decode cX9_against 23 = .ok (.aload_n 0, 1) := by decide +kernel
theorem dX9_against_24 : decode cX9_against 24 = .ok (.iload_n 2, 1) := by decide +kernel
theorem dX9_against_25 : decode cX9_against 25 = .ok (.invokevirtual 279, 3) := by decide +kernel
theorem dX9_against_28 : decode cX9_against 28 = .ok (.ifCond .ne 9, 3) := by decide +kernel
theorem dX9_against_31 : decode cX9_against 31 = .ok (.aload_n 0, 1) := by decide +kernel
theorem dX9_against_32 : decode cX9_against 32 = .ok (.iconst 2, 1) := by decide +kernel
theorem dX9_against_33 : decode cX9_against 33 = .ok (.invokevirtual 252, 3) := by decide +kernel
theorem dX9_against_36 : decode cX9_against 36 = .ok (.ireturn, 1) := by decide +kernel
theorem dX9_against_37 : decode cX9_against 37 = .ok (.aload_n 0, 1) := by decide +kernel
theorem dX9_against_38 : decode cX9_against 38 = .ok (.iload_n 1, 1) := by decide +kernel
theorem dX9_against_39 : decode cX9_against 39 = .ok (.iload_n 2, 1) := by decide +kernel
theorem dX9_against_40 : decode cX9_against 40 = .ok (.invokevirtual 331, 3) := by decide +kernel
theorem dX9_against_43 : decode cX9_against 43 = .ok (.istore 4, 2) := by decide +kernel
theorem dX9_against_45 : decode cX9_against 45 = .ok (.iload_n 3, 1) := by decide +kernel
theorem dX9_against_46 : decode cX9_against 46 = .ok (.tableswitch 87 0 2 #[26, 48, 76], 26) := by decide +kernel
theorem dX9_against_72 : decode cX9_against 72 = .ok (.aload_n 0, 1) := by decide +kernel
theorem dX9_against_73 : decode cX9_against 73 = .ok (.iload 4, 2) := by decide +kernel
theorem dX9_against_75 : decode cX9_against 75 = .ok (.ifCond .eq 7, 3) := by decide +kernel
theorem dX9_against_78 : decode cX9_against 78 = .ok (.iconst (-1), 1) := by decide +kernel
theorem dX9_against_79 : decode cX9_against 79 = .ok (.goto 11, 3) := by decide +kernel
theorem dX9_against_82 : decode cX9_against 82 = .ok (.aload_n 0, 1) := by decide +kernel
theorem dX9_against_83 : decode cX9_against 83 = .ok (.iload_n 1, 1) := by decide +kernel
theorem dX9_against_84 : decode cX9_against 84 = .ok (.iconst 0, 1) := by decide +kernel
theorem dX9_against_85 : decode cX9_against 85 = .ok (.iload_n 2, 1) := by decide +kernel
theorem dX9_against_86 : decode cX9_against 86 = .ok (.iconst 0, 1) := by decide +kernel
theorem dX9_against_87 : decode cX9_against 87 = .ok (.invokevirtual 328, 3) := by decide +kernel
theorem dX9_against_90 : decode cX9_against 90 = .ok (.invokevirtual 265, 3) := by decide +kernel
theorem dX9_against_93 : decode cX9_against 93 = .ok (.ireturn, 1) := by decide +kernel
theorem dX9_against_94 : decode cX9_against 94 = .ok (.aload_n 0, 1) := by decide +kernel
theorem dX9_against_95 : decode cX9_against 95 = .ok (.iload 4, 2) := by decide +kernel
theorem dX9_against_97 : decode cX9_against 97 = .ok (.ifCond .eq 7, 3) := by decide +kernel
theorem dX9_against_100 : decode cX9_against 100 = .ok (.iconst 0, 1) := by decide +kernel
theorem dX9_against_101 : decode cX9_against 101 = .ok (.goto 17, 3) := by decide +kernel
theorem dX9_against_104 : decode cX9_against 104 = .ok (.aload_n 0, 1) := by decide +kernel
theorem dX9_against_105 : decode cX9_against 105 = .ok (.iload_n 1, 1) := by decide +kernel
theorem dX9_against_106 : decode cX9_against 106 = .ok (.iload_n 2, 1) := by decide +kernel
theorem dX9_against_107 : decode cX9_against 107 = .ok (.invokevirtual 334, 3) := by decide +kernel
theorem dX9_against_110 : decode cX9_against 110 = .ok (.ifCond .eq 7, 3) := by decide +kernel
theorem dX9_against_113 : decode cX9_against 113 = .ok (.iconst 1, 1) := by decide +kernel
theorem dX9_against_114 : decode cX9_against 114 = .ok (.goto 4, 3) := by decide +kernel
theorem dX9_against_117 : decode cX9_against 117 = .ok (.iconst 2, 1) := by decide +kernel
theorem dX9_against_118 : decode cX9_against 118 = .ok (.invokevirtual 265, 3) := by decide +kernel
theorem dX9_against_121 : decode cX9_against 121 = .ok (.ireturn, 1) := by decide +kernel
theorem dX9_against_122 : decode cX9_against 122 = .ok (.aload_n 0, 1) := by decide +kernel
theorem dX9_against_123 : decode cX9_against 123 = .ok (.aload_n 0, 1) := by decide +kernel
theorem dX9_against_124 : decode cX9_against 124 = .ok (.iload_n 1, 1) := by decide +kernel
theorem dX9_against_125 : decode cX9_against 125 = .ok (.iload_n 2, 1) := by decide +kernel
theorem dX9_against_126 : decode cX9_against 126 = .ok (.invokevirtual 337, 3) := by decide +kernel
theorem dX9_against_129 : decode cX9_against 129 = .ok (.invokevirtual 265, 3) := by decide +kernel
theorem dX9_against_132 : decode cX9_against 132 = .ok (.ireturn, 1) := by decide +kernel
theorem dX9_against_133 : decode cX9_against 133 = .ok (.aload_n 0, 1) := by decide +kernel
theorem dX9_against_134 : decode cX9_against 134 = .ok (.iload 4, 2) := by decide +kernel
theorem dX9_against_136 : decode cX9_against 136 = .ok (.ifCond .eq 7, 3) := by decide +kernel
theorem dX9_against_139 : decode cX9_against 139 = .ok (.iconst 1, 1) := by decide +kernel
theorem dX9_against_140 : decode cX9_against 140 = .ok (.goto 4, 3) := by decide +kernel
theorem dX9_against_143 : decode cX9_against 143 = .ok (.iconst 0, 1) := by decide +kernel
theorem dX9_against_144 : decode cX9_against 144 = .ok (.invokevirtual 265, 3) := by decide +kernel
theorem dX9_against_147 : decode cX9_against 147 = .ok (.ireturn, 1) := by decide +kernel
theorem dX9_findIn_0 : decode cX9_findIn 0 = .ok (.iload_n 3, 1) := by decide +kernel
theorem dX9_findIn_1 : decode cX9_findIn 1 = .ok (.istore 4, 2) := by decide +kernel
theorem dX9_findIn_3 : decode cX9_findIn 3 = .ok (.iload 4, 2) := by decide +kernel
theorem dX9_findIn_5 : decode cX9_findIn 5 = .ok (.aload_n 0, 1) := by decide +kernel
theorem dX9_findIn_6 : decode cX9_findIn 6 = .ok (.iload_n 2, 1) := by decide +kernel
theorem dX9_findIn_7 : decode cX9_findIn 7 = .ok (.invokevirtual 227, 3) := by decide +kernel
theorem dX9_findIn_10 : decode cX9_findIn 10 = .ok (.iadd, 1) := by decide +kernel
theorem dX9_findIn_11 : decode cX9_findIn 11 = .ok (.aload_n 0, 1) := by decide +kernel
theorem dX9_findIn_12 : decode cX9_findIn 12 = .ok (.iload_n 1, 1) := by decide +kernel
theorem dX9_findIn_13 : decode cX9_findIn 13 = .ok (.invokevirtual 227, 3) := by decide +kernel
theorem dX9_findIn_16 : decode cX9_findIn 16 = .ok (.if_icmp .gt 29, 3) := by decide +kernel
theorem dX9_findIn_19 : decode cX9_findIn 19 = .ok (.aload_n 0, 1) := by decide +kernel
theorem dX9_findIn_20 : decode cX9_findIn 20 = .ok (.iload_n 1, 1) := by decide +kernel
theorem dX9_findIn_21 : decode cX9_findIn 21 = .ok (.iload 4, 2) := by decide +kernel
theorem dX9_findIn_23 : decode cX9_findIn 23 = .ok (.iload_n 2, 1) := by decide +kernel
theorem dX9_findIn_24 : decode cX9_findIn 24 = .ok (.iconst 0, 1) := by decide +kernel
theorem dX9_findIn_25 : decode cX9_findIn 25 = .ok (.invokevirtual 328, 3) := by decide +kernel
theorem dX9_findIn_28 : decode cX9_findIn 28 = .ok (.aload_n 0, 1) := by decide +kernel
theorem dX9_findIn_29 : decode cX9_findIn 29 = .ok (.iload_n 2, 1) := by decide +kernel
theorem dX9_findIn_30 : decode cX9_findIn 30 = .ok (.invokevirtual 227, 3) := by decide +kernel
theorem dX9_findIn_33 : decode cX9_findIn 33 = .ok (.if_icmp .ne 6, 3) := by decide +kernel
theorem dX9_findIn_36 : decode cX9_findIn 36 = .ok (.iload 4, 2) := by decide +kernel
theorem dX9_findIn_38 : decode cX9_findIn 38 = .ok (.ireturn, 1) := by decide +kernel
theorem dX9_findIn_39 : decode cX9_findIn 39 = .ok (.iinc 4 1, 3) := by decide +kernel
theorem dX9_findIn_42 : decode cX9_findIn 42 = .ok (.goto (-39), 3) := by decide +kernel
theorem dX9_findIn_45 : decode cX9_findIn 45 = .ok (.iconst (-1), 1) := by decide +kernel
theorem dX9_findIn_46 : decode cX9_findIn 46 = .ok (.ireturn, 1) := by decide +kernel
theorem dX9_find_0 : decode cX9_find 0 = .ok (.iload_n 3, 1) := by decide +kernel
theorem dX9_find_1 : decode cX9_find 1 = .ok (.ifCond .ge 9, 3) := by decide +kernel
theorem dX9_find_4 : decode cX9_find 4 = .ok (.aload_n 0, 1) := by decide +kernel
theorem dX9_find_5 : decode cX9_find 5 = .ok (.iconst 1, 1) := by decide +kernel
theorem dX9_find_6 : decode cX9_find 6 = .ok (.invokevirtual 252, 3) := by decide +kernel
theorem dX9_find_9 : decode cX9_find 9 = .ok (.ireturn, 1) := by decide +kernel
theorem dX9_find_10 : decode cX9_find 10 = .ok (.aload_n 0, 1) := by decide +kernel
theorem dX9_find_11 : decode cX9_find 11 = .ok (.iload_n 1, 1) := by decide +kernel
theorem dX9_find_12 : decode cX9_find 12 = .ok (.invokevirtual 279, 3) := by decide +kernel
theorem dX9_find_15 : decode cX9_find 15 = .ok (.ifCond .eq 11, 3) := by decide +kernel
theorem dX9_find_18 : decode cX9_find 18 = .ok (.aload_n 0, 1) := by decide +kernel
theorem dX9_find_19 : decode cX9_find 19 = .ok (.iload_n 2, 1) := by decide +kernel
theorem dX9_find_20 : decode cX9_find 20 = .ok (.invokevirtual 279, 3) := by decide +kernel
theorem dX9_find_23 : decode cX9_find 23 = .ok (.ifCond .ne 9, 3) := by decide +kernel
theorem dX9_find_26 : decode cX9_find 26 = .ok (.aload_n 0, 1) := by decide +kernel
theorem dX9_find_27 : decode cX9_find 27 = .ok (.iconst 2, 1) := by decide +kernel
theorem dX9_find_28 : decode cX9_find 28 = .ok (.invokevirtual 252, 3) := by decide +kernel
theorem dX9_find_31 : decode cX9_find 31 = .ok (.ireturn, 1) := by decide +kernel
theorem dX9_find_32 : decode cX9_find 32 = .ok (.iload_n 3, 1) := by decide +kernel
theorem dX9_find_33 : decode cX9_find 33 = .ok (.aload_n 0, 1) := by decide +kernel
theorem dX9_find_34 : decode cX9_find 34 = .ok (.iload_n 1, 1) := by decide +kernel
theorem dX9_find_35 : decode cX9_find 35 = .ok (.invokevirtual 227, 3) := by decide +kernel
theorem dX9_find_38 : decode cX9_find 38 = .ok (.if_icmp .le 9, 3) := by decide +kernel
theorem dX9_find_41 : decode cX9_find 41 = .ok (.aload_n 0, 1) := by decide +kernel
theorem dX9_find_42 : decode cX9_find 42 = .ok (.iconst 5, 1) := by decide +kernel
theorem dX9_find_43 : decode cX9_find 43 = .ok (.invokevirtual 252, 3) := by decide +kernel
theorem dX9_find_46 : decode cX9_find 46 = .ok (.ireturn, 1) := by decide +kernel
theorem dX9_find_47 : decode cX9_find 47 = .ok (.aload_n 0, 1) := by decide +kernel
theorem dX9_find_48 : decode cX9_find 48 = .ok (.iload_n 1, 1) := by decide +kernel
theorem dX9_find_49 : decode cX9_find 49 = .ok (.iload_n 2, 1) := by decide +kernel
theorem dX9_find_50 : decode cX9_find 50 = .ok (.iload_n 3, 1) := by decide +kernel
theorem dX9_find_51 : decode cX9_find 51 = .ok (.invokevirtual 340, 3) := by decide +kernel
theorem dX9_find_54 : decode cX9_find 54 = .ok (.istore 4, 2) := by decide +kernel
theorem dX9_find_56 : decode cX9_find 56 = .ok (.iload 4, 2) := by decide +kernel
theorem dX9_find_58 : decode cX9_find 58 = .ok (.iconst (-1), 1) := by decide +kernel
theorem dX9_find_59 : decode cX9_find 59 = .ok (.if_icmp .ne 11, 3) := by decide +kernel
theorem dX9_find_62 : decode cX9_find 62 = .ok (.aload_n 0, 1) := by decide +kernel
theorem dX9_find_63 : decode cX9_find 63 = .ok (.iconst 5, 1) := by decide +kernel
theorem dX9_find_64 : decode cX9_find 64 = .ok (.invokevirtual 252, 3) := by decide +kernel
theorem dX9_find_67 : decode cX9_find 67 = .ok (.goto 9, 3) := by decide +kernel
theorem dX9_find_70 : decode cX9_find 70 = .ok (.aload_n 0, 1) := by decide +kernel
theorem dX9_find_71 : decode cX9_find 71 = .ok (.iload 4, 2) := by decide +kernel
theorem dX9_find_73 : decode cX9_find 73 = .ok (.invokevirtual 265, 3) := by decide +kernel
theorem dX9_find_76 : decode cX9_find 76 = .ok (.ireturn, 1) := by decide +kernel
theorem dX9_finds_0 : decode cX9_finds 0 = .ok (.aload_n 0, 1) := by decide +kernel
theorem dX9_finds_1 : decode cX9_finds 1 = .ok (.iload_n 1, 1) := by decide +kernel
theorem dX9_finds_2 : decode cX9_finds 2 = .ok (.invokevirtual 279, 3) := by decide +kernel
theorem dX9_finds_5 : decode cX9_finds 5 = .ok (.ifCond .eq 11, 3) := by decide +kernel
theorem dX9_finds_8 : decode cX9_finds 8 = .ok (.aload_n 0, 1) := by decide +kernel
theorem dX9_finds_9 : decode cX9_finds 9 = .ok (.iload_n 2, 1) := by decide +kernel
theorem dX9_finds_10 : decode cX9_finds 10 = .ok (.invokevirtual 279, 3) := by decide +kernel
theorem dX9_finds_13 : decode cX9_finds 13 = .ok (.ifCond .ne 9, 3) := by decide +kernel
theorem dX9_finds_16 : decode cX9_finds 16 = .ok (.aload_n 0, 1) := by decide +kernel
theorem dX9_finds_17 : decode cX9_finds 17 = .ok (.iconst 2, 1) := by decide +kernel
theorem dX9_finds_18 : decode cX9_finds 18 = .ok (.invokevirtual 252, 3) := by decide +kernel
theorem dX9_finds_21 : decode cX9_finds 21 = .ok (.ireturn, 1) := by decide +kernel
theorem dX9_finds_22 : decode cX9_finds 22 = .ok (.iconst 0, 1) := by decide +kernel
theorem dX9_finds_23 : decode cX9_finds 23 = .ok (.istore_n 3, 1) := by decide +kernel
theorem dX9_finds_24 : decode cX9_finds 24 = .ok (.aload_n 0, 1) := by decide +kernel
theorem dX9_finds_25 : decode cX9_finds 25 = .ok (.iload_n 1, 1) := by decide +kernel
theorem dX9_finds_26 : decode cX9_finds 26 = .ok (.iload_n 2, 1) := by decide +kernel
theorem dX9_finds_27 : decode cX9_finds 27 = .ok (.iconst 0, 1) := by decide +kernel
theorem dX9_finds_28 : decode cX9_finds 28 = .ok (.invokevirtual 340, 3) := by decide +kernel
theorem dX9_finds_31 : decode cX9_finds 31 = .ok (.istore 4, 2) := by decide +kernel
theorem dX9_finds_33 : decode cX9_finds 33 = .ok (.iload 4, 2) := by decide +kernel
theorem dX9_finds_35 : decode cX9_finds 35 = .ok (.iconst (-1), 1) := by decide +kernel
theorem dX9_finds_36 : decode cX9_finds 36 = .ok (.if_icmp .eq 21, 3) := by decide +kernel
theorem dX9_finds_39 : decode cX9_finds 39 = .ok (.iinc 3 1, 3) := by decide +kernel
theorem dX9_finds_42 : decode cX9_finds 42 = .ok (.aload_n 0, 1) := by decide +kernel
theorem dX9_finds_43 : decode cX9_finds 43 = .ok (.iload_n 1, 1) := by decide +kernel
theorem dX9_finds_44 : decode cX9_finds 44 = .ok (.iload_n 2, 1) := by decide +kernel
theorem dX9_finds_45 : decode cX9_finds 45 = .ok (.iload 4, 2) := by decide +kernel
theorem dX9_finds_47 : decode cX9_finds 47 = .ok (.iconst 1, 1) := by decide +kernel
theorem dX9_finds_48 : decode cX9_finds 48 = .ok (.iadd, 1) := by decide +kernel
theorem dX9_finds_49 : decode cX9_finds 49 = .ok (.invokevirtual 340, 3) := by decide +kernel
theorem dX9_finds_52 : decode cX9_finds 52 = .ok (.istore 4, 2) := by decide +kernel
theorem dX9_finds_54 : decode cX9_finds 54 = .ok (.goto (-21), 3) := by decide +kernel
theorem dX9_finds_57 : decode cX9_finds 57 = .ok (.aload_n 0, 1) := by decide +kernel
theorem dX9_finds_58 : decode cX9_finds 58 = .ok (.iload_n 3, 1) := by decide +kernel
theorem dX9_finds_59 : decode cX9_finds 59 = .ok (.invokevirtual 265, 3) := by decide +kernel
theorem dX9_finds_62 : decode cX9_finds 62 = .ok (.ireturn, 1) := by decide +kernel
theorem dX9_mirror_0 : decode cX9_mirror 0 = .ok (.iload_n 2, 1) := by decide +kernel
theorem dX9_mirror_1 : decode cX9_mirror 1 = .ok (.ifCond .ge 9, 3) := by decide +kernel
theorem dX9_mirror_4 : decode cX9_mirror 4 = .ok (.aload_n 0, 1) := by decide +kernel
theorem dX9_mirror_5 : decode cX9_mirror 5 = .ok (.iconst 1, 1) := by decide +kernel
theorem dX9_mirror_6 : decode cX9_mirror 6 = .ok (.invokevirtual 252, 3) := by decide +kernel
theorem dX9_mirror_9 : decode cX9_mirror 9 = .ok (.ireturn, 1) := by decide +kernel
theorem dX9_mirror_10 : decode cX9_mirror 10 = .ok (.aload_n 0, 1) := by decide +kernel
theorem dX9_mirror_11 : decode cX9_mirror 11 = .ok (.iload_n 1, 1) := by decide +kernel
theorem dX9_mirror_12 : decode cX9_mirror 12 = .ok (.invokevirtual 279, 3) := by decide +kernel
theorem dX9_mirror_15 : decode cX9_mirror 15 = .ok (.ifCond .ne 9, 3) := by decide +kernel
theorem dX9_mirror_18 : decode cX9_mirror 18 = .ok (.aload_n 0, 1) := by decide +kernel
theorem dX9_mirror_19 : decode cX9_mirror 19 = .ok (.iconst 2, 1) := by decide +kernel
theorem dX9_mirror_20 : decode cX9_mirror 20 = .ok (.invokevirtual 252, 3) := by decide +kernel
theorem dX9_mirror_23 : decode cX9_mirror 23 = .ok (.ireturn, 1) := by decide +kernel
theorem dX9_mirror_24 : decode cX9_mirror 24 = .ok (.iload_n 2, 1) := by decide +kernel
theorem dX9_mirror_25 : decode cX9_mirror 25 = .ok (.aload_n 0, 1) := by decide +kernel
theorem dX9_mirror_26 : decode cX9_mirror 26 = .ok (.iload_n 1, 1) := by decide +kernel
theorem dX9_mirror_27 : decode cX9_mirror 27 = .ok (.invokevirtual 227, 3) := by decide +kernel
theorem dX9_mirror_30 : decode cX9_mirror 30 = .ok (.if_icmp .lt 9, 3) := by decide +kernel
theorem dX9_mirror_33 : decode cX9_mirror 33 = .ok (.aload_n 0, 1) := by decide +kernel
theorem dX9_mirror_34 : decode cX9_mirror 34 = .ok (.iconst 5, 1) := by decide +kernel
theorem dX9_mirror_35 : decode cX9_mirror 35 = .ok (.invokevirtual 252, 3) := by decide +kernel
theorem dX9_mirror_38 : decode cX9_mirror 38 = .ok (.ireturn, 1) := by decide +kernel
theorem dX9_mirror_39 : decode cX9_mirror 39 = .ok (.iload_n 2, 1) := by decide +kernel
theorem dX9_mirror_40 : decode cX9_mirror 40 = .ok (.iconst 1, 1) := by decide +kernel
theorem dX9_mirror_41 : decode cX9_mirror 41 = .ok (.isub, 1) := by decide +kernel
theorem dX9_mirror_42 : decode cX9_mirror 42 = .ok (.istore 4, 2) := by decide +kernel
theorem dX9_mirror_44 : decode cX9_mirror 44 = .ok (.iload_n 3, 1) := by decide +kernel
theorem dX9_mirror_45 : decode cX9_mirror 45 = .ok (.ifCond .eq 7, 3) := by decide +kernel
theorem dX9_mirror_48 : decode cX9_mirror 48 = .ok (.iload_n 2, 1) := by decide +kernel
theorem dX9_mirror_49 : decode cX9_mirror 49 = .ok (.goto 6, 3) := by decide +kernel
theorem dX9_mirror_52 : decode cX9_mirror 52 = .ok (.iload_n 2, 1) := by decide +kernel
theorem dX9_mirror_53 : decode cX9_mirror 53 = .ok (.iconst 1, 1) := by decide +kernel
theorem dX9_mirror_54 : decode cX9_mirror 54 = .ok (.iadd, 1) := by decide +kernel
theorem dX9_mirror_55 : decode cX9_mirror 55 = .ok (.istore 5, 2) := by decide +kernel
theorem dX9_mirror_57 : decode cX9_mirror 57 = .ok (.iload 4, 2) := by decide +kernel
theorem dX9_mirror_59 : decode cX9_mirror 59 = .ok (.ifCond .lt 39, 3) := by decide +kernel
theorem dX9_mirror_62 : decode cX9_mirror 62 = .ok (.iload 5, 2) := by decide +kernel
theorem dX9_mirror_64 : decode cX9_mirror 64 = .ok (.aload_n 0, 1) := by decide +kernel
theorem dX9_mirror_65 : decode cX9_mirror 65 = .ok (.iload_n 1, 1) := by decide +kernel
theorem dX9_mirror_66 : decode cX9_mirror 66 = .ok (.invokevirtual 227, 3) := by decide +kernel
theorem dX9_mirror_69 : decode cX9_mirror 69 = .ok (.if_icmp .ge 29, 3) := by decide +kernel
theorem dX9_mirror_72 : decode cX9_mirror 72 = .ok (.aload_n 0, 1) := by decide +kernel
theorem dX9_mirror_73 : decode cX9_mirror 73 = .ok (.iload_n 1, 1) := by decide +kernel
theorem dX9_mirror_74 : decode cX9_mirror 74 = .ok (.iload 4, 2) := by decide +kernel
theorem dX9_mirror_76 : decode cX9_mirror 76 = .ok (.invokevirtual 230, 3) := by decide +kernel
theorem dX9_mirror_79 : decode cX9_mirror 79 = .ok (.aload_n 0, 1) := by decide +kernel
theorem dX9_mirror_80 : decode cX9_mirror 80 = .ok (.iload_n 1, 1) := by decide +kernel
theorem dX9_mirror_81 : decode cX9_mirror 81 = .ok (.iload 5, 2) := by decide +kernel
theorem dX9_mirror_83 : decode cX9_mirror 83 = .ok (.invokevirtual 230, 3) := by decide +kernel
theorem dX9_mirror_86 : decode cX9_mirror 86 = .ok (.if_icmp .ne 12, 3) := by decide +kernel
theorem dX9_mirror_89 : decode cX9_mirror 89 = .ok (.iinc 4 (-1), 3) := by decide +kernel
theorem dX9_mirror_92 : decode cX9_mirror 92 = .ok (.iinc 5 1, 3) := by decide +kernel
theorem dX9_mirror_95 : decode cX9_mirror 95 = .ok (.goto (-38), 3) := by decide +kernel
theorem dX9_mirror_98 : decode cX9_mirror 98 = .ok (.aload_n 0, 1) := by decide +kernel
theorem dX9_mirror_99 : decode cX9_mirror 99 = .ok (.iload 5, 2) := by decide +kernel
theorem dX9_mirror_101 : decode cX9_mirror 101 = .ok (.iload 4, 2) := by decide +kernel
theorem dX9_mirror_103 : decode cX9_mirror 103 = .ok (.isub, 1) := by decide +kernel
theorem dX9_mirror_104 : decode cX9_mirror 104 = .ok (.iconst 1, 1) := by decide +kernel
theorem dX9_mirror_105 : decode cX9_mirror 105 = .ok (.isub, 1) := by decide +kernel
theorem dX9_mirror_106 : decode cX9_mirror 106 = .ok (.invokevirtual 265, 3) := by decide +kernel
theorem dX9_mirror_109 : decode cX9_mirror 109 = .ok (.ireturn, 1) := by decide +kernel
theorem dX9_rank_0 : decode cX9_rank 0 = .ok (.iload_n 2, 1) := by decide +kernel
theorem dX9_rank_1 : decode cX9_rank 1 = .ok (.iconst 0, 1) := by decide +kernel
theorem dX9_rank_2 : decode cX9_rank 2 = .ok (.bipush 25, 2) := by decide +kernel
theorem dX9_rank_4 : decode cX9_rank 4 = .ok (.invokestatic 199, 3) := by decide +kernel
theorem dX9_rank_7 : decode cX9_rank 7 = .ok (.ifCond .eq 7, 3) := by decide +kernel
theorem dX9_rank_10 : decode cX9_rank 10 = .ok (.iload_n 3, 1) := by decide +kernel
theorem dX9_rank_11 : decode cX9_rank 11 = .ok (.ifCond .ge 9, 3) := by decide +kernel
theorem dX9_rank_14 : decode cX9_rank 14 = .ok (.aload_n 0, 1) := by decide +kernel
theorem dX9_rank_15 : decode cX9_rank 15 = .ok (.iconst 1, 1) := by decide +kernel
theorem dX9_rank_16 : decode cX9_rank 16 = .ok (.invokevirtual 252, 3) := by decide +kernel
theorem dX9_rank_19 : decode cX9_rank 19 = .ok (.ireturn, 1) := by decide +kernel
theorem dX9_rank_20 : decode cX9_rank 20 = .ok (.aload_n 0, 1) := by decide +kernel
theorem dX9_rank_21 : decode cX9_rank 21 = .ok (.iload_n 1, 1) := by decide +kernel
theorem dX9_rank_22 : decode cX9_rank 22 = .ok (.invokevirtual 279, 3) := by decide +kernel
theorem dX9_rank_25 : decode cX9_rank 25 = .ok (.ifCond .ne 9, 3) := by decide +kernel
theorem dX9_rank_28 : decode cX9_rank 28 = .ok (.aload_n 0, 1) := by decide +kernel
theorem dX9_rank_29 : decode cX9_rank 29 = .ok (.iconst 2, 1) := by decide +kernel
theorem dX9_rank_30 : decode cX9_rank 30 = .ok (.invokevirtual 252, 3) := by decide +kernel
theorem dX9_rank_33 : decode cX9_rank 33 = .ok (.ireturn, 1) := by decide +kernel
theorem dX9_rank_34 : decode cX9_rank 34 = .ok (.iload_n 3, 1) := by decide +kernel
theorem dX9_rank_35 : decode cX9_rank 35 = .ok (.aload_n 0, 1) := by decide +kernel
theorem dX9_rank_36 : decode cX9_rank 36 = .ok (.iload_n 1, 1) := by decide +kernel
theorem dX9_rank_37 : decode cX9_rank 37 = .ok (.invokevirtual 227, 3) := by decide +kernel
theorem dX9_rank_40 : decode cX9_rank 40 = .ok (.if_icmp .le 11, 3) := by decide +kernel
theorem dX9_rank_43 : decode cX9_rank 43 = .ok (.aload_n 0, 1) := by decide +kernel
theorem dX9_rank_44 : decode cX9_rank 44 = .ok (.iconst 5, 1) := by decide +kernel
theorem dX9_rank_45 : decode cX9_rank 45 = .ok (.invokevirtual 252, 3) := by decide +kernel
theorem dX9_rank_48 : decode cX9_rank 48 = .ok (.goto 14, 3) := by decide +kernel
theorem dX9_rank_51 : decode cX9_rank 51 = .ok (.aload_n 0, 1) := by decide +kernel
theorem dX9_rank_52 : decode cX9_rank 52 = .ok (.aload_n 0, 1) := by decide +kernel
theorem dX9_rank_53 : decode cX9_rank 53 = .ok (.iload_n 1, 1) := by decide +kernel
theorem dX9_rank_54 : decode cX9_rank 54 = .ok (.iload_n 2, 1) := by decide +kernel
theorem dX9_rank_55 : decode cX9_rank 55 = .ok (.iload_n 3, 1) := by decide +kernel
theorem dX9_rank_56 : decode cX9_rank 56 = .ok (.invokevirtual 297, 3) := by decide +kernel
theorem dX9_rank_59 : decode cX9_rank 59 = .ok (.invokevirtual 265, 3) := by decide +kernel
theorem dX9_rank_62 : decode cX9_rank 62 = .ok (.ireturn, 1) := by decide +kernel
theorem dX9_select_0 : decode cX9_select 0 = .ok (.iload_n 2, 1) := by decide +kernel
theorem dX9_select_1 : decode cX9_select 1 = .ok (.iconst 0, 1) := by decide +kernel
theorem dX9_select_2 : decode cX9_select 2 = .ok (.bipush 25, 2) := by decide +kernel
theorem dX9_select_4 : decode cX9_select 4 = .ok (.invokestatic 199, 3) := by decide +kernel
theorem dX9_select_7 : decode cX9_select 7 = .ok (.ifCond .eq 7, 3) := by decide +kernel
theorem dX9_select_10 : decode cX9_select 10 = .ok (.iload_n 3, 1) := by decide +kernel
theorem dX9_select_11 : decode cX9_select 11 = .ok (.ifCond .ge 9, 3) := by decide +kernel
theorem dX9_select_14 : decode cX9_select 14 = .ok (.aload_n 0, 1) := by decide +kernel
theorem dX9_select_15 : decode cX9_select 15 = .ok (.iconst 1, 1) := by decide +kernel
theorem dX9_select_16 : decode cX9_select 16 = .ok (.invokevirtual 252, 3) := by decide +kernel
theorem dX9_select_19 : decode cX9_select 19 = .ok (.ireturn, 1) := by decide +kernel
theorem dX9_select_20 : decode cX9_select 20 = .ok (.aload_n 0, 1) := by decide +kernel
theorem dX9_select_21 : decode cX9_select 21 = .ok (.iload_n 1, 1) := by decide +kernel
theorem dX9_select_22 : decode cX9_select 22 = .ok (.invokevirtual 279, 3) := by decide +kernel
theorem dX9_select_25 : decode cX9_select 25 = .ok (.ifCond .ne 9, 3) := by decide +kernel
theorem dX9_select_28 : decode cX9_select 28 = .ok (.aload_n 0, 1) := by decide +kernel
theorem dX9_select_29 : decode cX9_select 29 = .ok (.iconst 2, 1) := by decide +kernel
theorem dX9_select_30 : decode cX9_select 30 = .ok (.invokevirtual 252, 3) := by decide +kernel
theorem dX9_select_33 : decode cX9_select 33 = .ok (.ireturn, 1) := by decide +kernel
theorem dX9_select_34 : decode cX9_select 34 = .ok (.iload_n 3, 1) := by decide +kernel
theorem dX9_select_35 : decode cX9_select 35 = .ok (.istore 4, 2) := by decide +kernel
theorem dX9_select_37 : decode cX9_select 37 = .ok (.iconst 0, 1) := by decide +kernel
theorem dX9_select_38 : decode cX9_select 38 = .ok (.istore 5, 2) := by decide +kernel
theorem dX9_select_40 : decode cX9_select 40 = .ok (.iload 5, 2) := by decide +kernel
theorem dX9_select_42 : decode cX9_select 42 = .ok (.aload_n 0, 1) := by decide +kernel
theorem dX9_select_43 : decode cX9_select 43 = .ok (.iload_n 1, 1) := by decide +kernel
theorem dX9_select_44 : decode cX9_select 44 = .ok (.invokevirtual 227, 3) := by decide +kernel
theorem dX9_select_47 : decode cX9_select 47 = .ok (.if_icmp .ge 38, 3) := by decide +kernel
theorem dX9_select_50 : decode cX9_select 50 = .ok (.aload_n 0, 1) := by decide +kernel
theorem dX9_select_51 : decode cX9_select 51 = .ok (.iload_n 1, 1) := by decide +kernel
theorem dX9_select_52 : decode cX9_select 52 = .ok (.iload 5, 2) := by decide +kernel
theorem dX9_select_54 : decode cX9_select 54 = .ok (.invokevirtual 230, 3) := by decide +kernel
theorem dX9_select_57 : decode cX9_select 57 = .ok (.iload_n 2, 1) := by decide +kernel
theorem dX9_select_58 : decode cX9_select 58 = .ok (.if_icmp .eq 6, 3) := by decide +kernel
theorem dX9_select_61 : decode cX9_select 61 = .ok (.goto 18, 3) := by decide +kernel
theorem dX9_select_64 : decode cX9_select 64 = .ok (.iload 4, 2) := by decide +kernel
theorem dX9_select_66 : decode cX9_select 66 = .ok (.ifCond .ne 10, 3) := by decide +kernel
theorem dX9_select_69 : decode cX9_select 69 = .ok (.aload_n 0, 1) := by decide +kernel
theorem dX9_select_70 : decode cX9_select 70 = .ok (.iload 5, 2) := by decide +kernel
theorem dX9_select_72 : decode cX9_select 72 = .ok (.invokevirtual 265, 3) := by decide +kernel
theorem dX9_select_75 : decode cX9_select 75 = .ok (.ireturn, 1) := by decide +kernel
theorem dX9_select_76 : decode cX9_select 76 = .ok (.iinc 4 (-1), 3) := by decide +kernel
theorem dX9_select_79 : decode cX9_select 79 = .ok (.iinc 5 1, 3) := by decide +kernel
theorem dX9_select_82 : decode cX9_select 82 = .ok (.goto (-42), 3) := by decide +kernel
theorem dX9_select_85 : decode cX9_select 85 = .ok (.aload_n 0, 1) := by decide +kernel
theorem dX9_select_86 : decode cX9_select 86 = .ok (.iconst 5, 1) := by decide +kernel
theorem dX9_select_87 : decode cX9_select 87 = .ok (.invokevirtual 252, 3) := by decide +kernel
theorem dX9_select_90 : decode cX9_select 90 = .ok (.ireturn, 1) := by decide +kernel
theorem dX9_sorted_0 : decode cX9_sorted 0 = .ok (.iload_n 1, 1) := by decide +kernel
theorem dX9_sorted_1 : decode cX9_sorted 1 = .ok (.ifCond .ge 9, 3) := by decide +kernel
theorem dX9_sorted_4 : decode cX9_sorted 4 = .ok (.aload_n 0, 1) := by decide +kernel
theorem dX9_sorted_5 : decode cX9_sorted 5 = .ok (.iconst 1, 1) := by decide +kernel
theorem dX9_sorted_6 : decode cX9_sorted 6 = .ok (.invokevirtual 252, 3) := by decide +kernel
theorem dX9_sorted_9 : decode cX9_sorted 9 = .ok (.ireturn, 1) := by decide +kernel
theorem dX9_sorted_10 : decode cX9_sorted 10 = .ok (.iconst 0, 1) := by decide +kernel
theorem dX9_sorted_11 : decode cX9_sorted 11 = .ok (.istore_n 2, 1) := by decide +kernel
theorem dX9_sorted_12 : decode cX9_sorted 12 = .ok (.iload_n 2, 1) := by decide +kernel
theorem dX9_sorted_13 : decode cX9_sorted 13 = .ok (.aload_n 0, 1) := by decide +kernel
theorem dX9_sorted_14 : decode cX9_sorted 14 = .ok (.invokevirtual 80, 3) := by decide +kernel
theorem dX9_sorted_17 : decode cX9_sorted 17 = .ok (.if_icmp .ge 74, 3) := by decide +kernel
theorem dX9_sorted_20 : decode cX9_sorted 20 = .ok (.iconst 0, 1) := by decide +kernel
theorem dX9_sorted_21 : decode cX9_sorted 21 = .ok (.istore_n 3, 1) := by decide +kernel
theorem dX9_sorted_22 : decode cX9_sorted 22 = .ok (.iconst 0, 1) := by decide +kernel
theorem dX9_sorted_23 : decode cX9_sorted 23 = .ok (.istore 4, 2) := by decide +kernel
theorem dX9_sorted_25 : decode cX9_sorted 25 = .ok (.iload 4, 2) := by decide +kernel
theorem dX9_sorted_27 : decode cX9_sorted 27 = .ok (.aload_n 0, 1) := by decide +kernel
theorem dX9_sorted_28 : decode cX9_sorted 28 = .ok (.invokevirtual 80, 3) := by decide +kernel
theorem dX9_sorted_31 : decode cX9_sorted 31 = .ok (.if_icmp .ge 43, 3) := by decide +kernel
theorem dX9_sorted_34 : decode cX9_sorted 34 = .ok (.iload_n 3, 1) := by decide +kernel
theorem dX9_sorted_35 : decode cX9_sorted 35 = .ok (.aload_n 0, 1) := by decide +kernel
theorem dX9_sorted_36 : decode cX9_sorted 36 = .ok (.iload 4, 2) := by decide +kernel
theorem dX9_sorted_38 : decode cX9_sorted 38 = .ok (.iload_n 2, 1) := by decide +kernel
theorem dX9_sorted_39 : decode cX9_sorted 39 = .ok (.invokevirtual 334, 3) := by decide +kernel
theorem dX9_sorted_42 : decode cX9_sorted 42 = .ok (.ifCond .ne 19, 3) := by decide +kernel
theorem dX9_sorted_45 : decode cX9_sorted 45 = .ok (.iload 4, 2) := by decide +kernel
theorem dX9_sorted_47 : decode cX9_sorted 47 = .ok (.iload_n 2, 1) := by decide +kernel
theorem dX9_sorted_48 : decode cX9_sorted 48 = .ok (.if_icmp .ge 17, 3) := by decide +kernel
theorem dX9_sorted_51 : decode cX9_sorted 51 = .ok (.aload_n 0, 1) := by decide +kernel
theorem dX9_sorted_52 : decode cX9_sorted 52 = .ok (.iload 4, 2) := by decide +kernel
theorem dX9_sorted_54 : decode cX9_sorted 54 = .ok (.iload_n 2, 1) := by decide +kernel
theorem dX9_sorted_55 : decode cX9_sorted 55 = .ok (.invokevirtual 331, 3) := by decide +kernel
theorem dX9_sorted_58 : decode cX9_sorted 58 = .ok (.ifCond .eq 7, 3) := by decide +kernel
theorem dX9_sorted_61 : decode cX9_sorted 61 = .ok (.iconst 1, 1) := by decide +kernel
theorem dX9_sorted_62 : decode cX9_sorted 62 = .ok (.goto 4, 3) := by decide +kernel
theorem dX9_sorted_65 : decode cX9_sorted 65 = .ok (.iconst 0, 1) := by decide +kernel
theorem dX9_sorted_66 : decode cX9_sorted 66 = .ok (.iadd, 1) := by decide +kernel
theorem dX9_sorted_67 : decode cX9_sorted 67 = .ok (.istore_n 3, 1) := by decide +kernel
theorem dX9_sorted_68 : decode cX9_sorted 68 = .ok (.iinc 4 1, 3) := by decide +kernel
theorem dX9_sorted_71 : decode cX9_sorted 71 = .ok (.goto (-46), 3) := by decide +kernel
theorem dX9_sorted_74 : decode cX9_sorted 74 = .ok (.iload_n 3, 1) := by decide +kernel
theorem dX9_sorted_75 : decode cX9_sorted 75 = .ok (.iload_n 1, 1) := by decide +kernel
theorem dX9_sorted_76 : decode cX9_sorted 76 = .ok (.if_icmp .ne 9, 3) := by decide +kernel
theorem dX9_sorted_79 : decode cX9_sorted 79 = .ok (.aload_n 0, 1) := by decide +kernel
theorem dX9_sorted_80 : decode cX9_sorted 80 = .ok (.iload_n 2, 1) := by decide +kernel
theorem dX9_sorted_81 : decode cX9_sorted 81 = .ok (.invokevirtual 265, 3) := by decide +kernel
theorem dX9_sorted_84 : decode cX9_sorted 84 = .ok (.ireturn, 1) := by decide +kernel
theorem dX9_sorted_85 : decode cX9_sorted 85 = .ok (.iinc 2 1, 3) := by decide +kernel
theorem dX9_sorted_88 : decode cX9_sorted 88 = .ok (.goto (-76), 3) := by decide +kernel
theorem dX9_sorted_91 : decode cX9_sorted 91 = .ok (.aload_n 0, 1) := by decide +kernel
theorem dX9_sorted_92 : decode cX9_sorted 92 = .ok (.iconst 5, 1) := by decide +kernel
theorem dX9_sorted_93 : decode cX9_sorted 93 = .ok (.invokevirtual 252, 3) := by decide +kernel
theorem dX9_sorted_96 : decode cX9_sorted 96 = .ok (.ireturn, 1) := by decide +kernel
theorem dJ6_compare_7cf53_0 : decode cJ6_compare_7cf53 0 = .ok (.iload_n 0, 1) := by decide +kernel
theorem dJ6_compare_7cf53_1 : decode cJ6_compare_7cf53 1 = .ok (.iload_n 1, 1) := by decide +kernel
theorem dJ6_compare_7cf53_2 : decode cJ6_compare_7cf53 2 = .ok (.if_icmp .ge 7, 3) := by decide +kernel
theorem dJ6_compare_7cf53_5 : decode cJ6_compare_7cf53 5 = .ok (.iconst (-1), 1) := by decide +kernel
theorem dJ6_compare_7cf53_6 : decode cJ6_compare_7cf53 6 = .ok (.goto 13, 3) := by decide +kernel
theorem dJ6_compare_7cf53_9 : decode cJ6_compare_7cf53 9 = .ok (.iload_n 0, 1) := by decide +kernel
theorem dJ6_compare_7cf53_10 : decode cJ6_compare_7cf53 10 = .ok (.iload_n 1, 1) := by decide +kernel
theorem dJ6_compare_7cf53_11 : decode cJ6_compare_7cf53 11 = .ok (.if_icmp .ne 7, 3) := by decide +kernel
theorem dJ6_compare_7cf53_14 : decode cJ6_compare_7cf53 14 = .ok (.iconst 0, 1) := by decide +kernel
theorem dJ6_compare_7cf53_15 : decode cJ6_compare_7cf53 15 = .ok (.goto 4, 3) := by decide +kernel
theorem dJ6_compare_7cf53_18 : decode cJ6_compare_7cf53 18 = .ok (.iconst 1, 1) := by decide +kernel
theorem dJ6_compare_7cf53_19 : decode cJ6_compare_7cf53 19 = .ok (.ireturn, 1) := by decide +kernel
theorem dJ6_bitCount_0f7a4_0 : decode cJ6_bitCount_0f7a4 0 = .ok (.iload_n 0, 1) := by decide +kernel
theorem dJ6_bitCount_0f7a4_1 : decode cJ6_bitCount_0f7a4 1 = .ok (.iload_n 0, 1) := by decide +kernel
theorem dJ6_bitCount_0f7a4_2 : decode cJ6_bitCount_0f7a4 2 = .ok (.iconst 1, 1) := by decide +kernel
theorem dJ6_bitCount_0f7a4_3 : decode cJ6_bitCount_0f7a4 3 = .ok (.iushr, 1) := by decide +kernel
theorem dJ6_bitCount_0f7a4_4 : decode cJ6_bitCount_0f7a4 4 = .ok (.ldc_w 265, 3) := by decide +kernel
theorem dJ6_bitCount_0f7a4_7 : decode cJ6_bitCount_0f7a4 7 = .ok (.iand, 1) := by decide +kernel
theorem dJ6_bitCount_0f7a4_8 : decode cJ6_bitCount_0f7a4 8 = .ok (.isub, 1) := by decide +kernel
theorem dJ6_bitCount_0f7a4_9 : decode cJ6_bitCount_0f7a4 9 = .ok (.istore_n 0, 1) := by decide +kernel
theorem dJ6_bitCount_0f7a4_10 : decode cJ6_bitCount_0f7a4 10 = .ok (.iload_n 0, 1) := by decide +kernel
theorem dJ6_bitCount_0f7a4_11 : decode cJ6_bitCount_0f7a4 11 = .ok (.ldc_w 266, 3) := by decide +kernel
theorem dJ6_bitCount_0f7a4_14 : decode cJ6_bitCount_0f7a4 14 = .ok (.iand, 1) := by decide +kernel
theorem dJ6_bitCount_0f7a4_15 : decode cJ6_bitCount_0f7a4 15 = .ok (.iload_n 0, 1) := by decide +kernel
theorem dJ6_bitCount_0f7a4_16 : decode cJ6_bitCount_0f7a4 16 = .ok (.iconst 2, 1) := by decide +kernel
theorem dJ6_bitCount_0f7a4_17 : decode cJ6_bitCount_0f7a4 17 = .ok (.iushr, 1) := by decide +kernel
theorem dJ6_bitCount_0f7a4_18 : decode cJ6_bitCount_0f7a4 18 = .ok (.ldc_w 266, 3) := by decide +kernel
theorem dJ6_bitCount_0f7a4_21 : decode cJ6_bitCount_0f7a4 21 = .ok (.iand, 1) := by decide +kernel
theorem dJ6_bitCount_0f7a4_22 : decode cJ6_bitCount_0f7a4 22 = .ok (.iadd, 1) := by decide +kernel
theorem dJ6_bitCount_0f7a4_23 : decode cJ6_bitCount_0f7a4 23 = .ok (.istore_n 0, 1) := by decide +kernel
theorem dJ6_bitCount_0f7a4_24 : decode cJ6_bitCount_0f7a4 24 = .ok (.iload_n 0, 1) := by decide +kernel
theorem dJ6_bitCount_0f7a4_25 : decode cJ6_bitCount_0f7a4 25 = .ok (.iload_n 0, 1) := by decide +kernel
theorem dJ6_bitCount_0f7a4_26 : decode cJ6_bitCount_0f7a4 26 = .ok (.iconst 4, 1) := by decide +kernel
theorem dJ6_bitCount_0f7a4_27 : decode cJ6_bitCount_0f7a4 27 = .ok (.iushr, 1) := by decide +kernel
theorem dJ6_bitCount_0f7a4_28 : decode cJ6_bitCount_0f7a4 28 = .ok (.iadd, 1) := by decide +kernel
theorem dJ6_bitCount_0f7a4_29 : decode cJ6_bitCount_0f7a4 29 = .ok (.ldc_w 267, 3) := by decide +kernel
theorem dJ6_bitCount_0f7a4_32 : decode cJ6_bitCount_0f7a4 32 = .ok (.iand, 1) := by decide +kernel
theorem dJ6_bitCount_0f7a4_33 : decode cJ6_bitCount_0f7a4 33 = .ok (.istore_n 0, 1) := by decide +kernel
theorem dJ6_bitCount_0f7a4_34 : decode cJ6_bitCount_0f7a4 34 = .ok (.iload_n 0, 1) := by decide +kernel
theorem dJ6_bitCount_0f7a4_35 : decode cJ6_bitCount_0f7a4 35 = .ok (.iload_n 0, 1) := by decide +kernel
theorem dJ6_bitCount_0f7a4_36 : decode cJ6_bitCount_0f7a4 36 = .ok (.bipush 8, 2) := by decide +kernel
theorem dJ6_bitCount_0f7a4_38 : decode cJ6_bitCount_0f7a4 38 = .ok (.iushr, 1) := by decide +kernel
theorem dJ6_bitCount_0f7a4_39 : decode cJ6_bitCount_0f7a4 39 = .ok (.iadd, 1) := by decide +kernel
theorem dJ6_bitCount_0f7a4_40 : decode cJ6_bitCount_0f7a4 40 = .ok (.istore_n 0, 1) := by decide +kernel
theorem dJ6_bitCount_0f7a4_41 : decode cJ6_bitCount_0f7a4 41 = .ok (.iload_n 0, 1) := by decide +kernel
theorem dJ6_bitCount_0f7a4_42 : decode cJ6_bitCount_0f7a4 42 = .ok (.iload_n 0, 1) := by decide +kernel
theorem dJ6_bitCount_0f7a4_43 : decode cJ6_bitCount_0f7a4 43 = .ok (.bipush 16, 2) := by decide +kernel
theorem dJ6_bitCount_0f7a4_45 : decode cJ6_bitCount_0f7a4 45 = .ok (.iushr, 1) := by decide +kernel
theorem dJ6_bitCount_0f7a4_46 : decode cJ6_bitCount_0f7a4 46 = .ok (.iadd, 1) := by decide +kernel
theorem dJ6_bitCount_0f7a4_47 : decode cJ6_bitCount_0f7a4 47 = .ok (.istore_n 0, 1) := by decide +kernel
theorem dJ6_bitCount_0f7a4_48 : decode cJ6_bitCount_0f7a4 48 = .ok (.iload_n 0, 1) := by decide +kernel
theorem dJ6_bitCount_0f7a4_49 : decode cJ6_bitCount_0f7a4 49 = .ok (.bipush 63, 2) := by decide +kernel
theorem dJ6_bitCount_0f7a4_51 : decode cJ6_bitCount_0f7a4 51 = .ok (.iand, 1) := by decide +kernel
theorem dJ6_bitCount_0f7a4_52 : decode cJ6_bitCount_0f7a4 52 = .ok (.ireturn, 1) := by decide +kernel
theorem dJ0_length_8abf5_0 : decode cJ0_length_8abf5 0 = .ok (.aload_n 0, 1) := by decide +kernel
theorem dJ0_length_8abf5_1 : decode cJ0_length_8abf5 1 = .ok (.getfield 9, 3) := by decide +kernel
theorem dJ0_length_8abf5_4 : decode cJ0_length_8abf5 4 = .ok (.arraylength, 1) := by decide +kernel
theorem dJ0_length_8abf5_5 : decode cJ0_length_8abf5 5 = .ok (.aload_n 0, 1) := by decide +kernel
theorem dJ0_length_8abf5_6 : decode cJ0_length_8abf5 6 = .ok (.invokevirtual 335, 3) := by decide +kernel
theorem dJ0_length_8abf5_9 : decode cJ0_length_8abf5 9 = .ok (.ishr, 1) := by decide +kernel
theorem dJ0_length_8abf5_10 : decode cJ0_length_8abf5 10 = .ok (.ireturn, 1) := by decide +kernel
theorem dJ0_charAt_5068e_0 : decode cJ0_charAt_5068e 0 = .ok (.aload_n 0, 1) := by decide +kernel
theorem dJ0_charAt_5068e_1 : decode cJ0_charAt_5068e 1 = .ok (.invokevirtual 492, 3) := by decide +kernel
theorem dJ0_charAt_5068e_4 : decode cJ0_charAt_5068e 4 = .ok (.ifCond .eq 12, 3) := by decide +kernel
theorem dJ0_charAt_5068e_7 : decode cJ0_charAt_5068e 7 = .ok (.aload_n 0, 1) := by decide +kernel
theorem dJ0_charAt_5068e_8 : decode cJ0_charAt_5068e 8 = .ok (.getfield 9, 3) := by decide +kernel
theorem dJ0_charAt_5068e_11 : decode cJ0_charAt_5068e 11 = .ok (.iload_n 1, 1) := by decide +kernel
theorem dJ0_charAt_5068e_12 : decode cJ0_charAt_5068e 12 = .ok (.invokestatic 495, 3) := by decide +kernel
theorem dJ0_charAt_5068e_15 : decode cJ0_charAt_5068e 15 = .ok (.ireturn, 1) := by decide +kernel
theorem dJ0_charAt_5068e_16 : decode cJ0_charAt_5068e 16 = .ok (.aload_n 0, 1) := by decide +kernel
theorem dJ0_charAt_5068e_17 : decode cJ0_charAt_5068e 17 = .ok (.getfield 9, 3) := by decide +kernel
theorem dJ0_charAt_5068e_20 : decode cJ0_charAt_5068e 20 = .ok (.iload_n 1, 1) := by decide +kernel
theorem dJ0_charAt_5068e_21 : decode cJ0_charAt_5068e 21 = .ok (.invokestatic 498, 3) := by decide +kernel
theorem dJ0_charAt_5068e_24 : decode cJ0_charAt_5068e 24 = .ok (.ireturn, 1) := by decide +kernel
theorem dJ0_indexOf_0f7a4_0 : decode cJ0_indexOf_0f7a4 0 = .ok (.aload_n 0, 1) := by decide +kernel
theorem dJ0_indexOf_0f7a4_1 : decode cJ0_indexOf_0f7a4 1 = .ok (.iload_n 1, 1) := by decide +kernel
theorem dJ0_indexOf_0f7a4_2 : decode cJ0_indexOf_0f7a4 2 = .ok (.iconst 0, 1) := by decide +kernel
theorem dJ0_indexOf_0f7a4_3 : decode cJ0_indexOf_0f7a4 3 = .ok (.invokevirtual 633, 3) := by decide +kernel
theorem dJ0_indexOf_0f7a4_6 : decode cJ0_indexOf_0f7a4 6 = .ok (.ireturn, 1) := by decide +kernel
theorem dJ0_indexOf_7cf53_0 : decode cJ0_indexOf_7cf53 0 = .ok (.aload_n 0, 1) := by decide +kernel
theorem dJ0_indexOf_7cf53_1 : decode cJ0_indexOf_7cf53 1 = .ok (.invokevirtual 492, 3) := by decide +kernel
theorem dJ0_indexOf_7cf53_4 : decode cJ0_indexOf_7cf53 4 = .ok (.ifCond .eq 19, 3) := by decide +kernel
theorem dJ0_indexOf_7cf53_7 : decode cJ0_indexOf_7cf53 7 = .ok (.aload_n 0, 1) := by decide +kernel
theorem dJ0_indexOf_7cf53_8 : decode cJ0_indexOf_7cf53 8 = .ok (.getfield 9, 3) := by decide +kernel
theorem dJ0_indexOf_7cf53_11 : decode cJ0_indexOf_7cf53 11 = .ok (.iload_n 1, 1) := by decide +kernel
theorem dJ0_indexOf_7cf53_12 : decode cJ0_indexOf_7cf53 12 = .ok (.iload_n 2, 1) := by decide +kernel
theorem dJ0_indexOf_7cf53_13 : decode cJ0_indexOf_7cf53 13 = .ok (.aload_n 0, 1) := by decide +kernel
theorem dJ0_indexOf_7cf53_14 : decode cJ0_indexOf_7cf53 14 = .ok (.invokevirtual 505, 3) := by decide +kernel
theorem dJ0_indexOf_7cf53_17 : decode cJ0_indexOf_7cf53 17 = .ok (.invokestatic 637, 3) := by decide +kernel
theorem dJ0_indexOf_7cf53_20 : decode cJ0_indexOf_7cf53 20 = .ok (.goto 16, 3) := by decide +kernel
theorem dJ0_indexOf_7cf53_23 : decode cJ0_indexOf_7cf53 23 = .ok (.aload_n 0, 1) := by decide +kernel
theorem dJ0_indexOf_7cf53_24 : decode cJ0_indexOf_7cf53 24 = .ok (.getfield 9, 3) := by decide +kernel
theorem dJ0_indexOf_7cf53_27 : decode cJ0_indexOf_7cf53 27 = .ok (.iload_n 1, 1) := by decide +kernel
theorem dJ0_indexOf_7cf53_28 : decode cJ0_indexOf_7cf53 28 = .ok (.iload_n 2, 1) := by decide +kernel
theorem dJ0_indexOf_7cf53_29 : decode cJ0_indexOf_7cf53 29 = .ok (.aload_n 0, 1) := by decide +kernel
theorem dJ0_indexOf_7cf53_30 : decode cJ0_indexOf_7cf53 30 = .ok (.invokevirtual 505, 3) := by decide +kernel
theorem dJ0_indexOf_7cf53_33 : decode cJ0_indexOf_7cf53 33 = .ok (.invokestatic 640, 3) := by decide +kernel
theorem dJ0_indexOf_7cf53_36 : decode cJ0_indexOf_7cf53 36 = .ok (.ireturn, 1) := by decide +kernel
theorem dJ0_coder_7d493_0 : decode cJ0_coder_7d493 0 = .ok (.getstatic 38, 3) := by decide +kernel
theorem dJ0_coder_7d493_3 : decode cJ0_coder_7d493 3 = .ok (.ifCond .eq 10, 3) := by decide +kernel
theorem dJ0_coder_7d493_6 : decode cJ0_coder_7d493 6 = .ok (.aload_n 0, 1) := by decide +kernel
theorem dJ0_coder_7d493_7 : decode cJ0_coder_7d493 7 = .ok (.getfield 15, 3) := by decide +kernel
theorem dJ0_coder_7d493_10 : decode cJ0_coder_7d493 10 = .ok (.goto 4, 3) := by decide +kernel
theorem dJ0_coder_7d493_13 : decode cJ0_coder_7d493 13 = .ok (.iconst 1, 1) := by decide +kernel
theorem dJ0_coder_7d493_14 : decode cJ0_coder_7d493 14 = .ok (.ireturn, 1) := by decide +kernel
theorem dJ0_isLatin1_aae02_0 : decode cJ0_isLatin1_aae02 0 = .ok (.getstatic 38, 3) := by decide +kernel
theorem dJ0_isLatin1_aae02_3 : decode cJ0_isLatin1_aae02 3 = .ok (.ifCond .eq 14, 3) := by decide +kernel
theorem dJ0_isLatin1_aae02_6 : decode cJ0_isLatin1_aae02 6 = .ok (.aload_n 0, 1) := by decide +kernel
theorem dJ0_isLatin1_aae02_7 : decode cJ0_isLatin1_aae02 7 = .ok (.getfield 15, 3) := by decide +kernel
theorem dJ0_isLatin1_aae02_10 : decode cJ0_isLatin1_aae02 10 = .ok (.ifCond .ne 7, 3) := by decide +kernel
theorem dJ0_isLatin1_aae02_13 : decode cJ0_isLatin1_aae02 13 = .ok (.iconst 1, 1) := by decide +kernel
theorem dJ0_isLatin1_aae02_14 : decode cJ0_isLatin1_aae02 14 = .ok (.goto 4, 3) := by decide +kernel
theorem dJ0_isLatin1_aae02_17 : decode cJ0_isLatin1_aae02 17 = .ok (.iconst 0, 1) := by decide +kernel
theorem dJ0_isLatin1_aae02_18 : decode cJ0_isLatin1_aae02 18 = .ok (.ireturn, 1) := by decide +kernel
theorem dJ0_checkIndex_df160_0 : decode cJ0_checkIndex_df160 0 = .ok (.iload_n 0, 1) := by decide +kernel
theorem dJ0_checkIndex_df160_1 : decode cJ0_checkIndex_df160 1 = .ok (.iload_n 1, 1) := by decide +kernel
theorem dJ0_checkIndex_df160_2 : decode cJ0_checkIndex_df160 2 = .ok (.getstatic 1053, 3) := by decide +kernel
theorem dJ0_checkIndex_df160_5 : decode cJ0_checkIndex_df160 5 = .ok (.invokestatic 1059, 3) := by decide +kernel
theorem dJ0_checkIndex_df160_8 : decode cJ0_checkIndex_df160 8 = .ok (.pop, 1) := by decide +kernel
theorem dJ0_checkIndex_df160_9 : decode cJ0_checkIndex_df160 9 = .ok (.return_, 1) := by decide +kernel
theorem dJ1_charAt_3b067_0 : decode cJ1_charAt_3b067 0 = .ok (.iload_n 1, 1) := by decide +kernel
theorem dJ1_charAt_3b067_1 : decode cJ1_charAt_3b067 1 = .ok (.aload_n 0, 1) := by decide +kernel
theorem dJ1_charAt_3b067_2 : decode cJ1_charAt_3b067 2 = .ok (.arraylength, 1) := by decide +kernel
theorem dJ1_charAt_3b067_3 : decode cJ1_charAt_3b067 3 = .ok (.invokestatic 9, 3) := by decide +kernel
theorem dJ1_charAt_3b067_6 : decode cJ1_charAt_3b067 6 = .ok (.aload_n 0, 1) := by decide +kernel
theorem dJ1_charAt_3b067_7 : decode cJ1_charAt_3b067 7 = .ok (.iload_n 1, 1) := by decide +kernel
theorem dJ1_charAt_3b067_8 : decode cJ1_charAt_3b067 8 = .ok (.baload, 1) := by decide +kernel
theorem dJ1_charAt_3b067_9 : decode cJ1_charAt_3b067 9 = .ok (.sipush 255, 3) := by decide +kernel
theorem dJ1_charAt_3b067_12 : decode cJ1_charAt_3b067 12 = .ok (.iand, 1) := by decide +kernel
theorem dJ1_charAt_3b067_13 : decode cJ1_charAt_3b067 13 = .ok (.i2c, 1) := by decide +kernel
theorem dJ1_charAt_3b067_14 : decode cJ1_charAt_3b067 14 = .ok (.ireturn, 1) := by decide +kernel
theorem dJ1_canEncode_9a6ad_0 : decode cJ1_canEncode_9a6ad 0 = .ok (.iload_n 0, 1) := by decide +kernel
theorem dJ1_canEncode_9a6ad_1 : decode cJ1_canEncode_9a6ad 1 = .ok (.ifCond .lt 14, 3) := by decide +kernel
theorem dJ1_canEncode_9a6ad_4 : decode cJ1_canEncode_9a6ad 4 = .ok (.iload_n 0, 1) := by decide +kernel
theorem dJ1_canEncode_9a6ad_5 : decode cJ1_canEncode_9a6ad 5 = .ok (.sipush 255, 3) := by decide +kernel
theorem dJ1_canEncode_9a6ad_8 : decode cJ1_canEncode_9a6ad 8 = .ok (.if_icmp .gt 7, 3) := by decide +kernel
theorem dJ1_canEncode_9a6ad_11 : decode cJ1_canEncode_9a6ad 11 = .ok (.iconst 1, 1) := by decide +kernel
theorem dJ1_canEncode_9a6ad_12 : decode cJ1_canEncode_9a6ad 12 = .ok (.goto 4, 3) := by decide +kernel
theorem dJ1_canEncode_9a6ad_15 : decode cJ1_canEncode_9a6ad 15 = .ok (.iconst 0, 1) := by decide +kernel
theorem dJ1_canEncode_9a6ad_16 : decode cJ1_canEncode_9a6ad 16 = .ok (.ireturn, 1) := by decide +kernel
theorem dJ1_indexOf_4cfef_0 : decode cJ1_indexOf_4cfef 0 = .ok (.iload_n 1, 1) := by decide +kernel
theorem dJ1_indexOf_4cfef_1 : decode cJ1_indexOf_4cfef 1 = .ok (.invokestatic 88, 3) := by decide +kernel
theorem dJ1_indexOf_4cfef_4 : decode cJ1_indexOf_4cfef 4 = .ok (.ifCond .ne 5, 3) := by decide +kernel
theorem dJ1_indexOf_4cfef_7 : decode cJ1_indexOf_4cfef 7 = .ok (.iconst (-1), 1) := by decide +kernel
theorem dJ1_indexOf_4cfef_8 : decode cJ1_indexOf_4cfef 8 = .ok (.ireturn, 1) := by decide +kernel
theorem dJ1_indexOf_4cfef_9 : decode cJ1_indexOf_4cfef 9 = .ok (.iload_n 2, 1) := by decide +kernel
theorem dJ1_indexOf_4cfef_10 : decode cJ1_indexOf_4cfef 10 = .ok (.iconst 0, 1) := by decide +kernel
theorem dJ1_indexOf_4cfef_11 : decode cJ1_indexOf_4cfef 11 = .ok (.invokestatic 92, 3) := by decide +kernel
theorem dJ1_indexOf_4cfef_14 : decode cJ1_indexOf_4cfef 14 = .ok (.istore_n 2, 1) := by decide +kernel
theorem dJ1_indexOf_4cfef_15 : decode cJ1_indexOf_4cfef 15 = .ok (.iload_n 3, 1) := by decide +kernel
theorem dJ1_indexOf_4cfef_16 : decode cJ1_indexOf_4cfef 16 = .ok (.aload_n 0, 1) := by decide +kernel
theorem dJ1_indexOf_4cfef_17 : decode cJ1_indexOf_4cfef 17 = .ok (.arraylength, 1) := by decide +kernel
theorem dJ1_indexOf_4cfef_18 : decode cJ1_indexOf_4cfef 18 = .ok (.invokestatic 38, 3) := by decide +kernel
theorem dJ1_indexOf_4cfef_21 : decode cJ1_indexOf_4cfef 21 = .ok (.istore_n 3, 1) := by decide +kernel
theorem dJ1_indexOf_4cfef_22 : decode cJ1_indexOf_4cfef 22 = .ok (.iload_n 2, 1) := by decide +kernel
theorem dJ1_indexOf_4cfef_23 : decode cJ1_indexOf_4cfef 23 = .ok (.iload_n 3, 1) := by decide +kernel
theorem dJ1_indexOf_4cfef_24 : decode cJ1_indexOf_4cfef 24 = .ok (.if_icmp .lt 5, 3) := by decide +kernel
theorem dJ1_indexOf_4cfef_27 : decode cJ1_indexOf_4cfef 27 = .ok (.iconst (-1), 1) := by decide +kernel
theorem dJ1_indexOf_4cfef_28 : decode cJ1_indexOf_4cfef 28 = .ok (.ireturn, 1) := by decide +kernel
theorem dJ1_indexOf_4cfef_29 : decode cJ1_indexOf_4cfef 29 = .ok (.aload_n 0, 1) := by decide +kernel
theorem dJ1_indexOf_4cfef_30 : decode cJ1_indexOf_4cfef 30 = .ok (.iload_n 1, 1) := by decide +kernel
theorem dJ1_indexOf_4cfef_31 : decode cJ1_indexOf_4cfef 31 = .ok (.iload_n 2, 1) := by decide +kernel
theorem dJ1_indexOf_4cfef_32 : decode cJ1_indexOf_4cfef 32 = .ok (.iload_n 3, 1) := by decide +kernel
theorem dJ1_indexOf_4cfef_33 : decode cJ1_indexOf_4cfef 33 = .ok (.invokestatic 95, 3) := by decide +kernel
theorem dJ1_indexOf_4cfef_36 : decode cJ1_indexOf_4cfef 36 = .ok (.ireturn, 1) := by decide +kernel
theorem dJ1_indexOfChar_4cfef_0 : decode cJ1_indexOfChar_4cfef 0 = .ok (.iload_n 1, 1) := by decide +kernel
theorem dJ1_indexOfChar_4cfef_1 : decode cJ1_indexOfChar_4cfef 1 = .ok (.i2b, 1) := by decide +kernel
theorem dJ1_indexOfChar_4cfef_2 : decode cJ1_indexOfChar_4cfef 2 = .ok (.istore 4, 2) := by decide +kernel
theorem dJ1_indexOfChar_4cfef_4 : decode cJ1_indexOfChar_4cfef 4 = .ok (.iload_n 2, 1) := by decide +kernel
theorem dJ1_indexOfChar_4cfef_5 : decode cJ1_indexOfChar_4cfef 5 = .ok (.istore 5, 2) := by decide +kernel
theorem dJ1_indexOfChar_4cfef_7 : decode cJ1_indexOfChar_4cfef 7 = .ok (.iload 5, 2) := by decide +kernel
theorem dJ1_indexOfChar_4cfef_9 : decode cJ1_indexOfChar_4cfef 9 = .ok (.iload_n 3, 1) := by decide +kernel
theorem dJ1_indexOfChar_4cfef_10 : decode cJ1_indexOfChar_4cfef 10 = .ok (.if_icmp .ge 21, 3) := by decide +kernel
theorem dJ1_indexOfChar_4cfef_13 : decode cJ1_indexOfChar_4cfef 13 = .ok (.aload_n 0, 1) := by decide +kernel
theorem dJ1_indexOfChar_4cfef_14 : decode cJ1_indexOfChar_4cfef 14 = .ok (.iload 5, 2) := by decide +kernel
theorem dJ1_indexOfChar_4cfef_16 : decode cJ1_indexOfChar_4cfef 16 = .ok (.baload, 1) := by decide +kernel
theorem dJ1_indexOfChar_4cfef_17 : decode cJ1_indexOfChar_4cfef 17 = .ok (.iload 4, 2) := by decide +kernel
theorem dJ1_indexOfChar_4cfef_19 : decode cJ1_indexOfChar_4cfef 19 = .ok (.if_icmp .ne 6, 3) := by decide +kernel
theorem dJ1_indexOfChar_4cfef_22 : decode cJ1_indexOfChar_4cfef 22 = .ok (.iload 5, 2) := by decide +kernel
theorem dJ1_indexOfChar_4cfef_24 : decode cJ1_indexOfChar_4cfef 24 = .ok (.ireturn, 1) := by decide +kernel
theorem dJ1_indexOfChar_4cfef_25 : decode cJ1_indexOfChar_4cfef 25 = .ok (.iinc 5 1, 3) := by decide +kernel
theorem dJ1_indexOfChar_4cfef_28 : decode cJ1_indexOfChar_4cfef 28 = .ok (.goto (-21), 3) := by decide +kernel
theorem dJ1_indexOfChar_4cfef_31 : decode cJ1_indexOfChar_4cfef 31 = .ok (.iconst (-1), 1) := by decide +kernel
theorem dJ1_indexOfChar_4cfef_32 : decode cJ1_indexOfChar_4cfef 32 = .ok (.ireturn, 1) := by decide +kernel
theorem dJ2_length_9d52b_0 : decode cJ2_length_9d52b 0 = .ok (.aload_n 0, 1) := by decide +kernel
theorem dJ2_length_9d52b_1 : decode cJ2_length_9d52b 1 = .ok (.arraylength, 1) := by decide +kernel
theorem dJ2_length_9d52b_2 : decode cJ2_length_9d52b 2 = .ok (.iconst 1, 1) := by decide +kernel
theorem dJ2_length_9d52b_3 : decode cJ2_length_9d52b 3 = .ok (.ishr, 1) := by decide +kernel
theorem dJ2_length_9d52b_4 : decode cJ2_length_9d52b 4 = .ok (.ireturn, 1) := by decide +kernel
theorem dJ2_indexOf_4cfef_0 : decode cJ2_indexOf_4cfef 0 = .ok (.iload_n 2, 1) := by decide +kernel
theorem dJ2_indexOf_4cfef_1 : decode cJ2_indexOf_4cfef 1 = .ok (.iconst 0, 1) := by decide +kernel
theorem dJ2_indexOf_4cfef_2 : decode cJ2_indexOf_4cfef 2 = .ok (.invokestatic 224, 3) := by decide +kernel
theorem dJ2_indexOf_4cfef_5 : decode cJ2_indexOf_4cfef 5 = .ok (.istore_n 2, 1) := by decide +kernel
theorem dJ2_indexOf_4cfef_6 : decode cJ2_indexOf_4cfef 6 = .ok (.iload_n 3, 1) := by decide +kernel
theorem dJ2_indexOf_4cfef_7 : decode cJ2_indexOf_4cfef 7 = .ok (.aload_n 0, 1) := by decide +kernel
theorem dJ2_indexOf_4cfef_8 : decode cJ2_indexOf_4cfef 8 = .ok (.arraylength, 1) := by decide +kernel
theorem dJ2_indexOf_4cfef_9 : decode cJ2_indexOf_4cfef 9 = .ok (.iconst 1, 1) := by decide +kernel
theorem dJ2_indexOf_4cfef_10 : decode cJ2_indexOf_4cfef 10 = .ok (.ishr, 1) := by decide +kernel
theorem dJ2_indexOf_4cfef_11 : decode cJ2_indexOf_4cfef 11 = .ok (.invokestatic 183, 3) := by decide +kernel
theorem dJ2_indexOf_4cfef_14 : decode cJ2_indexOf_4cfef 14 = .ok (.istore_n 3, 1) := by decide +kernel
theorem dJ2_indexOf_4cfef_15 : decode cJ2_indexOf_4cfef 15 = .ok (.iload_n 2, 1) := by decide +kernel
theorem dJ2_indexOf_4cfef_16 : decode cJ2_indexOf_4cfef 16 = .ok (.iload_n 3, 1) := by decide +kernel
theorem dJ2_indexOf_4cfef_17 : decode cJ2_indexOf_4cfef 17 = .ok (.if_icmp .lt 5, 3) := by decide +kernel
theorem dJ2_indexOf_4cfef_20 : decode cJ2_indexOf_4cfef 20 = .ok (.iconst (-1), 1) := by decide +kernel
theorem dJ2_indexOf_4cfef_21 : decode cJ2_indexOf_4cfef 21 = .ok (.ireturn, 1) := by decide +kernel
theorem dJ2_indexOf_4cfef_22 : decode cJ2_indexOf_4cfef 22 = .ok (.iload_n 1, 1) := by decide +kernel
theorem dJ2_indexOf_4cfef_23 : decode cJ2_indexOf_4cfef 23 = .ok (.ldc 227, 2) := by decide +kernel
theorem dJ2_indexOf_4cfef_25 : decode cJ2_indexOf_4cfef 25 = .ok (.if_icmp .ge 11, 3) := by decide +kernel
theorem dJ2_indexOf_4cfef_28 : decode cJ2_indexOf_4cfef 28 = .ok (.aload_n 0, 1) := by decide +kernel
theorem dJ2_indexOf_4cfef_29 : decode cJ2_indexOf_4cfef 29 = .ok (.iload_n 1, 1) := by decide +kernel
theorem dJ2_indexOf_4cfef_30 : decode cJ2_indexOf_4cfef 30 = .ok (.iload_n 2, 1) := by decide +kernel
theorem dJ2_indexOf_4cfef_31 : decode cJ2_indexOf_4cfef 31 = .ok (.iload_n 3, 1) := by decide +kernel
theorem dJ2_indexOf_4cfef_32 : decode cJ2_indexOf_4cfef 32 = .ok (.invokestatic 228, 3) := by decide +kernel
theorem dJ2_indexOf_4cfef_35 : decode cJ2_indexOf_4cfef 35 = .ok (.ireturn, 1) := by decide +kernel
theorem dJ2_indexOf_4cfef_36 : decode cJ2_indexOf_4cfef 36 = .ok (.aload_n 0, 1) := by decide +kernel
theorem dJ2_indexOf_4cfef_37 : decode cJ2_indexOf_4cfef 37 = .ok (.iload_n 1, 1) := by decide +kernel
theorem dJ2_indexOf_4cfef_38 : decode cJ2_indexOf_4cfef 38 = .ok (.iload_n 2, 1) := by decide +kernel
theorem dJ2_indexOf_4cfef_39 : decode cJ2_indexOf_4cfef 39 = .ok (.iload_n 3, 1) := by decide +kernel
theorem dJ2_indexOf_4cfef_40 : decode cJ2_indexOf_4cfef 40 = .ok (.invokestatic 232, 3) := by decide +kernel
theorem dJ2_indexOf_4cfef_43 : decode cJ2_indexOf_4cfef 43 = .ok (.ireturn, 1) := by decide +kernel
theorem dJ2_indexOfChar_4cfef_0 : decode cJ2_indexOfChar_4cfef 0 = .ok (.iload_n 2, 1) := by decide +kernel
theorem dJ2_indexOfChar_4cfef_1 : decode cJ2_indexOfChar_4cfef 1 = .ok (.iload_n 3, 1) := by decide +kernel
theorem dJ2_indexOfChar_4cfef_2 : decode cJ2_indexOfChar_4cfef 2 = .ok (.aload_n 0, 1) := by decide +kernel
theorem dJ2_indexOfChar_4cfef_3 : decode cJ2_indexOfChar_4cfef 3 = .ok (.invokestatic 96, 3) := by decide +kernel
theorem dJ2_indexOfChar_4cfef_6 : decode cJ2_indexOfChar_4cfef 6 = .ok (.aload_n 0, 1) := by decide +kernel
theorem dJ2_indexOfChar_4cfef_7 : decode cJ2_indexOfChar_4cfef 7 = .ok (.iload_n 1, 1) := by decide +kernel
theorem dJ2_indexOfChar_4cfef_8 : decode cJ2_indexOfChar_4cfef 8 = .ok (.iload_n 2, 1) := by decide +kernel
theorem dJ2_indexOfChar_4cfef_9 : decode cJ2_indexOfChar_4cfef 9 = .ok (.iload_n 3, 1) := by decide +kernel
theorem dJ2_indexOfChar_4cfef_10 : decode cJ2_indexOfChar_4cfef 10 = .ok (.invokestatic 244, 3) := by decide +kernel
theorem dJ2_indexOfChar_4cfef_13 : decode cJ2_indexOfChar_4cfef 13 = .ok (.ireturn, 1) := by decide +kernel
theorem dJ2_charAt_3b067_0 : decode cJ2_charAt_3b067 0 = .ok (.iload_n 1, 1) := by decide +kernel
theorem dJ2_charAt_3b067_1 : decode cJ2_charAt_3b067 1 = .ok (.aload_n 0, 1) := by decide +kernel
theorem dJ2_charAt_3b067_2 : decode cJ2_charAt_3b067 2 = .ok (.invokestatic 67, 3) := by decide +kernel
theorem dJ2_charAt_3b067_5 : decode cJ2_charAt_3b067 5 = .ok (.aload_n 0, 1) := by decide +kernel
theorem dJ2_charAt_3b067_6 : decode cJ2_charAt_3b067 6 = .ok (.iload_n 1, 1) := by decide +kernel
theorem dJ2_charAt_3b067_7 : decode cJ2_charAt_3b067 7 = .ok (.invokestatic 71, 3) := by decide +kernel
theorem dJ2_charAt_3b067_10 : decode cJ2_charAt_3b067 10 = .ok (.ireturn, 1) := by decide +kernel
theorem dJ2_checkIndex_2214a_0 : decode cJ2_checkIndex_2214a 0 = .ok (.iload_n 0, 1) := by decide +kernel
theorem dJ2_checkIndex_2214a_1 : decode cJ2_checkIndex_2214a 1 = .ok (.aload_n 1, 1) := by decide +kernel
theorem dJ2_checkIndex_2214a_2 : decode cJ2_checkIndex_2214a 2 = .ok (.invokestatic 48, 3) := by decide +kernel
theorem dJ2_checkIndex_2214a_5 : decode cJ2_checkIndex_2214a 5 = .ok (.invokestatic 414, 3) := by decide +kernel
theorem dJ2_checkIndex_2214a_8 : decode cJ2_checkIndex_2214a 8 = .ok (.return_, 1) := by decide +kernel
theorem dJ7_fill_53178_0 : decode cJ7_fill_53178 0 = .ok (.iconst 0, 1) := by decide +kernel
theorem dJ7_fill_53178_1 : decode cJ7_fill_53178 1 = .ok (.istore_n 2, 1) := by decide +kernel
theorem dJ7_fill_53178_2 : decode cJ7_fill_53178 2 = .ok (.aload_n 0, 1) := by decide +kernel
theorem dJ7_fill_53178_3 : decode cJ7_fill_53178 3 = .ok (.arraylength, 1) := by decide +kernel
theorem dJ7_fill_53178_4 : decode cJ7_fill_53178 4 = .ok (.istore_n 3, 1) := by decide +kernel
theorem dJ7_fill_53178_5 : decode cJ7_fill_53178 5 = .ok (.iload_n 2, 1) := by decide +kernel
theorem dJ7_fill_53178_6 : decode cJ7_fill_53178 6 = .ok (.iload_n 3, 1) := by decide +kernel
theorem dJ7_fill_53178_7 : decode cJ7_fill_53178 7 = .ok (.if_icmp .ge 13, 3) := by decide +kernel
theorem dJ7_fill_53178_10 : decode cJ7_fill_53178 10 = .ok (.aload_n 0, 1) := by decide +kernel
theorem dJ7_fill_53178_11 : decode cJ7_fill_53178 11 = .ok (.iload_n 2, 1) := by decide +kernel
theorem dJ7_fill_53178_12 : decode cJ7_fill_53178 12 = .ok (.iload_n 1, 1) := by decide +kernel
theorem dJ7_fill_53178_13 : decode cJ7_fill_53178 13 = .ok (.iastore, 1) := by decide +kernel
theorem dJ7_fill_53178_14 : decode cJ7_fill_53178 14 = .ok (.iinc 2 1, 3) := by decide +kernel
theorem dJ7_fill_53178_17 : decode cJ7_fill_53178 17 = .ok (.goto (-12), 3) := by decide +kernel
theorem dJ7_fill_53178_20 : decode cJ7_fill_53178 20 = .ok (.return_, 1) := by decide +kernel
theorem dJ3_checkIndex_8e157_0 : decode cJ3_checkIndex_8e157 0 = .ok (.iload_n 0, 1) := by decide +kernel
theorem dJ3_checkIndex_8e157_1 : decode cJ3_checkIndex_8e157 1 = .ok (.ifCond .lt 8, 3) := by decide +kernel
theorem dJ3_checkIndex_8e157_4 : decode cJ3_checkIndex_8e157 4 = .ok (.iload_n 0, 1) := by decide +kernel
theorem dJ3_checkIndex_8e157_5 : decode cJ3_checkIndex_8e157 5 = .ok (.iload_n 1, 1) := by decide +kernel
theorem dJ3_checkIndex_8e157_6 : decode cJ3_checkIndex_8e157 6 = .ok (.if_icmp .lt 10, 3) := by decide +kernel
theorem dJ3_checkIndex_8e157_9 : decode cJ3_checkIndex_8e157 9 = .ok (.aload_n 2, 1) := by decide +kernel
theorem dJ3_checkIndex_8e157_10 : decode cJ3_checkIndex_8e157 10 = .ok (.iload_n 0, 1) := by decide +kernel
theorem dJ3_checkIndex_8e157_11 : decode cJ3_checkIndex_8e157 11 = .ok (.iload_n 1, 1) := by decide +kernel
theorem dJ3_checkIndex_8e157_12 : decode cJ3_checkIndex_8e157 12 = .ok (.invokestatic 95, 3) := by decide +kernel
theorem dJ3_checkIndex_8e157_15 : decode cJ3_checkIndex_8e157 15 = .ok (.athrow, 1) := by decide +kernel
theorem dJ3_checkIndex_8e157_16 : decode cJ3_checkIndex_8e157 16 = .ok (.iload_n 0, 1) := by decide +kernel
theorem dJ3_checkIndex_8e157_17 : decode cJ3_checkIndex_8e157 17 = .ok (.ireturn, 1) := by decide +kernel
theorem dJ3_checkFromToIndex_8c36e_0 : decode cJ3_checkFromToIndex_8c36e 0 = .ok (.iload_n 0, 1) := by decide +kernel
