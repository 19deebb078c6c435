theorem dX9_lays_69 : decode cX9_lays 69 = .ok (.invokevirtual 110, 3) := by decide +kernel
theorem dX9_lays_72 : decode cX9_lays 72 = .ok (.aload_n 0, 1) := by decide +kernel
theorem dX9_lays_73 : decode cX9_lays 73 = .ok (.dup, 1) := by decide +kernel
theorem dX9_lays_74 : decode cX9_lays 74 = .ok (.getfield 104, 3) := by decide +kernel
theorem dX9_lays_77 : decode cX9_lays 77 = .ok (.iconst 1, 1) := by decide +kernel
theorem dX9_lays_78 : decode cX9_lays 78 = .ok (.iadd, 1) := by decide +kernel
theorem dX9_lays_79 : decode cX9_lays 79 = .ok (.putfield 104, 3) := by decide +kernel
theorem dX9_lays_82 : decode cX9_lays 82 = .ok (.goto (-39), 3) := by decide +kernel
theorem dX9_lays_85 : decode cX9_lays 85 = .ok (.aload_n 0, 1) := by decide +kernel
theorem dX9_lays_86 : decode cX9_lays 86 = .ok (.getfield 39, 3) := by decide +kernel
theorem dX9_lays_89 : decode cX9_lays 89 = .ok (.iconst 0, 1) := by decide +kernel
theorem dX9_lays_90 : decode cX9_lays 90 = .ok (.iaload, 1) := by decide +kernel
theorem dX9_lays_91 : decode cX9_lays 91 = .ok (.ireturn, 1) := by decide +kernel
theorem dX9_layText_0 : decode cX9_layText 0 = .ok (.aload_n 0, 1) := by decide +kernel
theorem dX9_layText_1 : decode cX9_layText 1 = .ok (.iload_n 1, 1) := by decide +kernel
theorem dX9_layText_2 : decode cX9_layText 2 = .ok (.bipush 9, 2) := by decide +kernel
theorem dX9_layText_4 : decode cX9_layText 4 = .ok (.iadd, 1) := by decide +kernel
theorem dX9_layText_5 : decode cX9_layText 5 = .ok (.sipush 600, 3) := by decide +kernel
theorem dX9_layText_8 : decode cX9_layText 8 = .ok (.iload_n 2, 1) := by decide +kernel
theorem dX9_layText_9 : decode cX9_layText 9 = .ok (.imul, 1) := by decide +kernel
theorem dX9_layText_10 : decode cX9_layText 10 = .ok (.iadd, 1) := by decide +kernel
theorem dX9_layText_11 : decode cX9_layText 11 = .ok (.aload_n 0, 1) := by decide +kernel
theorem dX9_layText_12 : decode cX9_layText 12 = .ok (.getfield 8, 3) := by decide +kernel
theorem dX9_layText_15 : decode cX9_layText 15 = .ok (.iload_n 1, 1) := by decide +kernel
theorem dX9_layText_16 : decode cX9_layText 16 = .ok (.iconst 1, 1) := by decide +kernel
theorem dX9_layText_17 : decode cX9_layText 17 = .ok (.iadd, 1) := by decide +kernel
theorem dX9_layText_18 : decode cX9_layText 18 = .ok (.iload_n 2, 1) := by decide +kernel
theorem dX9_layText_19 : decode cX9_layText 19 = .ok (.iadd, 1) := by decide +kernel
theorem dX9_layText_20 : decode cX9_layText 20 = .ok (.iaload, 1) := by decide +kernel
theorem dX9_layText_21 : decode cX9_layText 21 = .ok (.invokevirtual 114, 3) := by decide +kernel
theorem dX9_layText_24 : decode cX9_layText 24 = .ok (.ireturn, 1) := by decide +kernel
theorem dX9_layAll_0 : decode cX9_layAll 0 = .ok (.iconst 0, 1) := by decide +kernel
theorem dX9_layAll_1 : decode cX9_layAll 1 = .ok (.istore_n 2, 1) := by decide +kernel
theorem dX9_layAll_2 : decode cX9_layAll 2 = .ok (.iload_n 2, 1) := by decide +kernel
theorem dX9_layAll_3 : decode cX9_layAll 3 = .ok (.aload_n 0, 1) := by decide +kernel
theorem dX9_layAll_4 : decode cX9_layAll 4 = .ok (.getfield 8, 3) := by decide +kernel
theorem dX9_layAll_7 : decode cX9_layAll 7 = .ok (.iload_n 1, 1) := by decide +kernel
theorem dX9_layAll_8 : decode cX9_layAll 8 = .ok (.iconst 0, 1) := by decide +kernel
theorem dX9_layAll_9 : decode cX9_layAll 9 = .ok (.iadd, 1) := by decide +kernel
theorem dX9_layAll_10 : decode cX9_layAll 10 = .ok (.iaload, 1) := by decide +kernel
theorem dX9_layAll_11 : decode cX9_layAll 11 = .ok (.if_icmp .ge 16, 3) := by decide +kernel
theorem dX9_layAll_14 : decode cX9_layAll 14 = .ok (.aload_n 0, 1) := by decide +kernel
theorem dX9_layAll_15 : decode cX9_layAll 15 = .ok (.iload_n 1, 1) := by decide +kernel
theorem dX9_layAll_16 : decode cX9_layAll 16 = .ok (.iload_n 2, 1) := by decide +kernel
theorem dX9_layAll_17 : decode cX9_layAll 17 = .ok (.invokevirtual 117, 3) := by decide +kernel
theorem dX9_layAll_20 : decode cX9_layAll 20 = .ok (.pop, 1) := by decide +kernel
theorem dX9_layAll_21 : decode cX9_layAll 21 = .ok (.iinc 2 1, 3) := by decide +kernel
theorem dX9_layAll_24 : decode cX9_layAll 24 = .ok (.goto (-22), 3) := by decide +kernel
theorem dX9_layAll_27 : decode cX9_layAll 27 = .ok (.aload_n 0, 1) := by decide +kernel
theorem dX9_layAll_28 : decode cX9_layAll 28 = .ok (.getfield 84, 3) := by decide +kernel
theorem dX9_layAll_31 : decode cX9_layAll 31 = .ok (.ireturn, 1) := by decide +kernel
theorem dX9_numbers_0 : decode cX9_numbers 0 = .ok (.iconst 0, 1) := by decide +kernel
theorem dX9_numbers_1 : decode cX9_numbers 1 = .ok (.istore_n 2, 1) := by decide +kernel
theorem dX9_numbers_2 : decode cX9_numbers 2 = .ok (.iload_n 2, 1) := by decide +kernel
theorem dX9_numbers_3 : decode cX9_numbers 3 = .ok (.aload_n 0, 1) := by decide +kernel
theorem dX9_numbers_4 : decode cX9_numbers 4 = .ok (.getfield 84, 3) := by decide +kernel
theorem dX9_numbers_7 : decode cX9_numbers 7 = .ok (.if_icmp .ge 23, 3) := by decide +kernel
theorem dX9_numbers_10 : decode cX9_numbers 10 = .ok (.aload_n 0, 1) := by decide +kernel
theorem dX9_numbers_11 : decode cX9_numbers 11 = .ok (.getfield 45, 3) := by decide +kernel
theorem dX9_numbers_14 : decode cX9_numbers 14 = .ok (.iload_n 2, 1) := by decide +kernel
theorem dX9_numbers_15 : decode cX9_numbers 15 = .ok (.iconst (-1), 1) := by decide +kernel
theorem dX9_numbers_16 : decode cX9_numbers 16 = .ok (.iastore, 1) := by decide +kernel
theorem dX9_numbers_17 : decode cX9_numbers 17 = .ok (.aload_n 0, 1) := by decide +kernel
theorem dX9_numbers_18 : decode cX9_numbers 18 = .ok (.getfield 51, 3) := by decide +kernel
theorem dX9_numbers_21 : decode cX9_numbers 21 = .ok (.iload_n 2, 1) := by decide +kernel
theorem dX9_numbers_22 : decode cX9_numbers 22 = .ok (.iconst 0, 1) := by decide +kernel
theorem dX9_numbers_23 : decode cX9_numbers 23 = .ok (.iastore, 1) := by decide +kernel
theorem dX9_numbers_24 : decode cX9_numbers 24 = .ok (.iinc 2 1, 3) := by decide +kernel
theorem dX9_numbers_27 : decode cX9_numbers 27 = .ok (.goto (-25), 3) := by decide +kernel
theorem dX9_numbers_30 : decode cX9_numbers 30 = .ok (.aload_n 0, 1) := by decide +kernel
theorem dX9_numbers_31 : decode cX9_numbers 31 = .ok (.iconst 0, 1) := by decide +kernel
theorem dX9_numbers_32 : decode cX9_numbers 32 = .ok (.putfield 120, 3) := by decide +kernel
theorem dX9_numbers_35 : decode cX9_numbers 35 = .ok (.iconst 1, 1) := by decide +kernel
theorem dX9_numbers_36 : decode cX9_numbers 36 = .ok (.istore_n 2, 1) := by decide +kernel
theorem dX9_numbers_37 : decode cX9_numbers 37 = .ok (.aload_n 0, 1) := by decide +kernel
theorem dX9_numbers_38 : decode cX9_numbers 38 = .ok (.getfield 54, 3) := by decide +kernel
theorem dX9_numbers_41 : decode cX9_numbers 41 = .ok (.iconst 0, 1) := by decide +kernel
theorem dX9_numbers_42 : decode cX9_numbers 42 = .ok (.iload_n 1, 1) := by decide +kernel
theorem dX9_numbers_43 : decode cX9_numbers 43 = .ok (.iastore, 1) := by decide +kernel
theorem dX9_numbers_44 : decode cX9_numbers 44 = .ok (.aload_n 0, 1) := by decide +kernel
theorem dX9_numbers_45 : decode cX9_numbers 45 = .ok (.getfield 57, 3) := by decide +kernel
theorem dX9_numbers_48 : decode cX9_numbers 48 = .ok (.iconst 0, 1) := by decide +kernel
theorem dX9_numbers_49 : decode cX9_numbers 49 = .ok (.iconst 0, 1) := by decide +kernel
theorem dX9_numbers_50 : decode cX9_numbers 50 = .ok (.iastore, 1) := by decide +kernel
theorem dX9_numbers_51 : decode cX9_numbers 51 = .ok (.iload_n 2, 1) := by decide +kernel
theorem dX9_numbers_52 : decode cX9_numbers 52 = .ok (.ifCond .le 155, 3) := by decide +kernel
theorem dX9_numbers_55 : decode cX9_numbers 55 = .ok (.iinc 2 (-1), 3) := by decide +kernel
theorem dX9_numbers_58 : decode cX9_numbers 58 = .ok (.aload_n 0, 1) := by decide +kernel
theorem dX9_numbers_59 : decode cX9_numbers 59 = .ok (.getfield 54, 3) := by decide +kernel
theorem dX9_numbers_62 : decode cX9_numbers 62 = .ok (.iload_n 2, 1) := by decide +kernel
theorem dX9_numbers_63 : decode cX9_numbers 63 = .ok (.iaload, 1) := by decide +kernel
theorem dX9_numbers_64 : decode cX9_numbers 64 = .ok (.istore_n 3, 1) := by decide +kernel
theorem dX9_numbers_65 : decode cX9_numbers 65 = .ok (.aload_n 0, 1) := by decide +kernel
theorem dX9_numbers_66 : decode cX9_numbers 66 = .ok (.getfield 57, 3) := by decide +kernel
theorem dX9_numbers_69 : decode cX9_numbers 69 = .ok (.iload_n 2, 1) := by decide +kernel
theorem dX9_numbers_70 : decode cX9_numbers 70 = .ok (.iaload, 1) := by decide +kernel
theorem dX9_numbers_71 : decode cX9_numbers 71 = .ok (.istore 4, 2) := by decide +kernel
theorem dX9_numbers_73 : decode cX9_numbers 73 = .ok (.aload_n 0, 1) := by decide +kernel
theorem dX9_numbers_74 : decode cX9_numbers 74 = .ok (.getfield 45, 3) := by decide +kernel
theorem dX9_numbers_77 : decode cX9_numbers 77 = .ok (.iload_n 3, 1) := by decide +kernel
theorem dX9_numbers_78 : decode cX9_numbers 78 = .ok (.iaload, 1) := by decide +kernel
theorem dX9_numbers_79 : decode cX9_numbers 79 = .ok (.iconst (-1), 1) := by decide +kernel
theorem dX9_numbers_80 : decode cX9_numbers 80 = .ok (.if_icmp .eq 6, 3) := by decide +kernel
theorem dX9_numbers_83 : decode cX9_numbers 83 = .ok (.goto (-32), 3) := by decide +kernel
theorem dX9_numbers_86 : decode cX9_numbers 86 = .ok (.aload_n 0, 1) := by decide +kernel
theorem dX9_numbers_87 : decode cX9_numbers 87 = .ok (.getfield 45, 3) := by decide +kernel
theorem dX9_numbers_90 : decode cX9_numbers 90 = .ok (.iload_n 3, 1) := by decide +kernel
theorem dX9_numbers_91 : decode cX9_numbers 91 = .ok (.aload_n 0, 1) := by decide +kernel
theorem dX9_numbers_92 : decode cX9_numbers 92 = .ok (.getfield 120, 3) := by decide +kernel
theorem dX9_numbers_95 : decode cX9_numbers 95 = .ok (.iastore, 1) := by decide +kernel
theorem dX9_numbers_96 : decode cX9_numbers 96 = .ok (.aload_n 0, 1) := by decide +kernel
theorem dX9_numbers_97 : decode cX9_numbers 97 = .ok (.getfield 48, 3) := by decide +kernel
theorem dX9_numbers_100 : decode cX9_numbers 100 = .ok (.iload_n 3, 1) := by decide +kernel
theorem dX9_numbers_101 : decode cX9_numbers 101 = .ok (.iload 4, 2) := by decide +kernel
theorem dX9_numbers_103 : decode cX9_numbers 103 = .ok (.iastore, 1) := by decide +kernel
theorem dX9_numbers_104 : decode cX9_numbers 104 = .ok (.aload_n 0, 1) := by decide +kernel
theorem dX9_numbers_105 : decode cX9_numbers 105 = .ok (.getfield 42, 3) := by decide +kernel
theorem dX9_numbers_108 : decode cX9_numbers 108 = .ok (.aload_n 0, 1) := by decide +kernel
theorem dX9_numbers_109 : decode cX9_numbers 109 = .ok (.getfield 120, 3) := by decide +kernel
theorem dX9_numbers_112 : decode cX9_numbers 112 = .ok (.iload_n 3, 1) := by decide +kernel
theorem dX9_numbers_113 : decode cX9_numbers 113 = .ok (.iastore, 1) := by decide +kernel
theorem dX9_numbers_114 : decode cX9_numbers 114 = .ok (.aload_n 0, 1) := by decide +kernel
theorem dX9_numbers_115 : decode cX9_numbers 115 = .ok (.dup, 1) := by decide +kernel
theorem dX9_numbers_116 : decode cX9_numbers 116 = .ok (.getfield 120, 3) := by decide +kernel
theorem dX9_numbers_119 : decode cX9_numbers 119 = .ok (.iconst 1, 1) := by decide +kernel
theorem dX9_numbers_120 : decode cX9_numbers 120 = .ok (.iadd, 1) := by decide +kernel
theorem dX9_numbers_121 : decode cX9_numbers 121 = .ok (.putfield 120, 3) := by decide +kernel
theorem dX9_numbers_124 : decode cX9_numbers 124 = .ok (.aload_n 0, 1) := by decide +kernel
theorem dX9_numbers_125 : decode cX9_numbers 125 = .ok (.getfield 17, 3) := by decide +kernel
theorem dX9_numbers_128 : decode cX9_numbers 128 = .ok (.iload_n 3, 1) := by decide +kernel
theorem dX9_numbers_129 : decode cX9_numbers 129 = .ok (.iaload, 1) := by decide +kernel
theorem dX9_numbers_130 : decode cX9_numbers 130 = .ok (.ifCond .ne 6, 3) := by decide +kernel
theorem dX9_numbers_133 : decode cX9_numbers 133 = .ok (.goto (-82), 3) := by decide +kernel
theorem dX9_numbers_136 : decode cX9_numbers 136 = .ok (.aload_n 0, 1) := by decide +kernel
theorem dX9_numbers_137 : decode cX9_numbers 137 = .ok (.getfield 17, 3) := by decide +kernel
theorem dX9_numbers_140 : decode cX9_numbers 140 = .ok (.iload_n 3, 1) := by decide +kernel
theorem dX9_numbers_141 : decode cX9_numbers 141 = .ok (.iaload, 1) := by decide +kernel
theorem dX9_numbers_142 : decode cX9_numbers 142 = .ok (.iconst 1, 1) := by decide +kernel
theorem dX9_numbers_143 : decode cX9_numbers 143 = .ok (.if_icmp .ne 38, 3) := by decide +kernel
theorem dX9_numbers_146 : decode cX9_numbers 146 = .ok (.aload_n 0, 1) := by decide +kernel
theorem dX9_numbers_147 : decode cX9_numbers 147 = .ok (.getfield 54, 3) := by decide +kernel
theorem dX9_numbers_150 : decode cX9_numbers 150 = .ok (.iload_n 2, 1) := by decide +kernel
theorem dX9_numbers_151 : decode cX9_numbers 151 = .ok (.aload_n 0, 1) := by decide +kernel
theorem dX9_numbers_152 : decode cX9_numbers 152 = .ok (.getfield 23, 3) := by decide +kernel
theorem dX9_numbers_155 : decode cX9_numbers 155 = .ok (.iload_n 3, 1) := by decide +kernel
theorem dX9_numbers_156 : decode cX9_numbers 156 = .ok (.iaload, 1) := by decide +kernel
theorem dX9_numbers_157 : decode cX9_numbers 157 = .ok (.iastore, 1) := by decide +kernel
theorem dX9_numbers_158 : decode cX9_numbers 158 = .ok (.aload_n 0, 1) := by decide +kernel
theorem dX9_numbers_159 : decode cX9_numbers 159 = .ok (.getfield 57, 3) := by decide +kernel
theorem dX9_numbers_162 : decode cX9_numbers 162 = .ok (.iload_n 2, 1) := by decide +kernel
theorem dX9_numbers_163 : decode cX9_numbers 163 = .ok (.iload 4, 2) := by decide +kernel
theorem dX9_numbers_165 : decode cX9_numbers 165 = .ok (.aload_n 0, 1) := by decide +kernel
theorem dX9_numbers_166 : decode cX9_numbers 166 = .ok (.getfield 29, 3) := by decide +kernel
theorem dX9_numbers_169 : decode cX9_numbers 169 = .ok (.aload_n 0, 1) := by decide +kernel
theorem dX9_numbers_170 : decode cX9_numbers 170 = .ok (.getfield 20, 3) := by decide +kernel
theorem dX9_numbers_173 : decode cX9_numbers 173 = .ok (.iload_n 3, 1) := by decide +kernel
theorem dX9_numbers_174 : decode cX9_numbers 174 = .ok (.iaload, 1) := by decide +kernel
theorem dX9_numbers_175 : decode cX9_numbers 175 = .ok (.iaload, 1) := by decide +kernel
theorem dX9_numbers_176 : decode cX9_numbers 176 = .ok (.iadd, 1) := by decide +kernel
theorem dX9_numbers_177 : decode cX9_numbers 177 = .ok (.iastore, 1) := by decide +kernel
theorem dX9_numbers_178 : decode cX9_numbers 178 = .ok (.iinc 2 1, 3) := by decide +kernel
theorem dX9_numbers_181 : decode cX9_numbers 181 = .ok (.aload_n 0, 1) := by decide +kernel
theorem dX9_numbers_182 : decode cX9_numbers 182 = .ok (.getfield 54, 3) := by decide +kernel
theorem dX9_numbers_185 : decode cX9_numbers 185 = .ok (.iload_n 2, 1) := by decide +kernel
theorem dX9_numbers_186 : decode cX9_numbers 186 = .ok (.aload_n 0, 1) := by decide +kernel
theorem dX9_numbers_187 : decode cX9_numbers 187 = .ok (.getfield 20, 3) := by decide +kernel
theorem dX9_numbers_190 : decode cX9_numbers 190 = .ok (.iload_n 3, 1) := by decide +kernel
theorem dX9_numbers_191 : decode cX9_numbers 191 = .ok (.iaload, 1) := by decide +kernel
theorem dX9_numbers_192 : decode cX9_numbers 192 = .ok (.iastore, 1) := by decide +kernel
theorem dX9_numbers_193 : decode cX9_numbers 193 = .ok (.aload_n 0, 1) := by decide +kernel
theorem dX9_numbers_194 : decode cX9_numbers 194 = .ok (.getfield 57, 3) := by decide +kernel
theorem dX9_numbers_197 : decode cX9_numbers 197 = .ok (.iload_n 2, 1) := by decide +kernel
theorem dX9_numbers_198 : decode cX9_numbers 198 = .ok (.iload 4, 2) := by decide +kernel
theorem dX9_numbers_200 : decode cX9_numbers 200 = .ok (.iastore, 1) := by decide +kernel
theorem dX9_numbers_201 : decode cX9_numbers 201 = .ok (.iinc 2 1, 3) := by decide +kernel
theorem dX9_numbers_204 : decode cX9_numbers 204 = .ok (.goto (-153), 3) := by decide +kernel
theorem dX9_numbers_207 : decode cX9_numbers 207 = .ok (.return_, 1) := by decide +kernel
theorem dX9_counts_0 : decode cX9_counts 0 = .ok (.aload_n 0, 1) := by decide +kernel
theorem dX9_counts_1 : decode cX9_counts 1 = .ok (.getfield 51, 3) := by decide +kernel
theorem dX9_counts_4 : decode cX9_counts 4 = .ok (.iload_n 1, 1) := by decide +kernel
theorem dX9_counts_5 : decode cX9_counts 5 = .ok (.iconst 1, 1) := by decide +kernel
theorem dX9_counts_6 : decode cX9_counts 6 = .ok (.iastore, 1) := by decide +kernel
theorem dX9_counts_7 : decode cX9_counts 7 = .ok (.aload_n 0, 1) := by decide +kernel
theorem dX9_counts_8 : decode cX9_counts 8 = .ok (.getfield 29, 3) := by decide +kernel
theorem dX9_counts_11 : decode cX9_counts 11 = .ok (.iload_n 1, 1) := by decide +kernel
theorem dX9_counts_12 : decode cX9_counts 12 = .ok (.iaload, 1) := by decide +kernel
theorem dX9_counts_13 : decode cX9_counts 13 = .ok (.istore_n 2, 1) := by decide +kernel
theorem dX9_counts_14 : decode cX9_counts 14 = .ok (.iload_n 2, 1) := by decide +kernel
theorem dX9_counts_15 : decode cX9_counts 15 = .ok (.iconst 1, 1) := by decide +kernel
theorem dX9_counts_16 : decode cX9_counts 16 = .ok (.if_icmp .le 125, 3) := by decide +kernel
theorem dX9_counts_19 : decode cX9_counts 19 = .ok (.iconst 0, 1) := by decide +kernel
theorem dX9_counts_20 : decode cX9_counts 20 = .ok (.istore_n 3, 1) := by decide +kernel
theorem dX9_counts_21 : decode cX9_counts 21 = .ok (.iload_n 3, 1) := by decide +kernel
theorem dX9_counts_22 : decode cX9_counts 22 = .ok (.aload_n 0, 1) := by decide +kernel
theorem dX9_counts_23 : decode cX9_counts 23 = .ok (.getfield 120, 3) := by decide +kernel
theorem dX9_counts_26 : decode cX9_counts 26 = .ok (.if_icmp .ge 109, 3) := by decide +kernel
theorem dX9_counts_29 : decode cX9_counts 29 = .ok (.aload_n 0, 1) := by decide +kernel
theorem dX9_counts_30 : decode cX9_counts 30 = .ok (.getfield 42, 3) := by decide +kernel
theorem dX9_counts_33 : decode cX9_counts 33 = .ok (.iload_n 3, 1) := by decide +kernel
theorem dX9_counts_34 : decode cX9_counts 34 = .ok (.iaload, 1) := by decide +kernel
theorem dX9_counts_35 : decode cX9_counts 35 = .ok (.istore 4, 2) := by decide +kernel
theorem dX9_counts_37 : decode cX9_counts 37 = .ok (.aload_n 0, 1) := by decide +kernel
theorem dX9_counts_38 : decode cX9_counts 38 = .ok (.getfield 29, 3) := by decide +kernel
theorem dX9_counts_41 : decode cX9_counts 41 = .ok (.iload 4, 2) := by decide +kernel
theorem dX9_counts_43 : decode cX9_counts 43 = .ok (.iaload, 1) := by decide +kernel
theorem dX9_counts_44 : decode cX9_counts 44 = .ok (.iload_n 2, 1) := by decide +kernel
theorem dX9_counts_45 : decode cX9_counts 45 = .ok (.if_icmp .eq 6, 3) := by decide +kernel
theorem dX9_counts_48 : decode cX9_counts 48 = .ok (.goto 81, 3) := by decide +kernel
theorem dX9_counts_51 : decode cX9_counts 51 = .ok (.aload_n 0, 1) := by decide +kernel
theorem dX9_counts_52 : decode cX9_counts 52 = .ok (.getfield 51, 3) := by decide +kernel
theorem dX9_counts_55 : decode cX9_counts 55 = .ok (.aload_n 0, 1) := by decide +kernel
theorem dX9_counts_56 : decode cX9_counts 56 = .ok (.getfield 20, 3) := by decide +kernel
theorem dX9_counts_59 : decode cX9_counts 59 = .ok (.iload 4, 2) := by decide +kernel
theorem dX9_counts_61 : decode cX9_counts 61 = .ok (.iaload, 1) := by decide +kernel
theorem dX9_counts_62 : decode cX9_counts 62 = .ok (.dup2, 1) := by decide +kernel
theorem dX9_counts_63 : decode cX9_counts 63 = .ok (.iaload, 1) := by decide +kernel
theorem dX9_counts_64 : decode cX9_counts 64 = .ok (.aload_n 0, 1) := by decide +kernel
theorem dX9_counts_65 : decode cX9_counts 65 = .ok (.getfield 51, 3) := by decide +kernel
theorem dX9_counts_68 : decode cX9_counts 68 = .ok (.iload 4, 2) := by decide +kernel
theorem dX9_counts_70 : decode cX9_counts 70 = .ok (.iaload, 1) := by decide +kernel
theorem dX9_counts_71 : decode cX9_counts 71 = .ok (.aload_n 0, 1) := by decide +kernel
theorem dX9_counts_72 : decode cX9_counts 72 = .ok (.getfield 17, 3) := by decide +kernel
theorem dX9_counts_75 : decode cX9_counts 75 = .ok (.iload 4, 2) := by decide +kernel
theorem dX9_counts_77 : decode cX9_counts 77 = .ok (.iaload, 1) := by decide +kernel
theorem dX9_counts_78 : decode cX9_counts 78 = .ok (.iconst 2, 1) := by decide +kernel
theorem dX9_counts_79 : decode cX9_counts 79 = .ok (.if_icmp .ne 13, 3) := by decide +kernel
theorem dX9_counts_82 : decode cX9_counts 82 = .ok (.aload_n 0, 1) := by decide +kernel
theorem dX9_counts_83 : decode cX9_counts 83 = .ok (.getfield 23, 3) := by decide +kernel
theorem dX9_counts_86 : decode cX9_counts 86 = .ok (.iload 4, 2) := by decide +kernel
theorem dX9_counts_88 : decode cX9_counts 88 = .ok (.iaload, 1) := by decide +kernel
theorem dX9_counts_89 : decode cX9_counts 89 = .ok (.goto 4, 3) := by decide +kernel
theorem dX9_counts_92 : decode cX9_counts 92 = .ok (.iconst 1, 1) := by decide +kernel
theorem dX9_counts_93 : decode cX9_counts 93 = .ok (.imul, 1) := by decide +kernel
theorem dX9_counts_94 : decode cX9_counts 94 = .ok (.iadd, 1) := by decide +kernel
theorem dX9_counts_95 : decode cX9_counts 95 = .ok (.iastore, 1) := by decide +kernel
theorem dX9_counts_96 : decode cX9_counts 96 = .ok (.aload_n 0, 1) := by decide +kernel
theorem dX9_counts_97 : decode cX9_counts 97 = .ok (.getfield 17, 3) := by decide +kernel
theorem dX9_counts_100 : decode cX9_counts 100 = .ok (.iload 4, 2) := by decide +kernel
theorem dX9_counts_102 : decode cX9_counts 102 = .ok (.iaload, 1) := by decide +kernel
theorem dX9_counts_103 : decode cX9_counts 103 = .ok (.iconst 1, 1) := by decide +kernel
theorem dX9_counts_104 : decode cX9_counts 104 = .ok (.if_icmp .ne 25, 3) := by decide +kernel
theorem dX9_counts_107 : decode cX9_counts 107 = .ok (.aload_n 0, 1) := by decide +kernel
theorem dX9_counts_108 : decode cX9_counts 108 = .ok (.getfield 51, 3) := by decide +kernel
theorem dX9_counts_111 : decode cX9_counts 111 = .ok (.aload_n 0, 1) := by decide +kernel
theorem dX9_counts_112 : decode cX9_counts 112 = .ok (.getfield 23, 3) := by decide +kernel
theorem dX9_counts_115 : decode cX9_counts 115 = .ok (.iload 4, 2) := by decide +kernel
theorem dX9_counts_117 : decode cX9_counts 117 = .ok (.iaload, 1) := by decide +kernel
theorem dX9_counts_118 : decode cX9_counts 118 = .ok (.dup2, 1) := by decide +kernel
theorem dX9_counts_119 : decode cX9_counts 119 = .ok (.iaload, 1) := by decide +kernel
theorem dX9_counts_120 : decode cX9_counts 120 = .ok (.aload_n 0, 1) := by decide +kernel
theorem dX9_counts_121 : decode cX9_counts 121 = .ok (.getfield 51, 3) := by decide +kernel
theorem dX9_counts_124 : decode cX9_counts 124 = .ok (.iload 4, 2) := by decide +kernel
theorem dX9_counts_126 : decode cX9_counts 126 = .ok (.iaload, 1) := by decide +kernel
theorem dX9_counts_127 : decode cX9_counts 127 = .ok (.iadd, 1) := by decide +kernel
theorem dX9_counts_128 : decode cX9_counts 128 = .ok (.iastore, 1) := by decide +kernel
theorem dX9_counts_129 : decode cX9_counts 129 = .ok (.iinc 3 1, 3) := by decide +kernel
theorem dX9_counts_132 : decode cX9_counts 132 = .ok (.goto (-111), 3) := by decide +kernel
theorem dX9_counts_135 : decode cX9_counts 135 = .ok (.iinc 2 (-1), 3) := by decide +kernel
theorem dX9_counts_138 : decode cX9_counts 138 = .ok (.goto (-124), 3) := by decide +kernel
theorem dX9_counts_141 : decode cX9_counts 141 = .ok (.return_, 1) := by decide +kernel
theorem dX9_opens_0 : decode cX9_opens 0 = .ok (.aload_n 0, 1) := by decide +kernel
theorem dX9_opens_1 : decode cX9_opens 1 = .ok (.invokevirtual 123, 3) := by decide +kernel
theorem dX9_opens_4 : decode cX9_opens 4 = .ok (.aload_n 0, 1) := by decide +kernel
theorem dX9_opens_5 : decode cX9_opens 5 = .ok (.iconst 0, 1) := by decide +kernel
theorem dX9_opens_6 : decode cX9_opens 6 = .ok (.iload_n 1, 1) := by decide +kernel
theorem dX9_opens_7 : decode cX9_opens 7 = .ok (.invokevirtual 117, 3) := by decide +kernel
theorem dX9_opens_10 : decode cX9_opens 10 = .ok (.istore_n 2, 1) := by decide +kernel
theorem dX9_opens_11 : decode cX9_opens 11 = .ok (.aload_n 0, 1) := by decide +kernel
theorem dX9_opens_12 : decode cX9_opens 12 = .ok (.iload_n 2, 1) := by decide +kernel
theorem dX9_opens_13 : decode cX9_opens 13 = .ok (.invokevirtual 126, 3) := by decide +kernel
theorem dX9_opens_16 : decode cX9_opens 16 = .ok (.iload_n 2, 1) := by decide +kernel
theorem dX9_opens_17 : decode cX9_opens 17 = .ok (.ireturn, 1) := by decide +kernel
theorem dX9_feed_0 : decode cX9_feed 0 = .ok (.aload_n 0, 1) := by decide +kernel
theorem dX9_feed_1 : decode cX9_feed 1 = .ok (.getfield 129, 3) := by decide +kernel
theorem dX9_feed_4 : decode cX9_feed 4 = .ok (.sipush 880, 3) := by decide +kernel
theorem dX9_feed_7 : decode cX9_feed 7 = .ok (.if_icmp .le 5, 3) := by decide +kernel
theorem dX9_feed_10 : decode cX9_feed 10 = .ok (.iconst (-1), 1) := by decide +kernel
theorem dX9_feed_11 : decode cX9_feed 11 = .ok (.ireturn, 1) := by decide +kernel
theorem dX9_feed_12 : decode cX9_feed 12 = .ok (.aload_n 0, 1) := by decide +kernel
theorem dX9_feed_13 : decode cX9_feed 13 = .ok (.iload_n 1, 1) := by decide +kernel
theorem dX9_feed_14 : decode cX9_feed 14 = .ok (.invokevirtual 132, 3) := by decide +kernel
theorem dX9_feed_17 : decode cX9_feed 17 = .ok (.aload_n 0, 1) := by decide +kernel
theorem dX9_feed_18 : decode cX9_feed 18 = .ok (.iload_n 2, 1) := by decide +kernel
theorem dX9_feed_19 : decode cX9_feed 19 = .ok (.invokevirtual 132, 3) := by decide +kernel
theorem dX9_feed_22 : decode cX9_feed 22 = .ok (.aload_n 0, 1) := by decide +kernel
theorem dX9_feed_23 : decode cX9_feed 23 = .ok (.iload_n 3, 1) := by decide +kernel
theorem dX9_feed_24 : decode cX9_feed 24 = .ok (.invokevirtual 132, 3) := by decide +kernel
theorem dX9_feed_27 : decode cX9_feed 27 = .ok (.aload_n 0, 1) := by decide +kernel
theorem dX9_feed_28 : decode cX9_feed 28 = .ok (.iload 4, 2) := by decide +kernel
theorem dX9_feed_30 : decode cX9_feed 30 = .ok (.invokevirtual 132, 3) := by decide +kernel
theorem dX9_feed_33 : decode cX9_feed 33 = .ok (.aload_n 0, 1) := by decide +kernel
theorem dX9_feed_34 : decode cX9_feed 34 = .ok (.iload 5, 2) := by decide +kernel
theorem dX9_feed_36 : decode cX9_feed 36 = .ok (.invokevirtual 132, 3) := by decide +kernel
theorem dX9_feed_39 : decode cX9_feed 39 = .ok (.aload_n 0, 1) := by decide +kernel
theorem dX9_feed_40 : decode cX9_feed 40 = .ok (.getfield 129, 3) := by decide +kernel
theorem dX9_feed_43 : decode cX9_feed 43 = .ok (.ireturn, 1) := by decide +kernel
theorem dX9_four_0 : decode cX9_four 0 = .ok (.iconst 3, 1) := by decide +kernel
theorem dX9_four_1 : decode cX9_four 1 = .ok (.istore_n 2, 1) := by decide +kernel
theorem dX9_four_2 : decode cX9_four 2 = .ok (.iload_n 2, 1) := by decide +kernel
theorem dX9_four_3 : decode cX9_four 3 = .ok (.ifCond .lt 35, 3) := by decide +kernel
theorem dX9_four_6 : decode cX9_four 6 = .ok (.aload_n 0, 1) := by decide +kernel
theorem dX9_four_7 : decode cX9_four 7 = .ok (.getfield 60, 3) := by decide +kernel
theorem dX9_four_10 : decode cX9_four 10 = .ok (.aload_n 0, 1) := by decide +kernel
theorem dX9_four_11 : decode cX9_four 11 = .ok (.getfield 129, 3) := by decide +kernel
theorem dX9_four_14 : decode cX9_four 14 = .ok (.iload_n 1, 1) := by decide +kernel
theorem dX9_four_15 : decode cX9_four 15 = .ok (.bipush 8, 2) := by decide +kernel
theorem dX9_four_17 : decode cX9_four 17 = .ok (.iload_n 2, 1) := by decide +kernel
theorem dX9_four_18 : decode cX9_four 18 = .ok (.imul, 1) := by decide +kernel
theorem dX9_four_19 : decode cX9_four 19 = .ok (.ishr, 1) := by decide +kernel
theorem dX9_four_20 : decode cX9_four 20 = .ok (.i2b, 1) := by decide +kernel
theorem dX9_four_21 : decode cX9_four 21 = .ok (.bastore, 1) := by decide +kernel
theorem dX9_four_22 : decode cX9_four 22 = .ok (.aload_n 0, 1) := by decide +kernel
theorem dX9_four_23 : decode cX9_four 23 = .ok (.dup, 1) := by decide +kernel
theorem dX9_four_24 : decode cX9_four 24 = .ok (.getfield 129, 3) := by decide +kernel
theorem dX9_four_27 : decode cX9_four 27 = .ok (.iconst 1, 1) := by decide +kernel
theorem dX9_four_28 : decode cX9_four 28 = .ok (.iadd, 1) := by decide +kernel
theorem dX9_four_29 : decode cX9_four 29 = .ok (.putfield 129, 3) := by decide +kernel
theorem dX9_four_32 : decode cX9_four 32 = .ok (.iinc 2 (-1), 3) := by decide +kernel
theorem dX9_four_35 : decode cX9_four 35 = .ok (.goto (-33), 3) := by decide +kernel
theorem dX9_four_38 : decode cX9_four 38 = .ok (.return_, 1) := by decide +kernel
theorem dX9_byteAt_0 : decode cX9_byteAt 0 = .ok (.iload_n 1, 1) := by decide +kernel
theorem dX9_byteAt_1 : decode cX9_byteAt 1 = .ok (.aload_n 0, 1) := by decide +kernel
theorem dX9_byteAt_2 : decode cX9_byteAt 2 = .ok (.getfield 135, 3) := by decide +kernel
theorem dX9_byteAt_5 : decode cX9_byteAt 5 = .ok (.if_icmp .ge 16, 3) := by decide +kernel
theorem dX9_byteAt_8 : decode cX9_byteAt 8 = .ok (.aload_n 0, 1) := by decide +kernel
theorem dX9_byteAt_9 : decode cX9_byteAt 9 = .ok (.getfield 64, 3) := by decide +kernel
theorem dX9_byteAt_12 : decode cX9_byteAt 12 = .ok (.iload_n 1, 1) := by decide +kernel
theorem dX9_byteAt_13 : decode cX9_byteAt 13 = .ok (.baload, 1) := by decide +kernel
theorem dX9_byteAt_14 : decode cX9_byteAt 14 = .ok (.sipush 255, 3) := by decide +kernel
theorem dX9_byteAt_17 : decode cX9_byteAt 17 = .ok (.iand, 1) := by decide +kernel
theorem dX9_byteAt_18 : decode cX9_byteAt 18 = .ok (.goto 4, 3) := by decide +kernel
theorem dX9_byteAt_21 : decode cX9_byteAt 21 = .ok (.iconst (-1), 1) := by decide +kernel
theorem dX9_byteAt_22 : decode cX9_byteAt 22 = .ok (.ireturn, 1) := by decide +kernel
theorem dX9_isSmall_0 : decode cX9_isSmall 0 = .ok (.iload_n 0, 1) := by decide +kernel
theorem dX9_isSmall_1 : decode cX9_isSmall 1 = .ok (.bipush 97, 2) := by decide +kernel
theorem dX9_isSmall_3 : decode cX9_isSmall 3 = .ok (.if_icmp .lt 13, 3) := by decide +kernel
theorem dX9_isSmall_6 : decode cX9_isSmall 6 = .ok (.iload_n 0, 1) := by decide +kernel
theorem dX9_isSmall_7 : decode cX9_isSmall 7 = .ok (.bipush 122, 2) := by decide +kernel
theorem dX9_isSmall_9 : decode cX9_isSmall 9 = .ok (.if_icmp .gt 7, 3) := by decide +kernel
theorem dX9_isSmall_12 : decode cX9_isSmall 12 = .ok (.iconst 1, 1) := by decide +kernel
theorem dX9_isSmall_13 : decode cX9_isSmall 13 = .ok (.goto 4, 3) := by decide +kernel
theorem dX9_isSmall_16 : decode cX9_isSmall 16 = .ok (.iconst 0, 1) := by decide +kernel
theorem dX9_isSmall_17 : decode cX9_isSmall 17 = .ok (.ireturn, 1) := by decide +kernel
theorem dX9_isDigit_0 : decode cX9_isDigit 0 = .ok (.iload_n 0, 1) := by decide +kernel
theorem dX9_isDigit_1 : decode cX9_isDigit 1 = .ok (.bipush 48, 2) := by decide +kernel
theorem dX9_isDigit_3 : decode cX9_isDigit 3 = .ok (.if_icmp .lt 13, 3) := by decide +kernel
theorem dX9_isDigit_6 : decode cX9_isDigit 6 = .ok (.iload_n 0, 1) := by decide +kernel
theorem dX9_isDigit_7 : decode cX9_isDigit 7 = .ok (.bipush 57, 2) := by decide +kernel
theorem dX9_isDigit_9 : decode cX9_isDigit 9 = .ok (.if_icmp .gt 7, 3) := by decide +kernel
theorem dX9_isDigit_12 : decode cX9_isDigit 12 = .ok (.iconst 1, 1) := by decide +kernel
theorem dX9_isDigit_13 : decode cX9_isDigit 13 = .ok (.goto 4, 3) := by decide +kernel
theorem dX9_isDigit_16 : decode cX9_isDigit 16 = .ok (.iconst 0, 1) := by decide +kernel
theorem dX9_isDigit_17 : decode cX9_isDigit 17 = .ok (.ireturn, 1) := by decide +kernel
theorem dX9_isSignOf_0 : decode cX9_isSignOf 0 = .ok (.iload_n 0, 1) := by decide +kernel
theorem dX9_isSignOf_1 : decode cX9_isSignOf 1 = .ok (.bipush 43, 2) := by decide +kernel
theorem dX9_isSignOf_3 : decode cX9_isSignOf 3 = .ok (.if_icmp .eq 63, 3) := by decide +kernel
theorem dX9_isSignOf_6 : decode cX9_isSignOf 6 = .ok (.iload_n 0, 1) := by decide +kernel
theorem dX9_isSignOf_7 : decode cX9_isSignOf 7 = .ok (.bipush 42, 2) := by decide +kernel
theorem dX9_isSignOf_9 : decode cX9_isSignOf 9 = .ok (.if_icmp .eq 57, 3) := by decide +kernel
theorem dX9_isSignOf_12 : decode cX9_isSignOf 12 = .ok (.iload_n 0, 1) := by decide +kernel
theorem dX9_isSignOf_13 : decode cX9_isSignOf 13 = .ok (.bipush 91, 2) := by decide +kernel
theorem dX9_isSignOf_15 : decode cX9_isSignOf 15 = .ok (.if_icmp .eq 51, 3) := by decide +kernel
theorem dX9_isSignOf_18 : decode cX9_isSignOf 18 = .ok (.iload_n 0, 1) := by decide +kernel
theorem dX9_isSignOf_19 : decode cX9_isSignOf 19 = .ok (.bipush 44, 2) := by decide +kernel
theorem dX9_isSignOf_21 : decode cX9_isSignOf 21 = .ok (.if_icmp .eq 45, 3) := by decide +kernel
theorem dX9_isSignOf_24 : decode cX9_isSignOf 24 = .ok (.iload_n 0, 1) := by decide +kernel
theorem dX9_isSignOf_25 : decode cX9_isSignOf 25 = .ok (.bipush 93, 2) := by decide +kernel
theorem dX9_isSignOf_27 : decode cX9_isSignOf 27 = .ok (.if_icmp .eq 39, 3) := by decide +kernel
theorem dX9_isSignOf_30 : decode cX9_isSignOf 30 = .ok (.iload_n 0, 1) := by decide +kernel
theorem dX9_isSignOf_31 : decode cX9_isSignOf 31 = .ok (.bipush 40, 2) := by decide +kernel
theorem dX9_isSignOf_33 : decode cX9_isSignOf 33 = .ok (.if_icmp .eq 33, 3) := by decide +kernel
theorem dX9_isSignOf_36 : decode cX9_isSignOf 36 = .ok (.iload_n 0, 1) := by decide +kernel
theorem dX9_isSignOf_37 : decode cX9_isSignOf 37 = .ok (.bipush 41, 2) := by decide +kernel
theorem dX9_isSignOf_39 : decode cX9_isSignOf 39 = .ok (.if_icmp .eq 27, 3) := by decide +kernel
theorem dX9_isSignOf_42 : decode cX9_isSignOf 42 = .ok (.iload_n 0, 1) := by decide +kernel
theorem dX9_isSignOf_43 : decode cX9_isSignOf 43 = .ok (.bipush 126, 2) := by decide +kernel
theorem dX9_isSignOf_45 : decode cX9_isSignOf 45 = .ok (.if_icmp .eq 21, 3) := by decide +kernel
theorem dX9_isSignOf_48 : decode cX9_isSignOf 48 = .ok (.iload_n 0, 1) := by decide +kernel
theorem dX9_isSignOf_49 : decode cX9_isSignOf 49 = .ok (.bipush 35, 2) := by decide +kernel
theorem dX9_isSignOf_51 : decode cX9_isSignOf 51 = .ok (.if_icmp .eq 15, 3) := by decide +kernel
theorem dX9_isSignOf_54 : decode cX9_isSignOf 54 = .ok (.iload_n 0, 1) := by decide +kernel
theorem dX9_isSignOf_55 : decode cX9_isSignOf 55 = .ok (.bipush 59, 2) := by decide +kernel
theorem dX9_isSignOf_57 : decode cX9_isSignOf 57 = .ok (.if_icmp .eq 9, 3) := by decide +kernel
theorem dX9_isSignOf_60 : decode cX9_isSignOf 60 = .ok (.iload_n 0, 1) := by decide +kernel
theorem dX9_isSignOf_61 : decode cX9_isSignOf 61 = .ok (.bipush 61, 2) := by decide +kernel
theorem dX9_isSignOf_63 : decode cX9_isSignOf 63 = .ok (.if_icmp .ne 7, 3) := by decide +kernel
theorem dX9_isSignOf_66 : decode cX9_isSignOf 66 = .ok (.iconst 1, 1) := by decide +kernel
theorem dX9_isSignOf_67 : decode cX9_isSignOf 67 = .ok (.goto 4, 3) := by decide +kernel
theorem dX9_isSignOf_70 : decode cX9_isSignOf 70 = .ok (.iconst 0, 1) := by decide +kernel
theorem dX9_isSignOf_71 : decode cX9_isSignOf 71 = .ok (.ireturn, 1) := by decide +kernel
theorem dX9_ahead_0 : decode cX9_ahead 0 = .ok (.aload_n 0, 1) := by decide +kernel
theorem dX9_ahead_1 : decode cX9_ahead 1 = .ok (.aload_n 0, 1) := by decide +kernel
theorem dX9_ahead_2 : decode cX9_ahead 2 = .ok (.getfield 138, 3) := by decide +kernel
theorem dX9_ahead_5 : decode cX9_ahead 5 = .ok (.putfield 141, 3) := by decide +kernel
theorem dX9_ahead_8 : decode cX9_ahead 8 = .ok (.aload_n 0, 1) := by decide +kernel
theorem dX9_ahead_9 : decode cX9_ahead 9 = .ok (.aload_n 0, 1) := by decide +kernel
theorem dX9_ahead_10 : decode cX9_ahead 10 = .ok (.getfield 144, 3) := by decide +kernel
theorem dX9_ahead_13 : decode cX9_ahead 13 = .ok (.invokevirtual 147, 3) := by decide +kernel
theorem dX9_ahead_16 : decode cX9_ahead 16 = .ok (.bipush 32, 2) := by decide +kernel
theorem dX9_ahead_18 : decode cX9_ahead 18 = .ok (.if_icmp .eq 16, 3) := by decide +kernel
theorem dX9_ahead_21 : decode cX9_ahead 21 = .ok (.aload_n 0, 1) := by decide +kernel
theorem dX9_ahead_22 : decode cX9_ahead 22 = .ok (.aload_n 0, 1) := by decide +kernel
theorem dX9_ahead_23 : decode cX9_ahead 23 = .ok (.getfield 144, 3) := by decide +kernel
theorem dX9_ahead_26 : decode cX9_ahead 26 = .ok (.invokevirtual 147, 3) := by decide +kernel
theorem dX9_ahead_29 : decode cX9_ahead 29 = .ok (.bipush 10, 2) := by decide +kernel
theorem dX9_ahead_31 : decode cX9_ahead 31 = .ok (.if_icmp .ne 16, 3) := by decide +kernel
theorem dX9_ahead_34 : decode cX9_ahead 34 = .ok (.aload_n 0, 1) := by decide +kernel
theorem dX9_ahead_35 : decode cX9_ahead 35 = .ok (.dup, 1) := by decide +kernel
theorem dX9_ahead_36 : decode cX9_ahead 36 = .ok (.getfield 144, 3) := by decide +kernel
theorem dX9_ahead_39 : decode cX9_ahead 39 = .ok (.iconst 1, 1) := by decide +kernel
theorem dX9_ahead_40 : decode cX9_ahead 40 = .ok (.iadd, 1) := by decide +kernel
theorem dX9_ahead_41 : decode cX9_ahead 41 = .ok (.putfield 144, 3) := by decide +kernel
theorem dX9_ahead_44 : decode cX9_ahead 44 = .ok (.goto (-36), 3) := by decide +kernel
theorem dX9_ahead_47 : decode cX9_ahead 47 = .ok (.aload_n 0, 1) := by decide +kernel
theorem dX9_ahead_48 : decode cX9_ahead 48 = .ok (.aload_n 0, 1) := by decide +kernel
theorem dX9_ahead_49 : decode cX9_ahead 49 = .ok (.getfield 144, 3) := by decide +kernel
theorem dX9_ahead_52 : decode cX9_ahead 52 = .ok (.putfield 138, 3) := by decide +kernel
theorem dX9_ahead_55 : decode cX9_ahead 55 = .ok (.aload_n 0, 1) := by decide +kernel
theorem dX9_ahead_56 : decode cX9_ahead 56 = .ok (.aload_n 0, 1) := by decide +kernel
theorem dX9_ahead_57 : decode cX9_ahead 57 = .ok (.getfield 144, 3) := by decide +kernel
theorem dX9_ahead_60 : decode cX9_ahead 60 = .ok (.invokevirtual 147, 3) := by decide +kernel
theorem dX9_ahead_63 : decode cX9_ahead 63 = .ok (.istore_n 1, 1) := by decide +kernel
theorem dX9_ahead_64 : decode cX9_ahead 64 = .ok (.iload_n 1, 1) := by decide +kernel
theorem dX9_ahead_65 : decode cX9_ahead 65 = .ok (.iconst (-1), 1) := by decide +kernel
theorem dX9_ahead_66 : decode cX9_ahead 66 = .ok (.if_icmp .ne 11, 3) := by decide +kernel
theorem dX9_ahead_69 : decode cX9_ahead 69 = .ok (.aload_n 0, 1) := by decide +kernel
theorem dX9_ahead_70 : decode cX9_ahead 70 = .ok (.iconst 0, 1) := by decide +kernel
theorem dX9_ahead_71 : decode cX9_ahead 71 = .ok (.putfield 151, 3) := by decide +kernel
theorem dX9_ahead_74 : decode cX9_ahead 74 = .ok (.goto 254, 3) := by decide +kernel
theorem dX9_ahead_77 : decode cX9_ahead 77 = .ok (.iload_n 1, 1) := by decide +kernel
theorem dX9_ahead_78 : decode cX9_ahead 78 = .ok (.invokestatic 154, 3) := by decide +kernel
theorem dX9_ahead_81 : decode cX9_ahead 81 = .ok (.ifCond .eq 38, 3) := by decide +kernel
theorem dX9_ahead_84 : decode cX9_ahead 84 = .ok (.aload_n 0, 1) := by decide +kernel
theorem dX9_ahead_85 : decode cX9_ahead 85 = .ok (.aload_n 0, 1) := by decide +kernel
theorem dX9_ahead_86 : decode cX9_ahead 86 = .ok (.getfield 144, 3) := by decide +kernel
theorem dX9_ahead_89 : decode cX9_ahead 89 = .ok (.invokevirtual 147, 3) := by decide +kernel
theorem dX9_ahead_92 : decode cX9_ahead 92 = .ok (.invokestatic 154, 3) := by decide +kernel
theorem dX9_ahead_95 : decode cX9_ahead 95 = .ok (.ifCond .eq 16, 3) := by decide +kernel
theorem dX9_ahead_98 : decode cX9_ahead 98 = .ok (.aload_n 0, 1) := by decide +kernel
theorem dX9_ahead_99 : decode cX9_ahead 99 = .ok (.dup, 1) := by decide +kernel
theorem dX9_ahead_100 : decode cX9_ahead 100 = .ok (.getfield 144, 3) := by decide +kernel
theorem dX9_ahead_103 : decode cX9_ahead 103 = .ok (.iconst 1, 1) := by decide +kernel
theorem dX9_ahead_104 : decode cX9_ahead 104 = .ok (.iadd, 1) := by decide +kernel
theorem dX9_ahead_105 : decode cX9_ahead 105 = .ok (.putfield 144, 3) := by decide +kernel
theorem dX9_ahead_108 : decode cX9_ahead 108 = .ok (.goto (-24), 3) := by decide +kernel
theorem dX9_ahead_111 : decode cX9_ahead 111 = .ok (.aload_n 0, 1) := by decide +kernel
theorem dX9_ahead_112 : decode cX9_ahead 112 = .ok (.iconst 2, 1) := by decide +kernel
theorem dX9_ahead_113 : decode cX9_ahead 113 = .ok (.putfield 151, 3) := by decide +kernel
theorem dX9_ahead_116 : decode cX9_ahead 116 = .ok (.goto 212, 3) := by decide +kernel
theorem dX9_ahead_119 : decode cX9_ahead 119 = .ok (.iload_n 1, 1) := by decide +kernel
theorem dX9_ahead_120 : decode cX9_ahead 120 = .ok (.invokestatic 158, 3) := by decide +kernel
theorem dX9_ahead_123 : decode cX9_ahead 123 = .ok (.ifCond .eq 88, 3) := by decide +kernel
theorem dX9_ahead_126 : decode cX9_ahead 126 = .ok (.aload_n 0, 1) := by decide +kernel
theorem dX9_ahead_127 : decode cX9_ahead 127 = .ok (.iconst 0, 1) := by decide +kernel
theorem dX9_ahead_128 : decode cX9_ahead 128 = .ok (.putfield 161, 3) := by decide +kernel
theorem dX9_ahead_131 : decode cX9_ahead 131 = .ok (.aload_n 0, 1) := by decide +kernel
theorem dX9_ahead_132 : decode cX9_ahead 132 = .ok (.aload_n 0, 1) := by decide +kernel
theorem dX9_ahead_133 : decode cX9_ahead 133 = .ok (.getfield 144, 3) := by decide +kernel
theorem dX9_ahead_136 : decode cX9_ahead 136 = .ok (.invokevirtual 147, 3) := by decide +kernel
theorem dX9_ahead_139 : decode cX9_ahead 139 = .ok (.invokestatic 158, 3) := by decide +kernel
theorem dX9_ahead_142 : decode cX9_ahead 142 = .ok (.ifCond .eq 44, 3) := by decide +kernel
theorem dX9_ahead_145 : decode cX9_ahead 145 = .ok (.aload_n 0, 1) := by decide +kernel
theorem dX9_ahead_146 : decode cX9_ahead 146 = .ok (.ldc 164, 2) := by decide +kernel
theorem dX9_ahead_148 : decode cX9_ahead 148 = .ok (.bipush 10, 2) := by decide +kernel
theorem dX9_ahead_150 : decode cX9_ahead 150 = .ok (.aload_n 0, 1) := by decide +kernel
theorem dX9_ahead_151 : decode cX9_ahead 151 = .ok (.getfield 161, 3) := by decide +kernel
theorem dX9_ahead_154 : decode cX9_ahead 154 = .ok (.imul, 1) := by decide +kernel
theorem dX9_ahead_155 : decode cX9_ahead 155 = .ok (.aload_n 0, 1) := by decide +kernel
theorem dX9_ahead_156 : decode cX9_ahead 156 = .ok (.aload_n 0, 1) := by decide +kernel
theorem dX9_ahead_157 : decode cX9_ahead 157 = .ok (.getfield 144, 3) := by decide +kernel
theorem dX9_ahead_160 : decode cX9_ahead 160 = .ok (.invokevirtual 147, 3) := by decide +kernel
theorem dX9_ahead_163 : decode cX9_ahead 163 = .ok (.iadd, 1) := by decide +kernel
theorem dX9_ahead_164 : decode cX9_ahead 164 = .ok (.bipush 48, 2) := by decide +kernel
theorem dX9_ahead_166 : decode cX9_ahead 166 = .ok (.isub, 1) := by decide +kernel
theorem dX9_ahead_167 : decode cX9_ahead 167 = .ok (.invokestatic 165, 3) := by decide +kernel
theorem dX9_ahead_170 : decode cX9_ahead 170 = .ok (.putfield 161, 3) := by decide +kernel
theorem dX9_ahead_173 : decode cX9_ahead 173 = .ok (.aload_n 0, 1) := by decide +kernel
theorem dX9_ahead_174 : decode cX9_ahead 174 = .ok (.dup, 1) := by decide +kernel
theorem dX9_ahead_175 : decode cX9_ahead 175 = .ok (.getfield 144, 3) := by decide +kernel
theorem dX9_ahead_178 : decode cX9_ahead 178 = .ok (.iconst 1, 1) := by decide +kernel
theorem dX9_ahead_179 : decode cX9_ahead 179 = .ok (.iadd, 1) := by decide +kernel
theorem dX9_ahead_180 : decode cX9_ahead 180 = .ok (.putfield 144, 3) := by decide +kernel
theorem dX9_ahead_183 : decode cX9_ahead 183 = .ok (.goto (-52), 3) := by decide +kernel
theorem dX9_ahead_186 : decode cX9_ahead 186 = .ok (.aload_n 0, 1) := by decide +kernel
theorem dX9_ahead_187 : decode cX9_ahead 187 = .ok (.aload_n 0, 1) := by decide +kernel
theorem dX9_ahead_188 : decode cX9_ahead 188 = .ok (.getfield 144, 3) := by decide +kernel
theorem dX9_ahead_191 : decode cX9_ahead 191 = .ok (.aload_n 0, 1) := by decide +kernel
theorem dX9_ahead_192 : decode cX9_ahead 192 = .ok (.getfield 138, 3) := by decide +kernel
theorem dX9_ahead_195 : decode cX9_ahead 195 = .ok (.isub, 1) := by decide +kernel
theorem dX9_ahead_196 : decode cX9_ahead 196 = .ok (.iconst 4, 1) := by decide +kernel
theorem dX9_ahead_197 : decode cX9_ahead 197 = .ok (.if_icmp .le 7, 3) := by decide +kernel
theorem dX9_ahead_200 : decode cX9_ahead 200 = .ok (.iconst 1, 1) := by decide +kernel
theorem dX9_ahead_201 : decode cX9_ahead 201 = .ok (.goto 4, 3) := by decide +kernel
theorem dX9_ahead_204 : decode cX9_ahead 204 = .ok (.iconst 3, 1) := by decide +kernel
theorem dX9_ahead_205 : decode cX9_ahead 205 = .ok (.putfield 151, 3) := by decide +kernel
theorem dX9_ahead_208 : decode cX9_ahead 208 = .ok (.goto 120, 3) := by decide +kernel
theorem dX9_ahead_211 : decode cX9_ahead 211 = .ok (.iload_n 1, 1) := by decide +kernel
theorem dX9_ahead_212 : decode cX9_ahead 212 = .ok (.bipush 34, 2) := by decide +kernel
theorem dX9_ahead_214 : decode cX9_ahead 214 = .ok (.if_icmp .ne 88, 3) := by decide +kernel
theorem dX9_ahead_217 : decode cX9_ahead 217 = .ok (.aload_n 0, 1) := by decide +kernel
theorem dX9_ahead_218 : decode cX9_ahead 218 = .ok (.dup, 1) := by decide +kernel
theorem dX9_ahead_219 : decode cX9_ahead 219 = .ok (.getfield 144, 3) := by decide +kernel
theorem dX9_ahead_222 : decode cX9_ahead 222 = .ok (.iconst 1, 1) := by decide +kernel
theorem dX9_ahead_223 : decode cX9_ahead 223 = .ok (.iadd, 1) := by decide +kernel
theorem dX9_ahead_224 : decode cX9_ahead 224 = .ok (.putfield 144, 3) := by decide +kernel
theorem dX9_ahead_227 : decode cX9_ahead 227 = .ok (.aload_n 0, 1) := by decide +kernel
theorem dX9_ahead_228 : decode cX9_ahead 228 = .ok (.aload_n 0, 1) := by decide +kernel
theorem dX9_ahead_229 : decode cX9_ahead 229 = .ok (.getfield 144, 3) := by decide +kernel
theorem dX9_ahead_232 : decode cX9_ahead 232 = .ok (.invokevirtual 147, 3) := by decide +kernel
theorem dX9_ahead_235 : decode cX9_ahead 235 = .ok (.invokestatic 154, 3) := by decide +kernel
theorem dX9_ahead_238 : decode cX9_ahead 238 = .ok (.ifCond .eq 16, 3) := by decide +kernel
theorem dX9_ahead_241 : decode cX9_ahead 241 = .ok (.aload_n 0, 1) := by decide +kernel
theorem dX9_ahead_242 : decode cX9_ahead 242 = .ok (.dup, 1) := by decide +kernel
theorem dX9_ahead_243 : decode cX9_ahead 243 = .ok (.getfield 144, 3) := by decide +kernel
theorem dX9_ahead_246 : decode cX9_ahead 246 = .ok (.iconst 1, 1) := by decide +kernel
theorem dX9_ahead_247 : decode cX9_ahead 247 = .ok (.iadd, 1) := by decide +kernel
theorem dX9_ahead_248 : decode cX9_ahead 248 = .ok (.putfield 144, 3) := by decide +kernel
theorem dX9_ahead_251 : decode cX9_ahead 251 = .ok (.goto (-24), 3) := by decide +kernel
theorem dX9_ahead_254 : decode cX9_ahead 254 = .ok (.aload_n 0, 1) := by decide +kernel
theorem dX9_ahead_255 : decode cX9_ahead 255 = .ok (.aload_n 0, 1) := by decide +kernel
theorem dX9_ahead_256 : decode cX9_ahead 256 = .ok (.aload_n 0, 1) := by decide +kernel
theorem dX9_ahead_257 : decode cX9_ahead 257 = .ok (.getfield 144, 3) := by decide +kernel
theorem dX9_ahead_260 : decode cX9_ahead 260 = .ok (.invokevirtual 147, 3) := by decide +kernel
theorem dX9_ahead_263 : decode cX9_ahead 263 = .ok (.bipush 34, 2) := by decide +kernel
theorem dX9_ahead_265 : decode cX9_ahead 265 = .ok (.if_icmp .ne 20, 3) := by decide +kernel
theorem dX9_ahead_268 : decode cX9_ahead 268 = .ok (.aload_n 0, 1) := by decide +kernel
theorem dX9_ahead_269 : decode cX9_ahead 269 = .ok (.getfield 144, 3) := by decide +kernel
theorem dX9_ahead_272 : decode cX9_ahead 272 = .ok (.aload_n 0, 1) := by decide +kernel
theorem dX9_ahead_273 : decode cX9_ahead 273 = .ok (.getfield 138, 3) := by decide +kernel
theorem dX9_ahead_276 : decode cX9_ahead 276 = .ok (.iconst 1, 1) := by decide +kernel
theorem dX9_ahead_277 : decode cX9_ahead 277 = .ok (.iadd, 1) := by decide +kernel
theorem dX9_ahead_278 : decode cX9_ahead 278 = .ok (.if_icmp .le 7, 3) := by decide +kernel
theorem dX9_ahead_281 : decode cX9_ahead 281 = .ok (.iconst 4, 1) := by decide +kernel
theorem dX9_ahead_282 : decode cX9_ahead 282 = .ok (.goto 4, 3) := by decide +kernel
theorem dX9_ahead_285 : decode cX9_ahead 285 = .ok (.iconst 1, 1) := by decide +kernel
theorem dX9_ahead_286 : decode cX9_ahead 286 = .ok (.putfield 151, 3) := by decide +kernel
theorem dX9_ahead_289 : decode cX9_ahead 289 = .ok (.aload_n 0, 1) := by decide +kernel
theorem dX9_ahead_290 : decode cX9_ahead 290 = .ok (.dup, 1) := by decide +kernel
theorem dX9_ahead_291 : decode cX9_ahead 291 = .ok (.getfield 144, 3) := by decide +kernel
theorem dX9_ahead_294 : decode cX9_ahead 294 = .ok (.iconst 1, 1) := by decide +kernel
theorem dX9_ahead_295 : decode cX9_ahead 295 = .ok (.iadd, 1) := by decide +kernel
theorem dX9_ahead_296 : decode cX9_ahead 296 = .ok (.putfield 144, 3) := by decide +kernel
theorem dX9_ahead_299 : decode cX9_ahead 299 = .ok (.goto 29, 3) := by decide +kernel
theorem dX9_ahead_302 : decode cX9_ahead 302 = .ok (.aload_n 0, 1) := by decide +kernel
theorem dX9_ahead_303 : decode cX9_ahead 303 = .ok (.dup, 1) := by decide +kernel
theorem dX9_ahead_304 : decode cX9_ahead 304 = .ok (.getfield 144, 3) := by decide +kernel
theorem dX9_ahead_307 : decode cX9_ahead 307 = .ok (.iconst 1, 1) := by decide +kernel
theorem dX9_ahead_308 : decode cX9_ahead 308 = .ok (.iadd, 1) := by decide +kernel
theorem dX9_ahead_309 : decode cX9_ahead 309 = .ok (.putfield 144, 3) := by decide +kernel
theorem dX9_ahead_312 : decode cX9_ahead 312 = .ok (.aload_n 0, 1) := by decide +kernel
theorem dX9_ahead_313 : decode cX9_ahead 313 = .ok (.iload_n 1, 1) := by decide +kernel
theorem dX9_ahead_314 : decode cX9_ahead 314 = .ok (.invokestatic 168, 3) := by decide +kernel
theorem dX9_ahead_317 : decode cX9_ahead 317 = .ok (.ifCond .eq 7, 3) := by decide +kernel
theorem dX9_ahead_320 : decode cX9_ahead 320 = .ok (.iconst 5, 1) := by decide +kernel
theorem dX9_ahead_321 : decode cX9_ahead 321 = .ok (.goto 4, 3) := by decide +kernel
theorem dX9_ahead_324 : decode cX9_ahead 324 = .ok (.iconst 1, 1) := by decide +kernel
theorem dX9_ahead_325 : decode cX9_ahead 325 = .ok (.putfield 151, 3) := by decide +kernel
theorem dX9_ahead_328 : decode cX9_ahead 328 = .ok (.return_, 1) := by decide +kernel
theorem dX9_failsAt_0 : decode cX9_failsAt 0 = .ok (.aload_n 0, 1) := by decide +kernel
theorem dX9_failsAt_1 : decode cX9_failsAt 1 = .ok (.getfield 171, 3) := by decide +kernel
theorem dX9_failsAt_4 : decode cX9_failsAt 4 = .ok (.ifCond .ne 13, 3) := by decide +kernel
theorem dX9_failsAt_7 : decode cX9_failsAt 7 = .ok (.aload_n 0, 1) := by decide +kernel
theorem dX9_failsAt_8 : decode cX9_failsAt 8 = .ok (.iload_n 1, 1) := by decide +kernel
theorem dX9_failsAt_9 : decode cX9_failsAt 9 = .ok (.putfield 171, 3) := by decide +kernel
theorem dX9_failsAt_12 : decode cX9_failsAt 12 = .ok (.aload_n 0, 1) := by decide +kernel
theorem dX9_failsAt_13 : decode cX9_failsAt 13 = .ok (.iload_n 2, 1) := by decide +kernel
theorem dX9_failsAt_14 : decode cX9_failsAt 14 = .ok (.putfield 67, 3) := by decide +kernel
theorem dX9_failsAt_17 : decode cX9_failsAt 17 = .ok (.iconst 0, 1) := by decide +kernel
theorem dX9_failsAt_18 : decode cX9_failsAt 18 = .ok (.ireturn, 1) := by decide +kernel
theorem dX9_fails_0 : decode cX9_fails 0 = .ok (.aload_n 0, 1) := by decide +kernel
theorem dX9_fails_1 : decode cX9_fails 1 = .ok (.aload_n 0, 1) := by decide +kernel
theorem dX9_fails_2 : decode cX9_fails 2 = .ok (.getfield 151, 3) := by decide +kernel
theorem dX9_fails_5 : decode cX9_fails 5 = .ok (.iconst 1, 1) := by decide +kernel
theorem dX9_fails_6 : decode cX9_fails 6 = .ok (.if_icmp .ne 7, 3) := by decide +kernel
theorem dX9_fails_9 : decode cX9_fails 9 = .ok (.iconst 1, 1) := by decide +kernel
theorem dX9_fails_10 : decode cX9_fails 10 = .ok (.goto 4, 3) := by decide +kernel
theorem dX9_fails_13 : decode cX9_fails 13 = .ok (.iload_n 1, 1) := by decide +kernel
theorem dX9_fails_14 : decode cX9_fails 14 = .ok (.aload_n 0, 1) := by decide +kernel
theorem dX9_fails_15 : decode cX9_fails 15 = .ok (.getfield 138, 3) := by decide +kernel
theorem dX9_fails_18 : decode cX9_fails 18 = .ok (.invokevirtual 174, 3) := by decide +kernel
theorem dX9_fails_21 : decode cX9_fails 21 = .ok (.ireturn, 1) := by decide +kernel
theorem dX9_takes_0 : decode cX9_takes 0 = .ok (.aload_n 0, 1) := by decide +kernel
theorem dX9_takes_1 : decode cX9_takes 1 = .ok (.invokevirtual 178, 3) := by decide +kernel
theorem dX9_takes_4 : decode cX9_takes 4 = .ok (.iconst 1, 1) := by decide +kernel
theorem dX9_takes_5 : decode cX9_takes 5 = .ok (.ireturn, 1) := by decide +kernel
theorem dX9_isSign_0 : decode cX9_isSign 0 = .ok (.aload_n 0, 1) := by decide +kernel
theorem dX9_isSign_1 : decode cX9_isSign 1 = .ok (.getfield 151, 3) := by decide +kernel
theorem dX9_isSign_4 : decode cX9_isSign 4 = .ok (.iconst 5, 1) := by decide +kernel
theorem dX9_isSign_5 : decode cX9_isSign 5 = .ok (.if_icmp .ne 19, 3) := by decide +kernel
theorem dX9_isSign_8 : decode cX9_isSign 8 = .ok (.aload_n 0, 1) := by decide +kernel
theorem dX9_isSign_9 : decode cX9_isSign 9 = .ok (.aload_n 0, 1) := by decide +kernel
theorem dX9_isSign_10 : decode cX9_isSign 10 = .ok (.getfield 138, 3) := by decide +kernel
theorem dX9_isSign_13 : decode cX9_isSign 13 = .ok (.invokevirtual 147, 3) := by decide +kernel
theorem dX9_isSign_16 : decode cX9_isSign 16 = .ok (.iload_n 1, 1) := by decide +kernel
theorem dX9_isSign_17 : decode cX9_isSign 17 = .ok (.if_icmp .ne 7, 3) := by decide +kernel
theorem dX9_isSign_20 : decode cX9_isSign 20 = .ok (.iconst 1, 1) := by decide +kernel
theorem dX9_isSign_21 : decode cX9_isSign 21 = .ok (.goto 4, 3) := by decide +kernel
theorem dX9_isSign_24 : decode cX9_isSign 24 = .ok (.iconst 0, 1) := by decide +kernel
theorem dX9_isSign_25 : decode cX9_isSign 25 = .ok (.ireturn, 1) := by decide +kernel
theorem dX9_takesSign_0 : decode cX9_takesSign 0 = .ok (.aload_n 0, 1) := by decide +kernel
theorem dX9_takesSign_1 : decode cX9_takesSign 1 = .ok (.iload_n 1, 1) := by decide +kernel
theorem dX9_takesSign_2 : decode cX9_takesSign 2 = .ok (.invokevirtual 181, 3) := by decide +kernel
theorem dX9_takesSign_5 : decode cX9_takesSign 5 = .ok (.ifCond .eq 10, 3) := by decide +kernel
theorem dX9_takesSign_8 : decode cX9_takesSign 8 = .ok (.aload_n 0, 1) := by decide +kernel
theorem dX9_takesSign_9 : decode cX9_takesSign 9 = .ok (.invokevirtual 184, 3) := by decide +kernel
theorem dX9_takesSign_12 : decode cX9_takesSign 12 = .ok (.goto 8, 3) := by decide +kernel
theorem dX9_takesSign_15 : decode cX9_takesSign 15 = .ok (.aload_n 0, 1) := by decide +kernel
theorem dX9_takesSign_16 : decode cX9_takesSign 16 = .ok (.iconst 2, 1) := by decide +kernel
theorem dX9_takesSign_17 : decode cX9_takesSign 17 = .ok (.invokevirtual 188, 3) := by decide +kernel
theorem dX9_takesSign_20 : decode cX9_takesSign 20 = .ok (.ireturn, 1) := by decide +kernel
theorem dX9_isWord_0 : decode cX9_isWord 0 = .ok (.aload_n 0, 1) := by decide +kernel
theorem dX9_isWord_1 : decode cX9_isWord 1 = .ok (.getfield 151, 3) := by decide +kernel
theorem dX9_isWord_4 : decode cX9_isWord 4 = .ok (.iconst 2, 1) := by decide +kernel
theorem dX9_isWord_5 : decode cX9_isWord 5 = .ok (.if_icmp .ne 23, 3) := by decide +kernel
theorem dX9_isWord_8 : decode cX9_isWord 8 = .ok (.aload_n 0, 1) := by decide +kernel
theorem dX9_isWord_9 : decode cX9_isWord 9 = .ok (.getfield 144, 3) := by decide +kernel
theorem dX9_isWord_12 : decode cX9_isWord 12 = .ok (.aload_n 0, 1) := by decide +kernel
theorem dX9_isWord_13 : decode cX9_isWord 13 = .ok (.getfield 138, 3) := by decide +kernel
theorem dX9_isWord_16 : decode cX9_isWord 16 = .ok (.isub, 1) := by decide +kernel
theorem dX9_isWord_17 : decode cX9_isWord 17 = .ok (.aload_n 1, 1) := by decide +kernel
theorem dX9_isWord_18 : decode cX9_isWord 18 = .ok (.invokevirtual 191, 3) := by decide +kernel
theorem dX9_isWord_21 : decode cX9_isWord 21 = .ok (.if_icmp .ne 7, 3) := by decide +kernel
theorem dX9_isWord_24 : decode cX9_isWord 24 = .ok (.iconst 1, 1) := by decide +kernel
theorem dX9_isWord_25 : decode cX9_isWord 25 = .ok (.goto 4, 3) := by decide +kernel
theorem dX9_isWord_28 : decode cX9_isWord 28 = .ok (.iconst 0, 1) := by decide +kernel
theorem dX9_isWord_29 : decode cX9_isWord 29 = .ok (.istore_n 2, 1) := by decide +kernel
theorem dX9_isWord_30 : decode cX9_isWord 30 = .ok (.iconst 0, 1) := by decide +kernel
theorem dX9_isWord_31 : decode cX9_isWord 31 = .ok (.istore_n 3, 1) := by decide +kernel
theorem dX9_isWord_32 : decode cX9_isWord 32 = .ok (.iload_n 3, 1) := by decide +kernel
theorem dX9_isWord_33 : decode cX9_isWord 33 = .ok (.aload_n 1, 1) := by decide +kernel
theorem dX9_isWord_34 : decode cX9_isWord 34 = .ok (.invokevirtual 191, 3) := by decide +kernel
theorem dX9_isWord_37 : decode cX9_isWord 37 = .ok (.if_icmp .ge 37, 3) := by decide +kernel
theorem dX9_isWord_40 : decode cX9_isWord 40 = .ok (.iload_n 2, 1) := by decide +kernel
theorem dX9_isWord_41 : decode cX9_isWord 41 = .ok (.ifCond .eq 33, 3) := by decide +kernel
theorem dX9_isWord_44 : decode cX9_isWord 44 = .ok (.aload_n 0, 1) := by decide +kernel
theorem dX9_isWord_45 : decode cX9_isWord 45 = .ok (.aload_n 0, 1) := by decide +kernel
theorem dX9_isWord_46 : decode cX9_isWord 46 = .ok (.getfield 138, 3) := by decide +kernel
theorem dX9_isWord_49 : decode cX9_isWord 49 = .ok (.iload_n 3, 1) := by decide +kernel
theorem dX9_isWord_50 : decode cX9_isWord 50 = .ok (.iadd, 1) := by decide +kernel
theorem dX9_isWord_51 : decode cX9_isWord 51 = .ok (.invokevirtual 147, 3) := by decide +kernel
theorem dX9_isWord_54 : decode cX9_isWord 54 = .ok (.aload_n 1, 1) := by decide +kernel
theorem dX9_isWord_55 : decode cX9_isWord 55 = .ok (.iload_n 3, 1) := by decide +kernel
theorem dX9_isWord_56 : decode cX9_isWord 56 = .ok (.invokevirtual 195, 3) := by decide +kernel
theorem dX9_isWord_59 : decode cX9_isWord 59 = .ok (.if_icmp .ne 7, 3) := by decide +kernel
theorem dX9_isWord_62 : decode cX9_isWord 62 = .ok (.iconst 1, 1) := by decide +kernel
theorem dX9_isWord_63 : decode cX9_isWord 63 = .ok (.goto 4, 3) := by decide +kernel
theorem dX9_isWord_66 : decode cX9_isWord 66 = .ok (.iconst 0, 1) := by decide +kernel
theorem dX9_isWord_67 : decode cX9_isWord 67 = .ok (.istore_n 2, 1) := by decide +kernel
theorem dX9_isWord_68 : decode cX9_isWord 68 = .ok (.iinc 3 1, 3) := by decide +kernel
theorem dX9_isWord_71 : decode cX9_isWord 71 = .ok (.goto (-39), 3) := by decide +kernel
theorem dX9_isWord_74 : decode cX9_isWord 74 = .ok (.iload_n 2, 1) := by decide +kernel
theorem dX9_isWord_75 : decode cX9_isWord 75 = .ok (.ireturn, 1) := by decide +kernel
theorem dX9_isNumber_0 : decode cX9_isNumber 0 = .ok (.aload_n 0, 1) := by decide +kernel
theorem dX9_isNumber_1 : decode cX9_isNumber 1 = .ok (.getfield 151, 3) := by decide +kernel
theorem dX9_isNumber_4 : decode cX9_isNumber 4 = .ok (.iconst 3, 1) := by decide +kernel
theorem dX9_isNumber_5 : decode cX9_isNumber 5 = .ok (.if_icmp .eq 9, 3) := by decide +kernel
theorem dX9_isNumber_8 : decode cX9_isNumber 8 = .ok (.aload_n 0, 1) := by decide +kernel
theorem dX9_isNumber_9 : decode cX9_isNumber 9 = .ok (.iconst 2, 1) := by decide +kernel
theorem dX9_isNumber_10 : decode cX9_isNumber 10 = .ok (.invokevirtual 188, 3) := by decide +kernel
theorem dX9_isNumber_13 : decode cX9_isNumber 13 = .ok (.ireturn, 1) := by decide +kernel
theorem dX9_isNumber_14 : decode cX9_isNumber 14 = .ok (.aload_n 0, 1) := by decide +kernel
theorem dX9_isNumber_15 : decode cX9_isNumber 15 = .ok (.getfield 161, 3) := by decide +kernel
theorem dX9_isNumber_18 : decode cX9_isNumber 18 = .ok (.iload_n 1, 1) := by decide +kernel
theorem dX9_isNumber_19 : decode cX9_isNumber 19 = .ok (.iload_n 2, 1) := by decide +kernel
theorem dX9_isNumber_20 : decode cX9_isNumber 20 = .ok (.invokestatic 199, 3) := by decide +kernel
theorem dX9_isNumber_23 : decode cX9_isNumber 23 = .ok (.ifCond .ne 11, 3) := by decide +kernel
theorem dX9_isNumber_26 : decode cX9_isNumber 26 = .ok (.aload_n 0, 1) := by decide +kernel
theorem dX9_isNumber_27 : decode cX9_isNumber 27 = .ok (.iload_n 3, 1) := by decide +kernel
theorem dX9_isNumber_28 : decode cX9_isNumber 28 = .ok (.invokevirtual 188, 3) := by decide +kernel
theorem dX9_isNumber_31 : decode cX9_isNumber 31 = .ok (.ifCond .eq 7, 3) := by decide +kernel
theorem dX9_isNumber_34 : decode cX9_isNumber 34 = .ok (.iconst 1, 1) := by decide +kernel
theorem dX9_isNumber_35 : decode cX9_isNumber 35 = .ok (.goto 4, 3) := by decide +kernel
theorem dX9_isNumber_38 : decode cX9_isNumber 38 = .ok (.iconst 0, 1) := by decide +kernel
theorem dX9_isNumber_39 : decode cX9_isNumber 39 = .ok (.ireturn, 1) := by decide +kernel
theorem dX9_sinks_0 : decode cX9_sinks 0 = .ok (.aload_n 0, 1) := by decide +kernel
theorem dX9_sinks_1 : decode cX9_sinks 1 = .ok (.getfield 203, 3) := by decide +kernel
theorem dX9_sinks_4 : decode cX9_sinks 4 = .ok (.bipush 6, 2) := by decide +kernel
theorem dX9_sinks_6 : decode cX9_sinks 6 = .ok (.if_icmp .ne 10, 3) := by decide +kernel
theorem dX9_sinks_9 : decode cX9_sinks 9 = .ok (.aload_n 0, 1) := by decide +kernel
theorem dX9_sinks_10 : decode cX9_sinks 10 = .ok (.bipush 6, 2) := by decide +kernel
theorem dX9_sinks_12 : decode cX9_sinks 12 = .ok (.invokevirtual 188, 3) := by decide +kernel
theorem dX9_sinks_15 : decode cX9_sinks 15 = .ok (.ireturn, 1) := by decide +kernel
theorem dX9_sinks_16 : decode cX9_sinks 16 = .ok (.aload_n 0, 1) := by decide +kernel
theorem dX9_sinks_17 : decode cX9_sinks 17 = .ok (.dup, 1) := by decide +kernel
theorem dX9_sinks_18 : decode cX9_sinks 18 = .ok (.getfield 203, 3) := by decide +kernel
theorem dX9_sinks_21 : decode cX9_sinks 21 = .ok (.iconst 1, 1) := by decide +kernel
theorem dX9_sinks_22 : decode cX9_sinks 22 = .ok (.iadd, 1) := by decide +kernel
theorem dX9_sinks_23 : decode cX9_sinks 23 = .ok (.putfield 203, 3) := by decide +kernel
theorem dX9_sinks_26 : decode cX9_sinks 26 = .ok (.aload_n 0, 1) := by decide +kernel
theorem dX9_sinks_27 : decode cX9_sinks 27 = .ok (.invokevirtual 184, 3) := by decide +kernel
theorem dX9_sinks_30 : decode cX9_sinks 30 = .ok (.ireturn, 1) := by decide +kernel
theorem dX9_rises_0 : decode cX9_rises 0 = .ok (.aload_n 0, 1) := by decide +kernel
theorem dX9_rises_1 : decode cX9_rises 1 = .ok (.dup, 1) := by decide +kernel
theorem dX9_rises_2 : decode cX9_rises 2 = .ok (.getfield 203, 3) := by decide +kernel
theorem dX9_rises_5 : decode cX9_rises 5 = .ok (.iconst 1, 1) := by decide +kernel
theorem dX9_rises_6 : decode cX9_rises 6 = .ok (.isub, 1) := by decide +kernel
theorem dX9_rises_7 : decode cX9_rises 7 = .ok (.putfield 203, 3) := by decide +kernel
theorem dX9_rises_10 : decode cX9_rises 10 = .ok (.iconst 1, 1) := by decide +kernel
theorem dX9_rises_11 : decode cX9_rises 11 = .ok (.ireturn, 1) := by decide +kernel
theorem dX9_sum_0 : decode cX9_sum 0 = .ok (.aload_n 0, 1) := by decide +kernel
theorem dX9_sum_1 : decode cX9_sum 1 = .ok (.getfield 206, 3) := by decide +kernel
theorem dX9_sum_4 : decode cX9_sum 4 = .ok (.istore_n 1, 1) := by decide +kernel
theorem dX9_sum_5 : decode cX9_sum 5 = .ok (.aload_n 0, 1) := by decide +kernel
theorem dX9_sum_6 : decode cX9_sum 6 = .ok (.invokevirtual 209, 3) := by decide +kernel
theorem dX9_sum_9 : decode cX9_sum 9 = .ok (.ifCond .ne 5, 3) := by decide +kernel
theorem dX9_sum_12 : decode cX9_sum 12 = .ok (.iconst 0, 1) := by decide +kernel
theorem dX9_sum_13 : decode cX9_sum 13 = .ok (.ireturn, 1) := by decide +kernel
theorem dX9_sum_14 : decode cX9_sum 14 = .ok (.aload_n 0, 1) := by decide +kernel
theorem dX9_sum_15 : decode cX9_sum 15 = .ok (.bipush 43, 2) := by decide +kernel
theorem dX9_sum_17 : decode cX9_sum 17 = .ok (.invokevirtual 181, 3) := by decide +kernel
theorem dX9_sum_20 : decode cX9_sum 20 = .ok (.ifCond .eq 38, 3) := by decide +kernel
theorem dX9_sum_23 : decode cX9_sum 23 = .ok (.aload_n 0, 1) := by decide +kernel
theorem dX9_sum_24 : decode cX9_sum 24 = .ok (.invokevirtual 178, 3) := by decide +kernel
theorem dX9_sum_27 : decode cX9_sum 27 = .ok (.aload_n 0, 1) := by decide +kernel
theorem dX9_sum_28 : decode cX9_sum 28 = .ok (.invokevirtual 209, 3) := by decide +kernel
theorem dX9_sum_31 : decode cX9_sum 31 = .ok (.ifCond .ne 5, 3) := by decide +kernel
theorem dX9_sum_34 : decode cX9_sum 34 = .ok (.iconst 0, 1) := by decide +kernel
theorem dX9_sum_35 : decode cX9_sum 35 = .ok (.ireturn, 1) := by decide +kernel
theorem dX9_sum_36 : decode cX9_sum 36 = .ok (.aload_n 0, 1) := by decide +kernel
theorem dX9_sum_37 : decode cX9_sum 37 = .ok (.getfield 206, 3) := by decide +kernel
theorem dX9_sum_40 : decode cX9_sum 40 = .ok (.iload_n 1, 1) := by decide +kernel
theorem dX9_sum_41 : decode cX9_sum 41 = .ok (.isub, 1) := by decide +kernel
theorem dX9_sum_42 : decode cX9_sum 42 = .ok (.sipush 600, 3) := by decide +kernel
theorem dX9_sum_45 : decode cX9_sum 45 = .ok (.if_icmp .le (-31), 3) := by decide +kernel
theorem dX9_sum_48 : decode cX9_sum 48 = .ok (.aload_n 0, 1) := by decide +kernel
theorem dX9_sum_49 : decode cX9_sum 49 = .ok (.iconst 5, 1) := by decide +kernel
theorem dX9_sum_50 : decode cX9_sum 50 = .ok (.aload_n 0, 1) := by decide +kernel
theorem dX9_sum_51 : decode cX9_sum 51 = .ok (.getfield 141, 3) := by decide +kernel
theorem dX9_sum_54 : decode cX9_sum 54 = .ok (.invokevirtual 174, 3) := by decide +kernel
theorem dX9_sum_57 : decode cX9_sum 57 = .ok (.ireturn, 1) := by decide +kernel
theorem dX9_sum_58 : decode cX9_sum 58 = .ok (.iconst 1, 1) := by decide +kernel
theorem dX9_sum_59 : decode cX9_sum 59 = .ok (.ireturn, 1) := by decide +kernel
theorem dX9_product_0 : decode cX9_product 0 = .ok (.aload_n 0, 1) := by decide +kernel
theorem dX9_product_1 : decode cX9_product 1 = .ok (.getfield 206, 3) := by decide +kernel
theorem dX9_product_4 : decode cX9_product 4 = .ok (.istore_n 1, 1) := by decide +kernel
theorem dX9_product_5 : decode cX9_product 5 = .ok (.aload_n 0, 1) := by decide +kernel
theorem dX9_product_6 : decode cX9_product 6 = .ok (.invokevirtual 212, 3) := by decide +kernel
theorem dX9_product_9 : decode cX9_product 9 = .ok (.ifCond .ne 5, 3) := by decide +kernel
theorem dX9_product_12 : decode cX9_product 12 = .ok (.iconst 0, 1) := by decide +kernel
theorem dX9_product_13 : decode cX9_product 13 = .ok (.ireturn, 1) := by decide +kernel
theorem dX9_product_14 : decode cX9_product 14 = .ok (.aload_n 0, 1) := by decide +kernel
theorem dX9_product_15 : decode cX9_product 15 = .ok (.bipush 42, 2) := by decide +kernel
theorem dX9_product_17 : decode cX9_product 17 = .ok (.invokevirtual 181, 3) := by decide +kernel
theorem dX9_product_20 : decode cX9_product 20 = .ok (.ifCond .eq 101, 3) := by decide +kernel
theorem dX9_product_23 : decode cX9_product 23 = .ok (.aload_n 0, 1) := by decide +kernel
theorem dX9_product_24 : decode cX9_product 24 = .ok (.invokevirtual 178, 3) := by decide +kernel
theorem dX9_product_27 : decode cX9_product 27 = .ok (.aload_n 0, 1) := by decide +kernel
theorem dX9_product_28 : decode cX9_product 28 = .ok (.iconst 1, 1) := by decide +kernel
theorem dX9_product_29 : decode cX9_product 29 = .ok (.sipush 600, 3) := by decide +kernel
theorem dX9_product_32 : decode cX9_product 32 = .ok (.iconst 4, 1) := by decide +kernel
theorem dX9_product_33 : decode cX9_product 33 = .ok (.invokevirtual 215, 3) := by decide +kernel
theorem dX9_product_36 : decode cX9_product 36 = .ok (.ifCond .ne 5, 3) := by decide +kernel
theorem dX9_product_39 : decode cX9_product 39 = .ok (.iconst 0, 1) := by decide +kernel
theorem dX9_product_40 : decode cX9_product 40 = .ok (.ireturn, 1) := by decide +kernel
theorem dX9_product_41 : decode cX9_product 41 = .ok (.aload_n 0, 1) := by decide +kernel
theorem dX9_product_42 : decode cX9_product 42 = .ok (.getfield 206, 3) := by decide +kernel
theorem dX9_product_45 : decode cX9_product 45 = .ok (.iload_n 1, 1) := by decide +kernel
theorem dX9_product_46 : decode cX9_product 46 = .ok (.isub, 1) := by decide +kernel
theorem dX9_product_47 : decode cX9_product 47 = .ok (.istore_n 2, 1) := by decide +kernel
theorem dX9_product_48 : decode cX9_product 48 = .ok (.iload_n 2, 1) := by decide +kernel
theorem dX9_product_49 : decode cX9_product 49 = .ok (.aload_n 0, 1) := by decide +kernel
theorem dX9_product_50 : decode cX9_product 50 = .ok (.getfield 161, 3) := by decide +kernel
theorem dX9_product_53 : decode cX9_product 53 = .ok (.imul, 1) := by decide +kernel
theorem dX9_product_54 : decode cX9_product 54 = .ok (.sipush 600, 3) := by decide +kernel
theorem dX9_product_57 : decode cX9_product 57 = .ok (.if_icmp .le 9, 3) := by decide +kernel
theorem dX9_product_60 : decode cX9_product 60 = .ok (.aload_n 0, 1) := by decide +kernel
theorem dX9_product_61 : decode cX9_product 61 = .ok (.iconst 5, 1) := by decide +kernel
theorem dX9_product_62 : decode cX9_product 62 = .ok (.invokevirtual 188, 3) := by decide +kernel
theorem dX9_product_65 : decode cX9_product 65 = .ok (.ireturn, 1) := by decide +kernel
theorem dX9_product_66 : decode cX9_product 66 = .ok (.iload_n 2, 1) := by decide +kernel
theorem dX9_product_67 : decode cX9_product 67 = .ok (.istore_n 3, 1) := by decide +kernel
theorem dX9_product_68 : decode cX9_product 68 = .ok (.iload_n 3, 1) := by decide +kernel
theorem dX9_product_69 : decode cX9_product 69 = .ok (.iload_n 2, 1) := by decide +kernel
theorem dX9_product_70 : decode cX9_product 70 = .ok (.aload_n 0, 1) := by decide +kernel
theorem dX9_product_71 : decode cX9_product 71 = .ok (.getfield 161, 3) := by decide +kernel
theorem dX9_product_74 : decode cX9_product 74 = .ok (.imul, 1) := by decide +kernel
theorem dX9_product_75 : decode cX9_product 75 = .ok (.if_icmp .ge 27, 3) := by decide +kernel
theorem dX9_product_78 : decode cX9_product 78 = .ok (.aload_n 0, 1) := by decide +kernel
theorem dX9_product_79 : decode cX9_product 79 = .ok (.getfield 74, 3) := by decide +kernel
theorem dX9_product_82 : decode cX9_product 82 = .ok (.iload_n 1, 1) := by decide +kernel
theorem dX9_product_83 : decode cX9_product 83 = .ok (.iload_n 3, 1) := by decide +kernel
theorem dX9_product_84 : decode cX9_product 84 = .ok (.iadd, 1) := by decide +kernel
theorem dX9_product_85 : decode cX9_product 85 = .ok (.aload_n 0, 1) := by decide +kernel
theorem dX9_product_86 : decode cX9_product 86 = .ok (.getfield 74, 3) := by decide +kernel
theorem dX9_product_89 : decode cX9_product 89 = .ok (.iload_n 1, 1) := by decide +kernel
theorem dX9_product_90 : decode cX9_product 90 = .ok (.iload_n 3, 1) := by decide +kernel
theorem dX9_product_91 : decode cX9_product 91 = .ok (.iadd, 1) := by decide +kernel
theorem dX9_product_92 : decode cX9_product 92 = .ok (.iload_n 2, 1) := by decide +kernel
theorem dX9_product_93 : decode cX9_product 93 = .ok (.isub, 1) := by decide +kernel
theorem dX9_product_94 : decode cX9_product 94 = .ok (.iaload, 1) := by decide +kernel
theorem dX9_product_95 : decode cX9_product 95 = .ok (.iastore, 1) := by decide +kernel
theorem dX9_product_96 : decode cX9_product 96 = .ok (.iinc 3 1, 3) := by decide +kernel
theorem dX9_product_99 : decode cX9_product 99 = .ok (.goto (-31), 3) := by decide +kernel
theorem dX9_product_102 : decode cX9_product 102 = .ok (.aload_n 0, 1) := by decide +kernel
theorem dX9_product_103 : decode cX9_product 103 = .ok (.iload_n 1, 1) := by decide +kernel
theorem dX9_product_104 : decode cX9_product 104 = .ok (.iload_n 2, 1) := by decide +kernel
theorem dX9_product_105 : decode cX9_product 105 = .ok (.aload_n 0, 1) := by decide +kernel
theorem dX9_product_106 : decode cX9_product 106 = .ok (.getfield 161, 3) := by decide +kernel
theorem dX9_product_109 : decode cX9_product 109 = .ok (.imul, 1) := by decide +kernel
theorem dX9_product_110 : decode cX9_product 110 = .ok (.iadd, 1) := by decide +kernel
theorem dX9_product_111 : decode cX9_product 111 = .ok (.putfield 206, 3) := by decide +kernel
theorem dX9_product_114 : decode cX9_product 114 = .ok (.aload_n 0, 1) := by decide +kernel
theorem dX9_product_115 : decode cX9_product 115 = .ok (.invokevirtual 178, 3) := by decide +kernel
theorem dX9_product_118 : decode cX9_product 118 = .ok (.goto (-104), 3) := by decide +kernel
theorem dX9_product_121 : decode cX9_product 121 = .ok (.iconst 1, 1) := by decide +kernel
theorem dX9_product_122 : decode cX9_product 122 = .ok (.ireturn, 1) := by decide +kernel
theorem dX9_unit_0 : decode cX9_unit 0 = .ok (.aload_n 0, 1) := by decide +kernel
theorem dX9_unit_1 : decode cX9_unit 1 = .ok (.getfield 206, 3) := by decide +kernel
theorem dX9_unit_4 : decode cX9_unit 4 = .ok (.istore_n 1, 1) := by decide +kernel
theorem dX9_unit_5 : decode cX9_unit 5 = .ok (.aload_n 0, 1) := by decide +kernel
theorem dX9_unit_6 : decode cX9_unit 6 = .ok (.invokevirtual 218, 3) := by decide +kernel
theorem dX9_unit_9 : decode cX9_unit 9 = .ok (.ifCond .ne 5, 3) := by decide +kernel
theorem dX9_unit_12 : decode cX9_unit 12 = .ok (.iconst 0, 1) := by decide +kernel
theorem dX9_unit_13 : decode cX9_unit 13 = .ok (.ireturn, 1) := by decide +kernel
theorem dX9_unit_14 : decode cX9_unit 14 = .ok (.aload_n 0, 1) := by decide +kernel
theorem dX9_unit_15 : decode cX9_unit 15 = .ok (.bipush 91, 2) := by decide +kernel
theorem dX9_unit_17 : decode cX9_unit 17 = .ok (.invokevirtual 181, 3) := by decide +kernel
theorem dX9_unit_20 : decode cX9_unit 20 = .ok (.ifCond .eq 125, 3) := by decide +kernel
theorem dX9_unit_23 : decode cX9_unit 23 = .ok (.aload_n 0, 1) := by decide +kernel
theorem dX9_unit_24 : decode cX9_unit 24 = .ok (.invokevirtual 178, 3) := by decide +kernel
theorem dX9_unit_27 : decode cX9_unit 27 = .ok (.aload_n 0, 1) := by decide +kernel
theorem dX9_unit_28 : decode cX9_unit 28 = .ok (.iconst 0, 1) := by decide +kernel
theorem dX9_unit_29 : decode cX9_unit 29 = .ok (.aload_n 0, 1) := by decide +kernel
theorem dX9_unit_30 : decode cX9_unit 30 = .ok (.getfield 206, 3) := by decide +kernel
theorem dX9_unit_33 : decode cX9_unit 33 = .ok (.iload_n 1, 1) := by decide +kernel
theorem dX9_unit_34 : decode cX9_unit 34 = .ok (.isub, 1) := by decide +kernel
theorem dX9_unit_35 : decode cX9_unit 35 = .ok (.iconst 1, 1) := by decide +kernel
theorem dX9_unit_36 : decode cX9_unit 36 = .ok (.isub, 1) := by decide +kernel
theorem dX9_unit_37 : decode cX9_unit 37 = .ok (.iconst 4, 1) := by decide +kernel
theorem dX9_unit_38 : decode cX9_unit 38 = .ok (.invokevirtual 215, 3) := by decide +kernel
theorem dX9_unit_41 : decode cX9_unit 41 = .ok (.ifCond .ne 5, 3) := by decide +kernel
theorem dX9_unit_44 : decode cX9_unit 44 = .ok (.iconst 0, 1) := by decide +kernel
theorem dX9_unit_45 : decode cX9_unit 45 = .ok (.ireturn, 1) := by decide +kernel
theorem dX9_unit_46 : decode cX9_unit 46 = .ok (.aload_n 0, 1) := by decide +kernel
theorem dX9_unit_47 : decode cX9_unit 47 = .ok (.getfield 161, 3) := by decide +kernel
theorem dX9_unit_50 : decode cX9_unit 50 = .ok (.istore_n 2, 1) := by decide +kernel
theorem dX9_unit_51 : decode cX9_unit 51 = .ok (.aload_n 0, 1) := by decide +kernel
theorem dX9_unit_52 : decode cX9_unit 52 = .ok (.invokevirtual 178, 3) := by decide +kernel
theorem dX9_unit_55 : decode cX9_unit 55 = .ok (.aload_n 0, 1) := by decide +kernel
theorem dX9_unit_56 : decode cX9_unit 56 = .ok (.bipush 44, 2) := by decide +kernel
theorem dX9_unit_58 : decode cX9_unit 58 = .ok (.invokevirtual 221, 3) := by decide +kernel
theorem dX9_unit_61 : decode cX9_unit 61 = .ok (.ifCond .eq 20, 3) := by decide +kernel
theorem dX9_unit_64 : decode cX9_unit 64 = .ok (.aload_n 0, 1) := by decide +kernel
theorem dX9_unit_65 : decode cX9_unit 65 = .ok (.iconst 1, 1) := by decide +kernel
theorem dX9_unit_66 : decode cX9_unit 66 = .ok (.aload_n 0, 1) := by decide +kernel
theorem dX9_unit_67 : decode cX9_unit 67 = .ok (.getfield 206, 3) := by decide +kernel
theorem dX9_unit_70 : decode cX9_unit 70 = .ok (.iload_n 1, 1) := by decide +kernel
theorem dX9_unit_71 : decode cX9_unit 71 = .ok (.isub, 1) := by decide +kernel
theorem dX9_unit_72 : decode cX9_unit 72 = .ok (.iload_n 2, 1) := by decide +kernel
theorem dX9_unit_73 : decode cX9_unit 73 = .ok (.isub, 1) := by decide +kernel
theorem dX9_unit_74 : decode cX9_unit 74 = .ok (.iconst 4, 1) := by decide +kernel
theorem dX9_unit_75 : decode cX9_unit 75 = .ok (.invokevirtual 215, 3) := by decide +kernel
theorem dX9_unit_78 : decode cX9_unit 78 = .ok (.ifCond .ne 5, 3) := by decide +kernel
theorem dX9_unit_81 : decode cX9_unit 81 = .ok (.iconst 0, 1) := by decide +kernel
theorem dX9_unit_82 : decode cX9_unit 82 = .ok (.ireturn, 1) := by decide +kernel
theorem dX9_unit_83 : decode cX9_unit 83 = .ok (.iconst 0, 1) := by decide +kernel
theorem dX9_unit_84 : decode cX9_unit 84 = .ok (.istore_n 3, 1) := by decide +kernel
theorem dX9_unit_85 : decode cX9_unit 85 = .ok (.iload_n 3, 1) := by decide +kernel
theorem dX9_unit_86 : decode cX9_unit 86 = .ok (.aload_n 0, 1) := by decide +kernel
theorem dX9_unit_87 : decode cX9_unit 87 = .ok (.getfield 161, 3) := by decide +kernel
theorem dX9_unit_90 : decode cX9_unit 90 = .ok (.if_icmp .ge 27, 3) := by decide +kernel
theorem dX9_unit_93 : decode cX9_unit 93 = .ok (.aload_n 0, 1) := by decide +kernel
theorem dX9_unit_94 : decode cX9_unit 94 = .ok (.getfield 74, 3) := by decide +kernel
theorem dX9_unit_97 : decode cX9_unit 97 = .ok (.iload_n 1, 1) := by decide +kernel
theorem dX9_unit_98 : decode cX9_unit 98 = .ok (.iload_n 3, 1) := by decide +kernel
theorem dX9_unit_99 : decode cX9_unit 99 = .ok (.iadd, 1) := by decide +kernel
theorem dX9_unit_100 : decode cX9_unit 100 = .ok (.aload_n 0, 1) := by decide +kernel
theorem dX9_unit_101 : decode cX9_unit 101 = .ok (.getfield 74, 3) := by decide +kernel
theorem dX9_unit_104 : decode cX9_unit 104 = .ok (.iload_n 1, 1) := by decide +kernel
theorem dX9_unit_105 : decode cX9_unit 105 = .ok (.iload_n 2, 1) := by decide +kernel
theorem dX9_unit_106 : decode cX9_unit 106 = .ok (.iadd, 1) := by decide +kernel
theorem dX9_unit_107 : decode cX9_unit 107 = .ok (.iload_n 3, 1) := by decide +kernel
theorem dX9_unit_108 : decode cX9_unit 108 = .ok (.iadd, 1) := by decide +kernel
theorem dX9_unit_109 : decode cX9_unit 109 = .ok (.iaload, 1) := by decide +kernel
theorem dX9_unit_110 : decode cX9_unit 110 = .ok (.iastore, 1) := by decide +kernel
theorem dX9_unit_111 : decode cX9_unit 111 = .ok (.iinc 3 1, 3) := by decide +kernel
theorem dX9_unit_114 : decode cX9_unit 114 = .ok (.goto (-29), 3) := by decide +kernel
theorem dX9_unit_117 : decode cX9_unit 117 = .ok (.aload_n 0, 1) := by decide +kernel
theorem dX9_unit_118 : decode cX9_unit 118 = .ok (.iload_n 1, 1) := by decide +kernel
theorem dX9_unit_119 : decode cX9_unit 119 = .ok (.aload_n 0, 1) := by decide +kernel
theorem dX9_unit_120 : decode cX9_unit 120 = .ok (.getfield 161, 3) := by decide +kernel
theorem dX9_unit_123 : decode cX9_unit 123 = .ok (.iadd, 1) := by decide +kernel
theorem dX9_unit_124 : decode cX9_unit 124 = .ok (.putfield 206, 3) := by decide +kernel
theorem dX9_unit_127 : decode cX9_unit 127 = .ok (.aload_n 0, 1) := by decide +kernel
theorem dX9_unit_128 : decode cX9_unit 128 = .ok (.invokevirtual 178, 3) := by decide +kernel
theorem dX9_unit_131 : decode cX9_unit 131 = .ok (.aload_n 0, 1) := by decide +kernel
theorem dX9_unit_132 : decode cX9_unit 132 = .ok (.bipush 93, 2) := by decide +kernel
theorem dX9_unit_134 : decode cX9_unit 134 = .ok (.invokevirtual 221, 3) := by decide +kernel
theorem dX9_unit_137 : decode cX9_unit 137 = .ok (.ifCond .ne 5, 3) := by decide +kernel
theorem dX9_unit_140 : decode cX9_unit 140 = .ok (.iconst 0, 1) := by decide +kernel
theorem dX9_unit_141 : decode cX9_unit 141 = .ok (.ireturn, 1) := by decide +kernel
theorem dX9_unit_142 : decode cX9_unit 142 = .ok (.goto (-128), 3) := by decide +kernel
theorem dX9_unit_145 : decode cX9_unit 145 = .ok (.iconst 1, 1) := by decide +kernel
theorem dX9_unit_146 : decode cX9_unit 146 = .ok (.ireturn, 1) := by decide +kernel
theorem dX9_quote_0 : decode cX9_quote 0 = .ok (.aload_n 0, 1) := by decide +kernel
theorem dX9_quote_1 : decode cX9_quote 1 = .ok (.getfield 144, 3) := by decide +kernel
theorem dX9_quote_4 : decode cX9_quote 4 = .ok (.aload_n 0, 1) := by decide +kernel
theorem dX9_quote_5 : decode cX9_quote 5 = .ok (.getfield 138, 3) := by decide +kernel
theorem dX9_quote_8 : decode cX9_quote 8 = .ok (.isub, 1) := by decide +kernel
theorem dX9_quote_9 : decode cX9_quote 9 = .ok (.iconst 2, 1) := by decide +kernel
theorem dX9_quote_10 : decode cX9_quote 10 = .ok (.isub, 1) := by decide +kernel
theorem dX9_quote_11 : decode cX9_quote 11 = .ok (.istore_n 1, 1) := by decide +kernel
theorem dX9_quote_12 : decode cX9_quote 12 = .ok (.iload_n 1, 1) := by decide +kernel
theorem dX9_quote_13 : decode cX9_quote 13 = .ok (.sipush 600, 3) := by decide +kernel
theorem dX9_quote_16 : decode cX9_quote 16 = .ok (.if_icmp .le 9, 3) := by decide +kernel
theorem dX9_quote_19 : decode cX9_quote 19 = .ok (.aload_n 0, 1) := by decide +kernel
theorem dX9_quote_20 : decode cX9_quote 20 = .ok (.iconst 5, 1) := by decide +kernel
theorem dX9_quote_21 : decode cX9_quote 21 = .ok (.invokevirtual 188, 3) := by decide +kernel
theorem dX9_quote_24 : decode cX9_quote 24 = .ok (.ireturn, 1) := by decide +kernel
theorem dX9_quote_25 : decode cX9_quote 25 = .ok (.iconst 0, 1) := by decide +kernel
theorem dX9_quote_26 : decode cX9_quote 26 = .ok (.istore_n 2, 1) := by decide +kernel
theorem dX9_quote_27 : decode cX9_quote 27 = .ok (.iload_n 2, 1) := by decide +kernel
theorem dX9_quote_28 : decode cX9_quote 28 = .ok (.iload_n 1, 1) := by decide +kernel
theorem dX9_quote_29 : decode cX9_quote 29 = .ok (.if_icmp .ge 35, 3) := by decide +kernel
theorem dX9_quote_32 : decode cX9_quote 32 = .ok (.aload_n 0, 1) := by decide +kernel
theorem dX9_quote_33 : decode cX9_quote 33 = .ok (.getfield 74, 3) := by decide +kernel
theorem dX9_quote_36 : decode cX9_quote 36 = .ok (.aload_n 0, 1) := by decide +kernel
theorem dX9_quote_37 : decode cX9_quote 37 = .ok (.getfield 206, 3) := by decide +kernel
theorem dX9_quote_40 : decode cX9_quote 40 = .ok (.iload_n 2, 1) := by decide +kernel
theorem dX9_quote_41 : decode cX9_quote 41 = .ok (.iadd, 1) := by decide +kernel
theorem dX9_quote_42 : decode cX9_quote 42 = .ok (.aload_n 0, 1) := by decide +kernel
theorem dX9_quote_43 : decode cX9_quote 43 = .ok (.aload_n 0, 1) := by decide +kernel
theorem dX9_quote_44 : decode cX9_quote 44 = .ok (.getfield 138, 3) := by decide +kernel
theorem dX9_quote_47 : decode cX9_quote 47 = .ok (.iconst 1, 1) := by decide +kernel
theorem dX9_quote_48 : decode cX9_quote 48 = .ok (.iadd, 1) := by decide +kernel
theorem dX9_quote_49 : decode cX9_quote 49 = .ok (.iload_n 2, 1) := by decide +kernel
theorem dX9_quote_50 : decode cX9_quote 50 = .ok (.iadd, 1) := by decide +kernel
theorem dX9_quote_51 : decode cX9_quote 51 = .ok (.invokevirtual 147, 3) := by decide +kernel
theorem dX9_quote_54 : decode cX9_quote 54 = .ok (.bipush 97, 2) := by decide +kernel
theorem dX9_quote_56 : decode cX9_quote 56 = .ok (.isub, 1) := by decide +kernel
theorem dX9_quote_57 : decode cX9_quote 57 = .ok (.iastore, 1) := by decide +kernel
theorem dX9_quote_58 : decode cX9_quote 58 = .ok (.iinc 2 1, 3) := by decide +kernel
theorem dX9_quote_61 : decode cX9_quote 61 = .ok (.goto (-34), 3) := by decide +kernel
theorem dX9_quote_64 : decode cX9_quote 64 = .ok (.aload_n 0, 1) := by decide +kernel
theorem dX9_quote_65 : decode cX9_quote 65 = .ok (.dup, 1) := by decide +kernel
theorem dX9_quote_66 : decode cX9_quote 66 = .ok (.getfield 206, 3) := by decide +kernel
theorem dX9_quote_69 : decode cX9_quote 69 = .ok (.iload_n 1, 1) := by decide +kernel
theorem dX9_quote_70 : decode cX9_quote 70 = .ok (.iadd, 1) := by decide +kernel
theorem dX9_quote_71 : decode cX9_quote 71 = .ok (.putfield 206, 3) := by decide +kernel
theorem dX9_quote_74 : decode cX9_quote 74 = .ok (.aload_n 0, 1) := by decide +kernel
theorem dX9_quote_75 : decode cX9_quote 75 = .ok (.invokevirtual 184, 3) := by decide +kernel
theorem dX9_quote_78 : decode cX9_quote 78 = .ok (.ireturn, 1) := by decide +kernel
theorem dX9_core_0 : decode cX9_core 0 = .ok (.aload_n 0, 1) := by decide +kernel
theorem dX9_core_1 : decode cX9_core 1 = .ok (.getfield 206, 3) := by decide +kernel
theorem dX9_core_4 : decode cX9_core 4 = .ok (.istore_n 1, 1) := by decide +kernel
theorem dX9_core_5 : decode cX9_core 5 = .ok (.aload_n 0, 1) := by decide +kernel
theorem dX9_core_6 : decode cX9_core 6 = .ok (.getfield 151, 3) := by decide +kernel
theorem dX9_core_9 : decode cX9_core 9 = .ok (.iconst 4, 1) := by decide +kernel
theorem dX9_core_10 : decode cX9_core 10 = .ok (.if_icmp .ne 8, 3) := by decide +kernel
theorem dX9_core_13 : decode cX9_core 13 = .ok (.aload_n 0, 1) := by decide +kernel
theorem dX9_core_14 : decode cX9_core 14 = .ok (.invokevirtual 224, 3) := by decide +kernel
theorem dX9_core_17 : decode cX9_core 17 = .ok (.ireturn, 1) := by decide +kernel
theorem dX9_core_18 : decode cX9_core 18 = .ok (.aload_n 0, 1) := by decide +kernel
theorem dX9_core_19 : decode cX9_core 19 = .ok (.bipush 35, 2) := by decide +kernel
theorem dX9_core_21 : decode cX9_core 21 = .ok (.invokevirtual 181, 3) := by decide +kernel
theorem dX9_core_24 : decode cX9_core 24 = .ok (.ifCond .eq 86, 3) := by decide +kernel
theorem dX9_core_27 : decode cX9_core 27 = .ok (.aload_n 0, 1) := by decide +kernel
theorem dX9_core_28 : decode cX9_core 28 = .ok (.invokevirtual 178, 3) := by decide +kernel
theorem dX9_core_31 : decode cX9_core 31 = .ok (.aload_n 0, 1) := by decide +kernel
theorem dX9_core_32 : decode cX9_core 32 = .ok (.iconst 0, 1) := by decide +kernel
theorem dX9_core_33 : decode cX9_core 33 = .ok (.aload_n 0, 1) := by decide +kernel
theorem dX9_core_34 : decode cX9_core 34 = .ok (.invokevirtual 80, 3) := by decide +kernel
theorem dX9_core_37 : decode cX9_core 37 = .ok (.iconst 1, 1) := by decide +kernel
theorem dX9_core_38 : decode cX9_core 38 = .ok (.isub, 1) := by decide +kernel
theorem dX9_core_39 : decode cX9_core 39 = .ok (.iconst 3, 1) := by decide +kernel
theorem dX9_core_40 : decode cX9_core 40 = .ok (.invokevirtual 215, 3) := by decide +kernel
theorem dX9_core_43 : decode cX9_core 43 = .ok (.ifCond .ne 5, 3) := by decide +kernel
theorem dX9_core_46 : decode cX9_core 46 = .ok (.iconst 0, 1) := by decide +kernel
theorem dX9_core_47 : decode cX9_core 47 = .ok (.ireturn, 1) := by decide +kernel
theorem dX9_core_48 : decode cX9_core 48 = .ok (.iconst 0, 1) := by decide +kernel
theorem dX9_core_49 : decode cX9_core 49 = .ok (.istore_n 2, 1) := by decide +kernel
theorem dX9_core_50 : decode cX9_core 50 = .ok (.iload_n 2, 1) := by decide +kernel
theorem dX9_core_51 : decode cX9_core 51 = .ok (.aload_n 0, 1) := by decide +kernel
theorem dX9_core_52 : decode cX9_core 52 = .ok (.aload_n 0, 1) := by decide +kernel
theorem dX9_core_53 : decode cX9_core 53 = .ok (.getfield 161, 3) := by decide +kernel
theorem dX9_core_56 : decode cX9_core 56 = .ok (.invokevirtual 227, 3) := by decide +kernel
theorem dX9_core_59 : decode cX9_core 59 = .ok (.if_icmp .ge 29, 3) := by decide +kernel
theorem dX9_core_62 : decode cX9_core 62 = .ok (.aload_n 0, 1) := by decide +kernel
theorem dX9_core_63 : decode cX9_core 63 = .ok (.getfield 74, 3) := by decide +kernel
theorem dX9_core_66 : decode cX9_core 66 = .ok (.aload_n 0, 1) := by decide +kernel
theorem dX9_core_67 : decode cX9_core 67 = .ok (.getfield 206, 3) := by decide +kernel
theorem dX9_core_70 : decode cX9_core 70 = .ok (.iload_n 2, 1) := by decide +kernel
theorem dX9_core_71 : decode cX9_core 71 = .ok (.iadd, 1) := by decide +kernel
theorem dX9_core_72 : decode cX9_core 72 = .ok (.aload_n 0, 1) := by decide +kernel
theorem dX9_core_73 : decode cX9_core 73 = .ok (.aload_n 0, 1) := by decide +kernel
theorem dX9_core_74 : decode cX9_core 74 = .ok (.getfield 161, 3) := by decide +kernel
theorem dX9_core_77 : decode cX9_core 77 = .ok (.iload_n 2, 1) := by decide +kernel
theorem dX9_core_78 : decode cX9_core 78 = .ok (.invokevirtual 230, 3) := by decide +kernel
theorem dX9_core_81 : decode cX9_core 81 = .ok (.iastore, 1) := by decide +kernel
theorem dX9_core_82 : decode cX9_core 82 = .ok (.iinc 2 1, 3) := by decide +kernel
theorem dX9_core_85 : decode cX9_core 85 = .ok (.goto (-35), 3) := by decide +kernel
theorem dX9_core_88 : decode cX9_core 88 = .ok (.aload_n 0, 1) := by decide +kernel
theorem dX9_core_89 : decode cX9_core 89 = .ok (.dup, 1) := by decide +kernel
theorem dX9_core_90 : decode cX9_core 90 = .ok (.getfield 206, 3) := by decide +kernel
theorem dX9_core_93 : decode cX9_core 93 = .ok (.aload_n 0, 1) := by decide +kernel
theorem dX9_core_94 : decode cX9_core 94 = .ok (.aload_n 0, 1) := by decide +kernel
theorem dX9_core_95 : decode cX9_core 95 = .ok (.getfield 161, 3) := by decide +kernel
theorem dX9_core_98 : decode cX9_core 98 = .ok (.invokevirtual 227, 3) := by decide +kernel
theorem dX9_core_101 : decode cX9_core 101 = .ok (.iadd, 1) := by decide +kernel
theorem dX9_core_102 : decode cX9_core 102 = .ok (.putfield 206, 3) := by decide +kernel
theorem dX9_core_105 : decode cX9_core 105 = .ok (.aload_n 0, 1) := by decide +kernel
theorem dX9_core_106 : decode cX9_core 106 = .ok (.invokevirtual 184, 3) := by decide +kernel
theorem dX9_core_109 : decode cX9_core 109 = .ok (.ireturn, 1) := by decide +kernel
theorem dX9_core_110 : decode cX9_core 110 = .ok (.aload_n 0, 1) := by decide +kernel
theorem dX9_core_111 : decode cX9_core 111 = .ok (.bipush 40, 2) := by decide +kernel
theorem dX9_core_113 : decode cX9_core 113 = .ok (.invokevirtual 181, 3) := by decide +kernel
theorem dX9_core_116 : decode cX9_core 116 = .ok (.ifCond .eq 39, 3) := by decide +kernel
theorem dX9_core_119 : decode cX9_core 119 = .ok (.aload_n 0, 1) := by decide +kernel
theorem dX9_core_120 : decode cX9_core 120 = .ok (.invokevirtual 233, 3) := by decide +kernel
theorem dX9_core_123 : decode cX9_core 123 = .ok (.ifCond .eq 30, 3) := by decide +kernel
theorem dX9_core_126 : decode cX9_core 126 = .ok (.aload_n 0, 1) := by decide +kernel
theorem dX9_core_127 : decode cX9_core 127 = .ok (.invokevirtual 236, 3) := by decide +kernel
theorem dX9_core_130 : decode cX9_core 130 = .ok (.ifCond .eq 23, 3) := by decide +kernel
theorem dX9_core_133 : decode cX9_core 133 = .ok (.aload_n 0, 1) := by decide +kernel
theorem dX9_core_134 : decode cX9_core 134 = .ok (.bipush 41, 2) := by decide +kernel
theorem dX9_core_136 : decode cX9_core 136 = .ok (.invokevirtual 221, 3) := by decide +kernel
theorem dX9_core_139 : decode cX9_core 139 = .ok (.ifCond .eq 14, 3) := by decide +kernel
theorem dX9_core_142 : decode cX9_core 142 = .ok (.aload_n 0, 1) := by decide +kernel
theorem dX9_core_143 : decode cX9_core 143 = .ok (.invokevirtual 239, 3) := by decide +kernel
theorem dX9_core_146 : decode cX9_core 146 = .ok (.ifCond .eq 7, 3) := by decide +kernel
theorem dX9_core_149 : decode cX9_core 149 = .ok (.iconst 1, 1) := by decide +kernel
theorem dX9_core_150 : decode cX9_core 150 = .ok (.goto 4, 3) := by decide +kernel
theorem dX9_core_153 : decode cX9_core 153 = .ok (.iconst 0, 1) := by decide +kernel
theorem dX9_core_154 : decode cX9_core 154 = .ok (.ireturn, 1) := by decide +kernel
theorem dX9_core_155 : decode cX9_core 155 = .ok (.aload_n 0, 1) := by decide +kernel
theorem dX9_core_156 : decode cX9_core 156 = .ok (.bipush 126, 2) := by decide +kernel
theorem dX9_core_158 : decode cX9_core 158 = .ok (.invokevirtual 181, 3) := by decide +kernel
theorem dX9_core_161 : decode cX9_core 161 = .ok (.ifCond .ne 9, 3) := by decide +kernel
theorem dX9_core_164 : decode cX9_core 164 = .ok (.aload_n 0, 1) := by decide +kernel
theorem dX9_core_165 : decode cX9_core 165 = .ok (.iconst 2, 1) := by decide +kernel
theorem dX9_core_166 : decode cX9_core 166 = .ok (.invokevirtual 188, 3) := by decide +kernel
theorem dX9_core_169 : decode cX9_core 169 = .ok (.ireturn, 1) := by decide +kernel
theorem dX9_core_170 : decode cX9_core 170 = .ok (.aload_n 0, 1) := by decide +kernel
theorem dX9_core_171 : decode cX9_core 171 = .ok (.invokevirtual 233, 3) := by decide +kernel
theorem dX9_core_174 : decode cX9_core 174 = .ok (.ifCond .eq 10, 3) := by decide +kernel
theorem dX9_core_177 : decode cX9_core 177 = .ok (.aload_n 0, 1) := by decide +kernel
theorem dX9_core_178 : decode cX9_core 178 = .ok (.invokevirtual 218, 3) := by decide +kernel
theorem dX9_core_181 : decode cX9_core 181 = .ok (.ifCond .ne 5, 3) := by decide +kernel
theorem dX9_core_184 : decode cX9_core 184 = .ok (.iconst 0, 1) := by decide +kernel
theorem dX9_core_185 : decode cX9_core 185 = .ok (.ireturn, 1) := by decide +kernel
theorem dX9_core_186 : decode cX9_core 186 = .ok (.iload_n 1, 1) := by decide +kernel
theorem dX9_core_187 : decode cX9_core 187 = .ok (.istore_n 2, 1) := by decide +kernel
theorem dX9_core_188 : decode cX9_core 188 = .ok (.aload_n 0, 1) := by decide +kernel
theorem dX9_core_189 : decode cX9_core 189 = .ok (.getfield 206, 3) := by decide +kernel
theorem dX9_core_192 : decode cX9_core 192 = .ok (.iconst 1, 1) := by decide +kernel
theorem dX9_core_193 : decode cX9_core 193 = .ok (.isub, 1) := by decide +kernel
theorem dX9_core_194 : decode cX9_core 194 = .ok (.istore_n 3, 1) := by decide +kernel
theorem dX9_core_195 : decode cX9_core 195 = .ok (.iload_n 2, 1) := by decide +kernel
theorem dX9_core_196 : decode cX9_core 196 = .ok (.iload_n 3, 1) := by decide +kernel
theorem dX9_core_197 : decode cX9_core 197 = .ok (.if_icmp .ge 40, 3) := by decide +kernel
theorem dX9_core_200 : decode cX9_core 200 = .ok (.aload_n 0, 1) := by decide +kernel
theorem dX9_core_201 : decode cX9_core 201 = .ok (.getfield 74, 3) := by decide +kernel
theorem dX9_core_204 : decode cX9_core 204 = .ok (.iload_n 2, 1) := by decide +kernel
theorem dX9_core_205 : decode cX9_core 205 = .ok (.iaload, 1) := by decide +kernel
theorem dX9_core_206 : decode cX9_core 206 = .ok (.istore 4, 2) := by decide +kernel
theorem dX9_core_208 : decode cX9_core 208 = .ok (.aload_n 0, 1) := by decide +kernel
theorem dX9_core_209 : decode cX9_core 209 = .ok (.getfield 74, 3) := by decide +kernel
theorem dX9_core_212 : decode cX9_core 212 = .ok (.iload_n 2, 1) := by decide +kernel
theorem dX9_core_213 : decode cX9_core 213 = .ok (.aload_n 0, 1) := by decide +kernel
theorem dX9_core_214 : decode cX9_core 214 = .ok (.getfield 74, 3) := by decide +kernel
theorem dX9_core_217 : decode cX9_core 217 = .ok (.iload_n 3, 1) := by decide +kernel
theorem dX9_core_218 : decode cX9_core 218 = .ok (.iaload, 1) := by decide +kernel
theorem dX9_core_219 : decode cX9_core 219 = .ok (.iastore, 1) := by decide +kernel
theorem dX9_core_220 : decode cX9_core 220 = .ok (.aload_n 0, 1) := by decide +kernel
theorem dX9_core_221 : decode cX9_core 221 = .ok (.getfield 74, 3) := by decide +kernel
theorem dX9_core_224 : decode cX9_core 224 = .ok (.iload_n 3, 1) := by decide +kernel
theorem dX9_core_225 : decode cX9_core 225 = .ok (.iload 4, 2) := by decide +kernel
theorem dX9_core_227 : decode cX9_core 227 = .ok (.iastore, 1) := by decide +kernel
theorem dX9_core_228 : decode cX9_core 228 = .ok (.iinc 2 1, 3) := by decide +kernel
theorem dX9_core_231 : decode cX9_core 231 = .ok (.iinc 3 (-1), 3) := by decide +kernel
theorem dX9_core_234 : decode cX9_core 234 = .ok (.goto (-39), 3) := by decide +kernel
theorem dX9_core_237 : decode cX9_core 237 = .ok (.aload_n 0, 1) := by decide +kernel
theorem dX9_core_238 : decode cX9_core 238 = .ok (.invokevirtual 239, 3) := by decide +kernel
theorem dX9_core_241 : decode cX9_core 241 = .ok (.ireturn, 1) := by decide +kernel
theorem dX9_puts_0 : decode cX9_puts 0 = .ok (.aload_n 0, 1) := by decide +kernel
theorem dX9_puts_1 : decode cX9_puts 1 = .ok (.getfield 8, 3) := by decide +kernel
theorem dX9_puts_4 : decode cX9_puts 4 = .ok (.iconst 1, 1) := by decide +kernel
theorem dX9_puts_5 : decode cX9_puts 5 = .ok (.iload_n 1, 1) := by decide +kernel
theorem dX9_puts_6 : decode cX9_puts 6 = .ok (.iadd, 1) := by decide +kernel
theorem dX9_puts_7 : decode cX9_puts 7 = .ok (.aload_n 0, 1) := by decide +kernel
theorem dX9_puts_8 : decode cX9_puts 8 = .ok (.getfield 206, 3) := by decide +kernel
theorem dX9_puts_11 : decode cX9_puts 11 = .ok (.iastore, 1) := by decide +kernel
theorem dX9_puts_12 : decode cX9_puts 12 = .ok (.iconst 0, 1) := by decide +kernel
theorem dX9_puts_13 : decode cX9_puts 13 = .ok (.istore_n 2, 1) := by decide +kernel
theorem dX9_puts_14 : decode cX9_puts 14 = .ok (.iload_n 2, 1) := by decide +kernel
theorem dX9_puts_15 : decode cX9_puts 15 = .ok (.aload_n 0, 1) := by decide +kernel
theorem dX9_puts_16 : decode cX9_puts 16 = .ok (.getfield 206, 3) := by decide +kernel
theorem dX9_puts_19 : decode cX9_puts 19 = .ok (.if_icmp .ge 30, 3) := by decide +kernel
theorem dX9_puts_22 : decode cX9_puts 22 = .ok (.aload_n 0, 1) := by decide +kernel
theorem dX9_puts_23 : decode cX9_puts 23 = .ok (.getfield 8, 3) := by decide +kernel
theorem dX9_puts_26 : decode cX9_puts 26 = .ok (.bipush 9, 2) := by decide +kernel
theorem dX9_puts_28 : decode cX9_puts 28 = .ok (.sipush 600, 3) := by decide +kernel
theorem dX9_puts_31 : decode cX9_puts 31 = .ok (.iload_n 1, 1) := by decide +kernel
theorem dX9_puts_32 : decode cX9_puts 32 = .ok (.imul, 1) := by decide +kernel
theorem dX9_puts_33 : decode cX9_puts 33 = .ok (.iadd, 1) := by decide +kernel
theorem dX9_puts_34 : decode cX9_puts 34 = .ok (.iload_n 2, 1) := by decide +kernel
theorem dX9_puts_35 : decode cX9_puts 35 = .ok (.iadd, 1) := by decide +kernel
theorem dX9_puts_36 : decode cX9_puts 36 = .ok (.aload_n 0, 1) := by decide +kernel
theorem dX9_puts_37 : decode cX9_puts 37 = .ok (.getfield 74, 3) := by decide +kernel
theorem dX9_puts_40 : decode cX9_puts 40 = .ok (.iload_n 2, 1) := by decide +kernel
theorem dX9_puts_41 : decode cX9_puts 41 = .ok (.iaload, 1) := by decide +kernel
theorem dX9_puts_42 : decode cX9_puts 42 = .ok (.iastore, 1) := by decide +kernel
theorem dX9_puts_43 : decode cX9_puts 43 = .ok (.iinc 2 1, 3) := by decide +kernel
theorem dX9_puts_46 : decode cX9_puts 46 = .ok (.goto (-32), 3) := by decide +kernel
theorem dX9_puts_49 : decode cX9_puts 49 = .ok (.return_, 1) := by decide +kernel
theorem dX9_aLine_0 : decode cX9_aLine 0 = .ok (.aload_n 0, 1) := by decide +kernel
theorem dX9_aLine_1 : decode cX9_aLine 1 = .ok (.iconst 0, 1) := by decide +kernel
theorem dX9_aLine_2 : decode cX9_aLine 2 = .ok (.putfield 206, 3) := by decide +kernel
theorem dX9_aLine_5 : decode cX9_aLine 5 = .ok (.aload_n 0, 1) := by decide +kernel
theorem dX9_aLine_6 : decode cX9_aLine 6 = .ok (.iconst 0, 1) := by decide +kernel
theorem dX9_aLine_7 : decode cX9_aLine 7 = .ok (.putfield 203, 3) := by decide +kernel
theorem dX9_aLine_10 : decode cX9_aLine 10 = .ok (.aload_n 0, 1) := by decide +kernel
theorem dX9_aLine_11 : decode cX9_aLine 11 = .ok (.invokevirtual 80, 3) := by decide +kernel
theorem dX9_aLine_14 : decode cX9_aLine 14 = .ok (.istore_n 1, 1) := by decide +kernel
theorem dX9_aLine_15 : decode cX9_aLine 15 = .ok (.aload_n 0, 1) := by decide +kernel
theorem dX9_aLine_16 : decode cX9_aLine 16 = .ok (.ldc 242, 2) := by decide +kernel
theorem dX9_aLine_18 : decode cX9_aLine 18 = .ok (.invokevirtual 243, 3) := by decide +kernel
theorem dX9_aLine_21 : decode cX9_aLine 21 = .ok (.ifCond .eq 23, 3) := by decide +kernel
theorem dX9_aLine_24 : decode cX9_aLine 24 = .ok (.iload_n 1, 1) := by decide +kernel
theorem dX9_aLine_25 : decode cX9_aLine 25 = .ok (.bipush 8, 2) := by decide +kernel
theorem dX9_aLine_27 : decode cX9_aLine 27 = .ok (.if_icmp .ne 10, 3) := by decide +kernel
theorem dX9_aLine_30 : decode cX9_aLine 30 = .ok (.aload_n 0, 1) := by decide +kernel
theorem dX9_aLine_31 : decode cX9_aLine 31 = .ok (.bipush 6, 2) := by decide +kernel
theorem dX9_aLine_33 : decode cX9_aLine 33 = .ok (.invokevirtual 188, 3) := by decide +kernel
theorem dX9_aLine_36 : decode cX9_aLine 36 = .ok (.ireturn, 1) := by decide +kernel
theorem dX9_aLine_37 : decode cX9_aLine 37 = .ok (.aload_n 0, 1) := by decide +kernel
theorem dX9_aLine_38 : decode cX9_aLine 38 = .ok (.invokevirtual 178, 3) := by decide +kernel
theorem dX9_aLine_41 : decode cX9_aLine 41 = .ok (.goto 59, 3) := by decide +kernel
theorem dX9_aLine_44 : decode cX9_aLine 44 = .ok (.aload_n 0, 1) := by decide +kernel
theorem dX9_aLine_45 : decode cX9_aLine 45 = .ok (.ldc 247, 2) := by decide +kernel
theorem dX9_aLine_47 : decode cX9_aLine 47 = .ok (.invokevirtual 243, 3) := by decide +kernel
theorem dX9_aLine_50 : decode cX9_aLine 50 = .ok (.ifCond .ne 9, 3) := by decide +kernel
theorem dX9_aLine_53 : decode cX9_aLine 53 = .ok (.aload_n 0, 1) := by decide +kernel
theorem dX9_aLine_54 : decode cX9_aLine 54 = .ok (.iconst 2, 1) := by decide +kernel
theorem dX9_aLine_55 : decode cX9_aLine 55 = .ok (.invokevirtual 188, 3) := by decide +kernel
theorem dX9_aLine_58 : decode cX9_aLine 58 = .ok (.ireturn, 1) := by decide +kernel
theorem dX9_aLine_59 : decode cX9_aLine 59 = .ok (.aload_n 0, 1) := by decide +kernel
theorem dX9_aLine_60 : decode cX9_aLine 60 = .ok (.invokevirtual 178, 3) := by decide +kernel
theorem dX9_aLine_63 : decode cX9_aLine 63 = .ok (.aload_n 0, 1) := by decide +kernel
theorem dX9_aLine_64 : decode cX9_aLine 64 = .ok (.iconst 0, 1) := by decide +kernel
theorem dX9_aLine_65 : decode cX9_aLine 65 = .ok (.aload_n 0, 1) := by decide +kernel
theorem dX9_aLine_66 : decode cX9_aLine 66 = .ok (.invokevirtual 80, 3) := by decide +kernel
theorem dX9_aLine_69 : decode cX9_aLine 69 = .ok (.iconst 1, 1) := by decide +kernel
theorem dX9_aLine_70 : decode cX9_aLine 70 = .ok (.isub, 1) := by decide +kernel
theorem dX9_aLine_71 : decode cX9_aLine 71 = .ok (.iconst 3, 1) := by decide +kernel
theorem dX9_aLine_72 : decode cX9_aLine 72 = .ok (.invokevirtual 215, 3) := by decide +kernel
theorem dX9_aLine_75 : decode cX9_aLine 75 = .ok (.ifCond .ne 5, 3) := by decide +kernel
theorem dX9_aLine_78 : decode cX9_aLine 78 = .ok (.iconst 0, 1) := by decide +kernel
theorem dX9_aLine_79 : decode cX9_aLine 79 = .ok (.ireturn, 1) := by decide +kernel
theorem dX9_aLine_80 : decode cX9_aLine 80 = .ok (.aload_n 0, 1) := by decide +kernel
theorem dX9_aLine_81 : decode cX9_aLine 81 = .ok (.getfield 161, 3) := by decide +kernel
theorem dX9_aLine_84 : decode cX9_aLine 84 = .ok (.istore_n 1, 1) := by decide +kernel
theorem dX9_aLine_85 : decode cX9_aLine 85 = .ok (.aload_n 0, 1) := by decide +kernel
theorem dX9_aLine_86 : decode cX9_aLine 86 = .ok (.invokevirtual 178, 3) := by decide +kernel
theorem dX9_aLine_89 : decode cX9_aLine 89 = .ok (.aload_n 0, 1) := by decide +kernel
theorem dX9_aLine_90 : decode cX9_aLine 90 = .ok (.bipush 61, 2) := by decide +kernel
theorem dX9_aLine_92 : decode cX9_aLine 92 = .ok (.invokevirtual 221, 3) := by decide +kernel
theorem dX9_aLine_95 : decode cX9_aLine 95 = .ok (.ifCond .ne 5, 3) := by decide +kernel
theorem dX9_aLine_98 : decode cX9_aLine 98 = .ok (.iconst 0, 1) := by decide +kernel
theorem dX9_aLine_99 : decode cX9_aLine 99 = .ok (.ireturn, 1) := by decide +kernel
theorem dX9_aLine_100 : decode cX9_aLine 100 = .ok (.aload_n 0, 1) := by decide +kernel
theorem dX9_aLine_101 : decode cX9_aLine 101 = .ok (.invokevirtual 236, 3) := by decide +kernel
theorem dX9_aLine_104 : decode cX9_aLine 104 = .ok (.ifCond .ne 5, 3) := by decide +kernel
theorem dX9_aLine_107 : decode cX9_aLine 107 = .ok (.iconst 0, 1) := by decide +kernel
theorem dX9_aLine_108 : decode cX9_aLine 108 = .ok (.ireturn, 1) := by decide +kernel
theorem dX9_aLine_109 : decode cX9_aLine 109 = .ok (.aload_n 0, 1) := by decide +kernel
theorem dX9_aLine_110 : decode cX9_aLine 110 = .ok (.iload_n 1, 1) := by decide +kernel
theorem dX9_aLine_111 : decode cX9_aLine 111 = .ok (.invokevirtual 249, 3) := by decide +kernel
theorem dX9_aLine_114 : decode cX9_aLine 114 = .ok (.aload_n 0, 1) := by decide +kernel
theorem dX9_aLine_115 : decode cX9_aLine 115 = .ok (.getfield 8, 3) := by decide +kernel
theorem dX9_aLine_118 : decode cX9_aLine 118 = .ok (.iconst 0, 1) := by decide +kernel
theorem dX9_aLine_119 : decode cX9_aLine 119 = .ok (.aload_n 0, 1) := by decide +kernel
theorem dX9_aLine_120 : decode cX9_aLine 120 = .ok (.invokevirtual 80, 3) := by decide +kernel
theorem dX9_aLine_123 : decode cX9_aLine 123 = .ok (.iload_n 1, 1) := by decide +kernel
theorem dX9_aLine_124 : decode cX9_aLine 124 = .ok (.iconst 1, 1) := by decide +kernel
theorem dX9_aLine_125 : decode cX9_aLine 125 = .ok (.iadd, 1) := by decide +kernel
theorem dX9_aLine_126 : decode cX9_aLine 126 = .ok (.invokestatic 92, 3) := by decide +kernel
theorem dX9_aLine_129 : decode cX9_aLine 129 = .ok (.iastore, 1) := by decide +kernel
theorem dX9_aLine_130 : decode cX9_aLine 130 = .ok (.aload_n 0, 1) := by decide +kernel
theorem dX9_aLine_131 : decode cX9_aLine 131 = .ok (.bipush 59, 2) := by decide +kernel
theorem dX9_aLine_133 : decode cX9_aLine 133 = .ok (.invokevirtual 221, 3) := by decide +kernel
theorem dX9_aLine_136 : decode cX9_aLine 136 = .ok (.ireturn, 1) := by decide +kernel
theorem dX9_load_0 : decode cX9_load 0 = .ok (.iload_n 1, 1) := by decide +kernel
theorem dX9_load_1 : decode cX9_load 1 = .ok (.iconst 0, 1) := by decide +kernel
theorem dX9_load_2 : decode cX9_load 2 = .ok (.aload_n 0, 1) := by decide +kernel
theorem dX9_load_3 : decode cX9_load 3 = .ok (.getfield 129, 3) := by decide +kernel
theorem dX9_load_6 : decode cX9_load 6 = .ok (.invokestatic 199, 3) := by decide +kernel
theorem dX9_load_9 : decode cX9_load 9 = .ok (.ifCond .ne 9, 3) := by decide +kernel
theorem dX9_load_12 : decode cX9_load 12 = .ok (.aload_n 0, 1) := by decide +kernel
theorem dX9_load_13 : decode cX9_load 13 = .ok (.iconst 1, 1) := by decide +kernel
theorem dX9_load_14 : decode cX9_load 14 = .ok (.invokevirtual 252, 3) := by decide +kernel
theorem dX9_load_17 : decode cX9_load 17 = .ok (.ireturn, 1) := by decide +kernel
theorem dX9_load_18 : decode cX9_load 18 = .ok (.aload_n 0, 1) := by decide +kernel
theorem dX9_load_19 : decode cX9_load 19 = .ok (.iload_n 1, 1) := by decide +kernel
theorem dX9_load_20 : decode cX9_load 20 = .ok (.putfield 135, 3) := by decide +kernel
theorem dX9_load_23 : decode cX9_load 23 = .ok (.iconst 0, 1) := by decide +kernel
theorem dX9_load_24 : decode cX9_load 24 = .ok (.istore_n 2, 1) := by decide +kernel
theorem dX9_load_25 : decode cX9_load 25 = .ok (.iload_n 2, 1) := by decide +kernel
theorem dX9_load_26 : decode cX9_load 26 = .ok (.iload_n 1, 1) := by decide +kernel
theorem dX9_load_27 : decode cX9_load 27 = .ok (.if_icmp .ge 21, 3) := by decide +kernel
theorem dX9_load_30 : decode cX9_load 30 = .ok (.aload_n 0, 1) := by decide +kernel
theorem dX9_load_31 : decode cX9_load 31 = .ok (.getfield 64, 3) := by decide +kernel
theorem dX9_load_34 : decode cX9_load 34 = .ok (.iload_n 2, 1) := by decide +kernel
theorem dX9_load_35 : decode cX9_load 35 = .ok (.aload_n 0, 1) := by decide +kernel
theorem dX9_load_36 : decode cX9_load 36 = .ok (.getfield 60, 3) := by decide +kernel
theorem dX9_load_39 : decode cX9_load 39 = .ok (.iload_n 2, 1) := by decide +kernel
theorem dX9_load_40 : decode cX9_load 40 = .ok (.baload, 1) := by decide +kernel
theorem dX9_load_41 : decode cX9_load 41 = .ok (.bastore, 1) := by decide +kernel
theorem dX9_load_42 : decode cX9_load 42 = .ok (.iinc 2 1, 3) := by decide +kernel
theorem dX9_load_45 : decode cX9_load 45 = .ok (.goto (-20), 3) := by decide +kernel
theorem dX9_load_48 : decode cX9_load 48 = .ok (.aload_n 0, 1) := by decide +kernel
theorem dX9_load_49 : decode cX9_load 49 = .ok (.iconst 0, 1) := by decide +kernel
theorem dX9_load_50 : decode cX9_load 50 = .ok (.putfield 129, 3) := by decide +kernel
theorem dX9_load_53 : decode cX9_load 53 = .ok (.aload_n 0, 1) := by decide +kernel
theorem dX9_load_54 : decode cX9_load 54 = .ok (.iconst 0, 1) := by decide +kernel
theorem dX9_load_55 : decode cX9_load 55 = .ok (.putfield 171, 3) := by decide +kernel
theorem dX9_load_58 : decode cX9_load 58 = .ok (.aload_n 0, 1) := by decide +kernel
theorem dX9_load_59 : decode cX9_load 59 = .ok (.iconst (-1), 1) := by decide +kernel
theorem dX9_load_60 : decode cX9_load 60 = .ok (.putfield 67, 3) := by decide +kernel
theorem dX9_load_63 : decode cX9_load 63 = .ok (.aload_n 0, 1) := by decide +kernel
theorem dX9_load_64 : decode cX9_load 64 = .ok (.iconst 0, 1) := by decide +kernel
theorem dX9_load_65 : decode cX9_load 65 = .ok (.putfield 144, 3) := by decide +kernel
theorem dX9_load_68 : decode cX9_load 68 = .ok (.aload_n 0, 1) := by decide +kernel
theorem dX9_load_69 : decode cX9_load 69 = .ok (.iconst 0, 1) := by decide +kernel
theorem dX9_load_70 : decode cX9_load 70 = .ok (.sipush 4809, 3) := by decide +kernel
theorem dX9_load_73 : decode cX9_load 73 = .ok (.invokevirtual 255, 3) := by decide +kernel
theorem dX9_load_76 : decode cX9_load 76 = .ok (.aload_n 0, 1) := by decide +kernel
theorem dX9_load_77 : decode cX9_load 77 = .ok (.getfield 8, 3) := by decide +kernel
theorem dX9_load_80 : decode cX9_load 80 = .ok (.iconst 0, 1) := by decide +kernel
theorem dX9_load_81 : decode cX9_load 81 = .ok (.iconst 0, 1) := by decide +kernel
theorem dX9_load_82 : decode cX9_load 82 = .ok (.iastore, 1) := by decide +kernel
theorem dX9_load_83 : decode cX9_load 83 = .ok (.aload_n 0, 1) := by decide +kernel
theorem dX9_load_84 : decode cX9_load 84 = .ok (.invokevirtual 178, 3) := by decide +kernel
theorem dX9_load_87 : decode cX9_load 87 = .ok (.iconst 1, 1) := by decide +kernel
theorem dX9_load_88 : decode cX9_load 88 = .ok (.istore_n 2, 1) := by decide +kernel
theorem dX9_load_89 : decode cX9_load 89 = .ok (.iload_n 2, 1) := by decide +kernel
theorem dX9_load_90 : decode cX9_load 90 = .ok (.ifCond .eq 18, 3) := by decide +kernel
theorem dX9_load_93 : decode cX9_load 93 = .ok (.aload_n 0, 1) := by decide +kernel
theorem dX9_load_94 : decode cX9_load 94 = .ok (.getfield 151, 3) := by decide +kernel
theorem dX9_load_97 : decode cX9_load 97 = .ok (.ifCond .eq 11, 3) := by decide +kernel
theorem dX9_load_100 : decode cX9_load 100 = .ok (.aload_n 0, 1) := by decide +kernel
theorem dX9_load_101 : decode cX9_load 101 = .ok (.invokevirtual 259, 3) := by decide +kernel
theorem dX9_load_104 : decode cX9_load 104 = .ok (.istore_n 2, 1) := by decide +kernel
theorem dX9_load_105 : decode cX9_load 105 = .ok (.goto (-16), 3) := by decide +kernel
theorem dX9_load_108 : decode cX9_load 108 = .ok (.aload_n 0, 1) := by decide +kernel
theorem dX9_load_109 : decode cX9_load 109 = .ok (.aload_n 0, 1) := by decide +kernel
theorem dX9_load_110 : decode cX9_load 110 = .ok (.getfield 171, 3) := by decide +kernel
theorem dX9_load_113 : decode cX9_load 113 = .ok (.putfield 71, 3) := by decide +kernel
theorem dX9_load_116 : decode cX9_load 116 = .ok (.aload_n 0, 1) := by decide +kernel
theorem dX9_load_117 : decode cX9_load 117 = .ok (.getfield 171, 3) := by decide +kernel
theorem dX9_load_120 : decode cX9_load 120 = .ok (.ifCond .le 18, 3) := by decide +kernel
theorem dX9_load_123 : decode cX9_load 123 = .ok (.aload_n 0, 1) := by decide +kernel
theorem dX9_load_124 : decode cX9_load 124 = .ok (.sipush 4809, 3) := by decide +kernel
theorem dX9_load_127 : decode cX9_load 127 = .ok (.iconst 0, 1) := by decide +kernel
theorem dX9_load_128 : decode cX9_load 128 = .ok (.invokevirtual 255, 3) := by decide +kernel
theorem dX9_load_131 : decode cX9_load 131 = .ok (.aload_n 0, 1) := by decide +kernel
theorem dX9_load_132 : decode cX9_load 132 = .ok (.bipush 9, 2) := by decide +kernel
theorem dX9_load_134 : decode cX9_load 134 = .ok (.invokevirtual 252, 3) := by decide +kernel
theorem dX9_load_137 : decode cX9_load 137 = .ok (.ireturn, 1) := by decide +kernel
theorem dX9_load_138 : decode cX9_load 138 = .ok (.aload_n 0, 1) := by decide +kernel
theorem dX9_load_139 : decode cX9_load 139 = .ok (.invokevirtual 262, 3) := by decide +kernel
theorem dX9_load_142 : decode cX9_load 142 = .ok (.aload_n 0, 1) := by decide +kernel
theorem dX9_load_143 : decode cX9_load 143 = .ok (.aload_n 0, 1) := by decide +kernel
theorem dX9_load_144 : decode cX9_load 144 = .ok (.invokevirtual 80, 3) := by decide +kernel
theorem dX9_load_147 : decode cX9_load 147 = .ok (.invokevirtual 265, 3) := by decide +kernel
theorem dX9_load_150 : decode cX9_load 150 = .ok (.ireturn, 1) := by decide +kernel
theorem dX9_fault_0 : decode cX9_fault 0 = .ok (.iload_n 1, 1) := by decide +kernel
theorem dX9_fault_1 : decode cX9_fault 1 = .ok (.ifCond .ne 10, 3) := by decide +kernel
theorem dX9_fault_4 : decode cX9_fault 4 = .ok (.aload_n 0, 1) := by decide +kernel
theorem dX9_fault_5 : decode cX9_fault 5 = .ok (.getfield 71, 3) := by decide +kernel
theorem dX9_fault_8 : decode cX9_fault 8 = .ok (.goto 43, 3) := by decide +kernel
theorem dX9_fault_11 : decode cX9_fault 11 = .ok (.iload_n 1, 1) := by decide +kernel
theorem dX9_fault_12 : decode cX9_fault 12 = .ok (.iconst 1, 1) := by decide +kernel
theorem dX9_fault_13 : decode cX9_fault 13 = .ok (.if_icmp .ne 10, 3) := by decide +kernel
theorem dX9_fault_16 : decode cX9_fault 16 = .ok (.aload_n 0, 1) := by decide +kernel
theorem dX9_fault_17 : decode cX9_fault 17 = .ok (.getfield 67, 3) := by decide +kernel
theorem dX9_fault_20 : decode cX9_fault 20 = .ok (.goto 31, 3) := by decide +kernel
theorem dX9_fault_23 : decode cX9_fault 23 = .ok (.iload_n 1, 1) := by decide +kernel
theorem dX9_fault_24 : decode cX9_fault 24 = .ok (.iconst 2, 1) := by decide +kernel
theorem dX9_fault_25 : decode cX9_fault 25 = .ok (.if_icmp .ne 25, 3) := by decide +kernel
theorem dX9_fault_28 : decode cX9_fault 28 = .ok (.aload_n 0, 1) := by decide +kernel
theorem dX9_fault_29 : decode cX9_fault 29 = .ok (.getfield 71, 3) := by decide +kernel
theorem dX9_fault_32 : decode cX9_fault 32 = .ok (.ifCond .ge 7, 3) := by decide +kernel
theorem dX9_fault_35 : decode cX9_fault 35 = .ok (.iconst (-1), 1) := by decide +kernel
theorem dX9_fault_36 : decode cX9_fault 36 = .ok (.goto 15, 3) := by decide +kernel
theorem dX9_fault_39 : decode cX9_fault 39 = .ok (.aload_n 0, 1) := by decide +kernel
theorem dX9_fault_40 : decode cX9_fault 40 = .ok (.getfield 71, 3) := by decide +kernel
theorem dX9_fault_43 : decode cX9_fault 43 = .ok (.iconst 1, 1) := by decide +kernel
theorem dX9_fault_44 : decode cX9_fault 44 = .ok (.iadd, 1) := by decide +kernel
theorem dX9_fault_45 : decode cX9_fault 45 = .ok (.iconst 2, 1) := by decide +kernel
theorem dX9_fault_46 : decode cX9_fault 46 = .ok (.idiv, 1) := by decide +kernel
theorem dX9_fault_47 : decode cX9_fault 47 = .ok (.goto 4, 3) := by decide +kernel
theorem dX9_fault_50 : decode cX9_fault 50 = .ok (.iconst (-1), 1) := by decide +kernel
theorem dX9_fault_51 : decode cX9_fault 51 = .ok (.ireturn, 1) := by decide +kernel
theorem dX9_acted_0 : decode cX9_acted 0 = .ok (.aload_n 0, 1) := by decide +kernel
theorem dX9_acted_1 : decode cX9_acted 1 = .ok (.getfield 268, 3) := by decide +kernel
theorem dX9_acted_4 : decode cX9_acted 4 = .ok (.bipush 8, 2) := by decide +kernel
theorem dX9_acted_6 : decode cX9_acted 6 = .ok (.if_icmp .ne 65, 3) := by decide +kernel
theorem dX9_acted_9 : decode cX9_acted 9 = .ok (.iconst 1, 1) := by decide +kernel
theorem dX9_acted_10 : decode cX9_acted 10 = .ok (.istore_n 1, 1) := by decide +kernel
theorem dX9_acted_11 : decode cX9_acted 11 = .ok (.iload_n 1, 1) := by decide +kernel
theorem dX9_acted_12 : decode cX9_acted 12 = .ok (.bipush 8, 2) := by decide +kernel
theorem dX9_acted_14 : decode cX9_acted 14 = .ok (.if_icmp .ge 47, 3) := by decide +kernel
theorem dX9_acted_17 : decode cX9_acted 17 = .ok (.aload_n 0, 1) := by decide +kernel
theorem dX9_acted_18 : decode cX9_acted 18 = .ok (.sipush 9618, 3) := by decide +kernel
theorem dX9_acted_21 : decode cX9_acted 21 = .ok (.sipush 4809, 3) := by decide +kernel
theorem dX9_acted_24 : decode cX9_acted 24 = .ok (.iload_n 1, 1) := by decide +kernel
theorem dX9_acted_25 : decode cX9_acted 25 = .ok (.imul, 1) := by decide +kernel
theorem dX9_acted_26 : decode cX9_acted 26 = .ok (.iadd, 1) := by decide +kernel
theorem dX9_acted_27 : decode cX9_acted 27 = .ok (.sipush 9618, 3) := by decide +kernel
theorem dX9_acted_30 : decode cX9_acted 30 = .ok (.sipush 4809, 3) := by decide +kernel
theorem dX9_acted_33 : decode cX9_acted 33 = .ok (.iload_n 1, 1) := by decide +kernel
theorem dX9_acted_34 : decode cX9_acted 34 = .ok (.iconst 1, 1) := by decide +kernel
theorem dX9_acted_35 : decode cX9_acted 35 = .ok (.isub, 1) := by decide +kernel
theorem dX9_acted_36 : decode cX9_acted 36 = .ok (.imul, 1) := by decide +kernel
theorem dX9_acted_37 : decode cX9_acted 37 = .ok (.iadd, 1) := by decide +kernel
theorem dX9_acted_38 : decode cX9_acted 38 = .ok (.invokevirtual 255, 3) := by decide +kernel
theorem dX9_acted_41 : decode cX9_acted 41 = .ok (.aload_n 0, 1) := by decide +kernel
theorem dX9_acted_42 : decode cX9_acted 42 = .ok (.getfield 14, 3) := by decide +kernel
theorem dX9_acted_45 : decode cX9_acted 45 = .ok (.iload_n 1, 1) := by decide +kernel
theorem dX9_acted_46 : decode cX9_acted 46 = .ok (.iconst 1, 1) := by decide +kernel
theorem dX9_acted_47 : decode cX9_acted 47 = .ok (.isub, 1) := by decide +kernel
theorem dX9_acted_48 : decode cX9_acted 48 = .ok (.aload_n 0, 1) := by decide +kernel
theorem dX9_acted_49 : decode cX9_acted 49 = .ok (.getfield 14, 3) := by decide +kernel
theorem dX9_acted_52 : decode cX9_acted 52 = .ok (.iload_n 1, 1) := by decide +kernel
theorem dX9_acted_53 : decode cX9_acted 53 = .ok (.iaload, 1) := by decide +kernel
theorem dX9_acted_54 : decode cX9_acted 54 = .ok (.iastore, 1) := by decide +kernel
theorem dX9_acted_55 : decode cX9_acted 55 = .ok (.iinc 1 1, 3) := by decide +kernel
theorem dX9_acted_58 : decode cX9_acted 58 = .ok (.goto (-47), 3) := by decide +kernel
theorem dX9_acted_61 : decode cX9_acted 61 = .ok (.aload_n 0, 1) := by decide +kernel
theorem dX9_acted_62 : decode cX9_acted 62 = .ok (.dup, 1) := by decide +kernel
theorem dX9_acted_63 : decode cX9_acted 63 = .ok (.getfield 268, 3) := by decide +kernel
theorem dX9_acted_66 : decode cX9_acted 66 = .ok (.iconst 1, 1) := by decide +kernel
theorem dX9_acted_67 : decode cX9_acted 67 = .ok (.isub, 1) := by decide +kernel
theorem dX9_acted_68 : decode cX9_acted 68 = .ok (.putfield 268, 3) := by decide +kernel
theorem dX9_acted_71 : decode cX9_acted 71 = .ok (.aload_n 0, 1) := by decide +kernel
theorem dX9_acted_72 : decode cX9_acted 72 = .ok (.sipush 4809, 3) := by decide +kernel
theorem dX9_acted_75 : decode cX9_acted 75 = .ok (.sipush 9618, 3) := by decide +kernel
theorem dX9_acted_78 : decode cX9_acted 78 = .ok (.sipush 4809, 3) := by decide +kernel
theorem dX9_acted_81 : decode cX9_acted 81 = .ok (.aload_n 0, 1) := by decide +kernel
theorem dX9_acted_82 : decode cX9_acted 82 = .ok (.getfield 268, 3) := by decide +kernel
theorem dX9_acted_85 : decode cX9_acted 85 = .ok (.imul, 1) := by decide +kernel
theorem dX9_acted_86 : decode cX9_acted 86 = .ok (.iadd, 1) := by decide +kernel
theorem dX9_acted_87 : decode cX9_acted 87 = .ok (.invokevirtual 255, 3) := by decide +kernel
theorem dX9_acted_90 : decode cX9_acted 90 = .ok (.aload_n 0, 1) := by decide +kernel
theorem dX9_acted_91 : decode cX9_acted 91 = .ok (.getfield 14, 3) := by decide +kernel
theorem dX9_acted_94 : decode cX9_acted 94 = .ok (.aload_n 0, 1) := by decide +kernel
theorem dX9_acted_95 : decode cX9_acted 95 = .ok (.getfield 268, 3) := by decide +kernel
theorem dX9_acted_98 : decode cX9_acted 98 = .ok (.aload_n 0, 1) := by decide +kernel
theorem dX9_acted_99 : decode cX9_acted 99 = .ok (.sipush 4809, 3) := by decide +kernel
theorem dX9_acted_102 : decode cX9_acted 102 = .ok (.invokevirtual 271, 3) := by decide +kernel
theorem dX9_acted_105 : decode cX9_acted 105 = .ok (.iastore, 1) := by decide +kernel
theorem dX9_acted_106 : decode cX9_acted 106 = .ok (.aload_n 0, 1) := by decide +kernel
theorem dX9_acted_107 : decode cX9_acted 107 = .ok (.dup, 1) := by decide +kernel
theorem dX9_acted_108 : decode cX9_acted 108 = .ok (.getfield 268, 3) := by decide +kernel
theorem dX9_acted_111 : decode cX9_acted 111 = .ok (.iconst 1, 1) := by decide +kernel
theorem dX9_acted_112 : decode cX9_acted 112 = .ok (.iadd, 1) := by decide +kernel
theorem dX9_acted_113 : decode cX9_acted 113 = .ok (.putfield 268, 3) := by decide +kernel
theorem dX9_acted_116 : decode cX9_acted 116 = .ok (.return_, 1) := by decide +kernel
theorem dX9_freshOver_0 : decode cX9_freshOver 0 = .ok (.aload_n 0, 1) := by decide +kernel
theorem dX9_freshOver_1 : decode cX9_freshOver 1 = .ok (.invokevirtual 123, 3) := by decide +kernel
theorem dX9_freshOver_4 : decode cX9_freshOver 4 = .ok (.aload_n 0, 1) := by decide +kernel
theorem dX9_freshOver_5 : decode cX9_freshOver 5 = .ok (.iload_n 1, 1) := by decide +kernel
theorem dX9_freshOver_6 : decode cX9_freshOver 6 = .ok (.invokevirtual 274, 3) := by decide +kernel
theorem dX9_freshOver_9 : decode cX9_freshOver 9 = .ok (.istore_n 2, 1) := by decide +kernel
theorem dX9_freshOver_10 : decode cX9_freshOver 10 = .ok (.aload_n 0, 1) := by decide +kernel
theorem dX9_freshOver_11 : decode cX9_freshOver 11 = .ok (.iconst 0, 1) := by decide +kernel
theorem dX9_freshOver_12 : decode cX9_freshOver 12 = .ok (.invokevirtual 274, 3) := by decide +kernel
theorem dX9_freshOver_15 : decode cX9_freshOver 15 = .ok (.iload_n 2, 1) := by decide +kernel
theorem dX9_freshOver_16 : decode cX9_freshOver 16 = .ok (.isub, 1) := by decide +kernel
theorem dX9_freshOver_17 : decode cX9_freshOver 17 = .ok (.ireturn, 1) := by decide +kernel
theorem dX9_acted__0 : decode cX9_acted_ 0 = .ok (.aload_n 0, 1) := by decide +kernel
theorem dX9_acted__1 : decode cX9_acted_ 1 = .ok (.invokevirtual 262, 3) := by decide +kernel
theorem dX9_acted__4 : decode cX9_acted_ 4 = .ok (.aload_n 0, 1) := by decide +kernel
theorem dX9_acted__5 : decode cX9_acted_ 5 = .ok (.iload_n 1, 1) := by decide +kernel
theorem dX9_acted__6 : decode cX9_acted_ 6 = .ok (.invokevirtual 265, 3) := by decide +kernel
theorem dX9_acted__9 : decode cX9_acted_ 9 = .ok (.ireturn, 1) := by decide +kernel
theorem dX9_more_0 : decode cX9_more 0 = .ok (.aload_n 0, 1) := by decide +kernel
theorem dX9_more_1 : decode cX9_more 1 = .ok (.invokevirtual 80, 3) := by decide +kernel
theorem dX9_more_4 : decode cX9_more 4 = .ok (.istore_n 1, 1) := by decide +kernel
theorem dX9_more_5 : decode cX9_more 5 = .ok (.aload_n 0, 1) := by decide +kernel
theorem dX9_more_6 : decode cX9_more 6 = .ok (.iconst 0, 1) := by decide +kernel
theorem dX9_more_7 : decode cX9_more 7 = .ok (.sipush 4809, 3) := by decide +kernel
theorem dX9_more_10 : decode cX9_more 10 = .ok (.invokevirtual 255, 3) := by decide +kernel
theorem dX9_more_13 : decode cX9_more 13 = .ok (.aload_n 0, 1) := by decide +kernel
theorem dX9_more_14 : decode cX9_more 14 = .ok (.iload_n 1, 1) := by decide +kernel
theorem dX9_more_15 : decode cX9_more 15 = .ok (.invokevirtual 249, 3) := by decide +kernel
theorem dX9_more_18 : decode cX9_more 18 = .ok (.aload_n 0, 1) := by decide +kernel
theorem dX9_more_19 : decode cX9_more 19 = .ok (.getfield 8, 3) := by decide +kernel
theorem dX9_more_22 : decode cX9_more 22 = .ok (.iconst 0, 1) := by decide +kernel
theorem dX9_more_23 : decode cX9_more 23 = .ok (.dup2, 1) := by decide +kernel
theorem dX9_more_24 : decode cX9_more 24 = .ok (.iaload, 1) := by decide +kernel
theorem dX9_more_25 : decode cX9_more 25 = .ok (.iconst 1, 1) := by decide +kernel
theorem dX9_more_26 : decode cX9_more 26 = .ok (.iadd, 1) := by decide +kernel
theorem dX9_more_27 : decode cX9_more 27 = .ok (.iastore, 1) := by decide +kernel
theorem dX9_more_28 : decode cX9_more 28 = .ok (.aload_n 0, 1) := by decide +kernel
theorem dX9_more_29 : decode cX9_more 29 = .ok (.iload_n 1, 1) := by decide +kernel
theorem dX9_more_30 : decode cX9_more 30 = .ok (.invokevirtual 277, 3) := by decide +kernel
theorem dX9_more_33 : decode cX9_more 33 = .ok (.ireturn, 1) := by decide +kernel
theorem dX9_piles_0 : decode cX9_piles 0 = .ok (.iconst 0, 1) := by decide +kernel
theorem dX9_piles_1 : decode cX9_piles 1 = .ok (.istore 4, 2) := by decide +kernel
theorem dX9_piles_3 : decode cX9_piles 3 = .ok (.iload 4, 2) := by decide +kernel
theorem dX9_piles_5 : decode cX9_piles 5 = .ok (.iload_n 3, 1) := by decide +kernel
theorem dX9_piles_6 : decode cX9_piles 6 = .ok (.if_icmp .ge 30, 3) := by decide +kernel
theorem dX9_piles_9 : decode cX9_piles 9 = .ok (.aload_n 0, 1) := by decide +kernel
theorem dX9_piles_10 : decode cX9_piles 10 = .ok (.getfield 74, 3) := by decide +kernel
theorem dX9_piles_13 : decode cX9_piles 13 = .ok (.aload_n 0, 1) := by decide +kernel
theorem dX9_piles_14 : decode cX9_piles 14 = .ok (.getfield 206, 3) := by decide +kernel
theorem dX9_piles_17 : decode cX9_piles 17 = .ok (.iload 4, 2) := by decide +kernel
theorem dX9_piles_19 : decode cX9_piles 19 = .ok (.iadd, 1) := by decide +kernel
theorem dX9_piles_20 : decode cX9_piles 20 = .ok (.aload_n 0, 1) := by decide +kernel
theorem dX9_piles_21 : decode cX9_piles 21 = .ok (.iload_n 1, 1) := by decide +kernel
theorem dX9_piles_22 : decode cX9_piles 22 = .ok (.iload_n 2, 1) := by decide +kernel
theorem dX9_piles_23 : decode cX9_piles 23 = .ok (.iload 4, 2) := by decide +kernel
theorem dX9_piles_25 : decode cX9_piles 25 = .ok (.iadd, 1) := by decide +kernel
theorem dX9_piles_26 : decode cX9_piles 26 = .ok (.invokevirtual 230, 3) := by decide +kernel
theorem dX9_piles_29 : decode cX9_piles 29 = .ok (.iastore, 1) := by decide +kernel
theorem dX9_piles_30 : decode cX9_piles 30 = .ok (.iinc 4 1, 3) := by decide +kernel
theorem dX9_piles_33 : decode cX9_piles 33 = .ok (.goto (-30), 3) := by decide +kernel
theorem dX9_piles_36 : decode cX9_piles 36 = .ok (.aload_n 0, 1) := by decide +kernel
theorem dX9_piles_37 : decode cX9_piles 37 = .ok (.dup, 1) := by decide +kernel
theorem dX9_piles_38 : decode cX9_piles 38 = .ok (.getfield 206, 3) := by decide +kernel
theorem dX9_piles_41 : decode cX9_piles 41 = .ok (.iload_n 3, 1) := by decide +kernel
theorem dX9_piles_42 : decode cX9_piles 42 = .ok (.iadd, 1) := by decide +kernel
theorem dX9_piles_43 : decode cX9_piles 43 = .ok (.putfield 206, 3) := by decide +kernel
theorem dX9_piles_46 : decode cX9_piles 46 = .ok (.return_, 1) := by decide +kernel
theorem dX9_take_0 : decode cX9_take 0 = .ok (.iload_n 2, 1) := by decide +kernel
theorem dX9_take_1 : decode cX9_take 1 = .ok (.ifCond .lt 8, 3) := by decide +kernel
theorem dX9_take_4 : decode cX9_take 4 = .ok (.iload_n 3, 1) := by decide +kernel
theorem dX9_take_5 : decode cX9_take 5 = .ok (.iconst 1, 1) := by decide +kernel
theorem dX9_take_6 : decode cX9_take 6 = .ok (.if_icmp .ge 9, 3) := by decide +kernel
theorem dX9_take_9 : decode cX9_take 9 = .ok (.aload_n 0, 1) := by decide +kernel
theorem dX9_take_10 : decode cX9_take 10 = .ok (.iconst 1, 1) := by decide +kernel
theorem dX9_take_11 : decode cX9_take 11 = .ok (.invokevirtual 252, 3) := by decide +kernel
theorem dX9_take_14 : decode cX9_take 14 = .ok (.ireturn, 1) := by decide +kernel
theorem dX9_take_15 : decode cX9_take 15 = .ok (.aload_n 0, 1) := by decide +kernel
theorem dX9_take_16 : decode cX9_take 16 = .ok (.iload_n 1, 1) := by decide +kernel
theorem dX9_take_17 : decode cX9_take 17 = .ok (.invokevirtual 279, 3) := by decide +kernel
theorem dX9_take_20 : decode cX9_take 20 = .ok (.ifCond .ne 9, 3) := by decide +kernel
theorem dX9_take_23 : decode cX9_take 23 = .ok (.aload_n 0, 1) := by decide +kernel
theorem dX9_take_24 : decode cX9_take 24 = .ok (.iconst 2, 1) := by decide +kernel
theorem dX9_take_25 : decode cX9_take 25 = .ok (.invokevirtual 252, 3) := by decide +kernel
theorem dX9_take_28 : decode cX9_take 28 = .ok (.ireturn, 1) := by decide +kernel
theorem dX9_take_29 : decode cX9_take 29 = .ok (.aload_n 0, 1) := by decide +kernel
theorem dX9_take_30 : decode cX9_take 30 = .ok (.invokevirtual 80, 3) := by decide +kernel
theorem dX9_take_33 : decode cX9_take 33 = .ok (.bipush 8, 2) := by decide +kernel
theorem dX9_take_35 : decode cX9_take 35 = .ok (.if_icmp .ne 9, 3) := by decide +kernel
theorem dX9_take_38 : decode cX9_take 38 = .ok (.aload_n 0, 1) := by decide +kernel
theorem dX9_take_39 : decode cX9_take 39 = .ok (.iconst 3, 1) := by decide +kernel
theorem dX9_take_40 : decode cX9_take 40 = .ok (.invokevirtual 252, 3) := by decide +kernel
theorem dX9_take_43 : decode cX9_take 43 = .ok (.ireturn, 1) := by decide +kernel
theorem dX9_take_44 : decode cX9_take 44 = .ok (.iload_n 2, 1) := by decide +kernel
theorem dX9_take_45 : decode cX9_take 45 = .ok (.aload_n 0, 1) := by decide +kernel
theorem dX9_take_46 : decode cX9_take 46 = .ok (.iload_n 1, 1) := by decide +kernel
theorem dX9_take_47 : decode cX9_take 47 = .ok (.invokevirtual 227, 3) := by decide +kernel
theorem dX9_take_50 : decode cX9_take 50 = .ok (.if_icmp .ge 14, 3) := by decide +kernel
theorem dX9_take_53 : decode cX9_take 53 = .ok (.iload_n 3, 1) := by decide +kernel
theorem dX9_take_54 : decode cX9_take 54 = .ok (.aload_n 0, 1) := by decide +kernel
theorem dX9_take_55 : decode cX9_take 55 = .ok (.iload_n 1, 1) := by decide +kernel
theorem dX9_take_56 : decode cX9_take 56 = .ok (.invokevirtual 227, 3) := by decide +kernel
theorem dX9_take_59 : decode cX9_take 59 = .ok (.iload_n 2, 1) := by decide +kernel
theorem dX9_take_60 : decode cX9_take 60 = .ok (.isub, 1) := by decide +kernel
theorem dX9_take_61 : decode cX9_take 61 = .ok (.if_icmp .le 9, 3) := by decide +kernel
theorem dX9_take_64 : decode cX9_take 64 = .ok (.aload_n 0, 1) := by decide +kernel
theorem dX9_take_65 : decode cX9_take 65 = .ok (.iconst 5, 1) := by decide +kernel
theorem dX9_take_66 : decode cX9_take 66 = .ok (.invokevirtual 252, 3) := by decide +kernel
theorem dX9_take_69 : decode cX9_take 69 = .ok (.ireturn, 1) := by decide +kernel
theorem dX9_take_70 : decode cX9_take 70 = .ok (.aload_n 0, 1) := by decide +kernel
theorem dX9_take_71 : decode cX9_take 71 = .ok (.iconst 0, 1) := by decide +kernel
theorem dX9_take_72 : decode cX9_take 72 = .ok (.putfield 206, 3) := by decide +kernel
theorem dX9_take_75 : decode cX9_take 75 = .ok (.aload_n 0, 1) := by decide +kernel
theorem dX9_take_76 : decode cX9_take 76 = .ok (.iload_n 1, 1) := by decide +kernel
theorem dX9_take_77 : decode cX9_take 77 = .ok (.iload_n 2, 1) := by decide +kernel
theorem dX9_take_78 : decode cX9_take 78 = .ok (.iload_n 3, 1) := by decide +kernel
theorem dX9_take_79 : decode cX9_take 79 = .ok (.invokevirtual 282, 3) := by decide +kernel
theorem dX9_take_82 : decode cX9_take 82 = .ok (.aload_n 0, 1) := by decide +kernel
theorem dX9_take_83 : decode cX9_take 83 = .ok (.invokevirtual 286, 3) := by decide +kernel
theorem dX9_take_86 : decode cX9_take 86 = .ok (.ireturn, 1) := by decide +kernel
theorem dX9_wrongSplice_0 : decode cX9_wrongSplice 0 = .ok (.iload_n 2, 1) := by decide +kernel
theorem dX9_wrongSplice_1 : decode cX9_wrongSplice 1 = .ok (.ifCond .lt 7, 3) := by decide +kernel
theorem dX9_wrongSplice_4 : decode cX9_wrongSplice 4 = .ok (.iload_n 3, 1) := by decide +kernel
theorem dX9_wrongSplice_5 : decode cX9_wrongSplice 5 = .ok (.ifCond .ge 5, 3) := by decide +kernel
theorem dX9_wrongSplice_8 : decode cX9_wrongSplice 8 = .ok (.iconst 1, 1) := by decide +kernel
theorem dX9_wrongSplice_9 : decode cX9_wrongSplice 9 = .ok (.ireturn, 1) := by decide +kernel
theorem dX9_wrongSplice_10 : decode cX9_wrongSplice 10 = .ok (.aload_n 0, 1) := by decide +kernel
theorem dX9_wrongSplice_11 : decode cX9_wrongSplice 11 = .ok (.iload_n 1, 1) := by decide +kernel
theorem dX9_wrongSplice_12 : decode cX9_wrongSplice 12 = .ok (.invokevirtual 279, 3) := by decide +kernel
theorem dX9_wrongSplice_15 : decode cX9_wrongSplice 15 = .ok (.ifCond .eq 12, 3) := by decide +kernel
theorem dX9_wrongSplice_18 : decode cX9_wrongSplice 18 = .ok (.aload_n 0, 1) := by decide +kernel
theorem dX9_wrongSplice_19 : decode cX9_wrongSplice 19 = .ok (.iload 4, 2) := by decide +kernel
theorem dX9_wrongSplice_21 : decode cX9_wrongSplice 21 = .ok (.invokevirtual 279, 3) := by decide +kernel
theorem dX9_wrongSplice_24 : decode cX9_wrongSplice 24 = .ok (.ifCond .ne 5, 3) := by decide +kernel
theorem dX9_wrongSplice_27 : decode cX9_wrongSplice 27 = .ok (.iconst 2, 1) := by decide +kernel
theorem dX9_wrongSplice_28 : decode cX9_wrongSplice 28 = .ok (.ireturn, 1) := by decide +kernel
theorem dX9_wrongSplice_29 : decode cX9_wrongSplice 29 = .ok (.iload_n 2, 1) := by decide +kernel
theorem dX9_wrongSplice_30 : decode cX9_wrongSplice 30 = .ok (.aload_n 0, 1) := by decide +kernel
theorem dX9_wrongSplice_31 : decode cX9_wrongSplice 31 = .ok (.iload_n 1, 1) := by decide +kernel
theorem dX9_wrongSplice_32 : decode cX9_wrongSplice 32 = .ok (.invokevirtual 227, 3) := by decide +kernel
theorem dX9_wrongSplice_35 : decode cX9_wrongSplice 35 = .ok (.if_icmp .gt 14, 3) := by decide +kernel
theorem dX9_wrongSplice_38 : decode cX9_wrongSplice 38 = .ok (.iload_n 3, 1) := by decide +kernel
theorem dX9_wrongSplice_39 : decode cX9_wrongSplice 39 = .ok (.aload_n 0, 1) := by decide +kernel
theorem dX9_wrongSplice_40 : decode cX9_wrongSplice 40 = .ok (.iload_n 1, 1) := by decide +kernel
theorem dX9_wrongSplice_41 : decode cX9_wrongSplice 41 = .ok (.invokevirtual 227, 3) := by decide +kernel
theorem dX9_wrongSplice_44 : decode cX9_wrongSplice 44 = .ok (.iload_n 2, 1) := by decide +kernel
theorem dX9_wrongSplice_45 : decode cX9_wrongSplice 45 = .ok (.isub, 1) := by decide +kernel
theorem dX9_wrongSplice_46 : decode cX9_wrongSplice 46 = .ok (.if_icmp .le 5, 3) := by decide +kernel
theorem dX9_wrongSplice_49 : decode cX9_wrongSplice 49 = .ok (.iconst 5, 1) := by decide +kernel
theorem dX9_wrongSplice_50 : decode cX9_wrongSplice 50 = .ok (.ireturn, 1) := by decide +kernel
theorem dX9_wrongSplice_51 : decode cX9_wrongSplice 51 = .ok (.aload_n 0, 1) := by decide +kernel
theorem dX9_wrongSplice_52 : decode cX9_wrongSplice 52 = .ok (.iload_n 1, 1) := by decide +kernel
theorem dX9_wrongSplice_53 : decode cX9_wrongSplice 53 = .ok (.invokevirtual 227, 3) := by decide +kernel
theorem dX9_wrongSplice_56 : decode cX9_wrongSplice 56 = .ok (.iload_n 3, 1) := by decide +kernel
theorem dX9_wrongSplice_57 : decode cX9_wrongSplice 57 = .ok (.isub, 1) := by decide +kernel
theorem dX9_wrongSplice_58 : decode cX9_wrongSplice 58 = .ok (.aload_n 0, 1) := by decide +kernel
theorem dX9_wrongSplice_59 : decode cX9_wrongSplice 59 = .ok (.iload 4, 2) := by decide +kernel
theorem dX9_wrongSplice_61 : decode cX9_wrongSplice 61 = .ok (.invokevirtual 227, 3) := by decide +kernel
theorem dX9_wrongSplice_64 : decode cX9_wrongSplice 64 = .ok (.iadd, 1) := by decide +kernel
theorem dX9_wrongSplice_65 : decode cX9_wrongSplice 65 = .ok (.sipush 600, 3) := by decide +kernel
theorem dX9_wrongSplice_68 : decode cX9_wrongSplice 68 = .ok (.if_icmp .le 8, 3) := by decide +kernel
theorem dX9_wrongSplice_71 : decode cX9_wrongSplice 71 = .ok (.bipush 6, 2) := by decide +kernel
theorem dX9_wrongSplice_73 : decode cX9_wrongSplice 73 = .ok (.goto 4, 3) := by decide +kernel
theorem dX9_wrongSplice_76 : decode cX9_wrongSplice 76 = .ok (.iconst 0, 1) := by decide +kernel
theorem dX9_wrongSplice_77 : decode cX9_wrongSplice 77 = .ok (.ireturn, 1) := by decide +kernel
theorem dX9_splices_0 : decode cX9_splices 0 = .ok (.aload_n 0, 1) := by decide +kernel
theorem dX9_splices_1 : decode cX9_splices 1 = .ok (.iconst 0, 1) := by decide +kernel
theorem dX9_splices_2 : decode cX9_splices 2 = .ok (.putfield 206, 3) := by decide +kernel
theorem dX9_splices_5 : decode cX9_splices 5 = .ok (.aload_n 0, 1) := by decide +kernel
theorem dX9_splices_6 : decode cX9_splices 6 = .ok (.iload_n 1, 1) := by decide +kernel
theorem dX9_splices_7 : decode cX9_splices 7 = .ok (.iconst 0, 1) := by decide +kernel
theorem dX9_splices_8 : decode cX9_splices 8 = .ok (.iload_n 2, 1) := by decide +kernel
theorem dX9_splices_9 : decode cX9_splices 9 = .ok (.invokevirtual 282, 3) := by decide +kernel
theorem dX9_splices_12 : decode cX9_splices 12 = .ok (.aload_n 0, 1) := by decide +kernel
theorem dX9_splices_13 : decode cX9_splices 13 = .ok (.iload 4, 2) := by decide +kernel
theorem dX9_splices_15 : decode cX9_splices 15 = .ok (.iconst 0, 1) := by decide +kernel
theorem dX9_splices_16 : decode cX9_splices 16 = .ok (.aload_n 0, 1) := by decide +kernel
theorem dX9_splices_17 : decode cX9_splices 17 = .ok (.iload 4, 2) := by decide +kernel
theorem dX9_splices_19 : decode cX9_splices 19 = .ok (.invokevirtual 227, 3) := by decide +kernel
theorem dX9_splices_22 : decode cX9_splices 22 = .ok (.invokevirtual 282, 3) := by decide +kernel
theorem dX9_splices_25 : decode cX9_splices 25 = .ok (.aload_n 0, 1) := by decide +kernel
theorem dX9_splices_26 : decode cX9_splices 26 = .ok (.iload_n 1, 1) := by decide +kernel
theorem dX9_splices_27 : decode cX9_splices 27 = .ok (.iload_n 2, 1) := by decide +kernel
theorem dX9_splices_28 : decode cX9_splices 28 = .ok (.iload_n 3, 1) := by decide +kernel
theorem dX9_splices_29 : decode cX9_splices 29 = .ok (.iadd, 1) := by decide +kernel
theorem dX9_splices_30 : decode cX9_splices 30 = .ok (.aload_n 0, 1) := by decide +kernel
theorem dX9_splices_31 : decode cX9_splices 31 = .ok (.iload_n 1, 1) := by decide +kernel
theorem dX9_splices_32 : decode cX9_splices 32 = .ok (.invokevirtual 227, 3) := by decide +kernel
theorem dX9_splices_35 : decode cX9_splices 35 = .ok (.iload_n 2, 1) := by decide +kernel
theorem dX9_splices_36 : decode cX9_splices 36 = .ok (.isub, 1) := by decide +kernel
theorem dX9_splices_37 : decode cX9_splices 37 = .ok (.iload_n 3, 1) := by decide +kernel
theorem dX9_splices_38 : decode cX9_splices 38 = .ok (.isub, 1) := by decide +kernel
theorem dX9_splices_39 : decode cX9_splices 39 = .ok (.invokevirtual 282, 3) := by decide +kernel
theorem dX9_splices_42 : decode cX9_splices 42 = .ok (.aload_n 0, 1) := by decide +kernel
theorem dX9_splices_43 : decode cX9_splices 43 = .ok (.iconst 0, 1) := by decide +kernel
theorem dX9_splices_44 : decode cX9_splices 44 = .ok (.sipush 4809, 3) := by decide +kernel
theorem dX9_splices_47 : decode cX9_splices 47 = .ok (.invokevirtual 255, 3) := by decide +kernel
theorem dX9_splices_50 : decode cX9_splices 50 = .ok (.aload_n 0, 1) := by decide +kernel
theorem dX9_splices_51 : decode cX9_splices 51 = .ok (.iload_n 1, 1) := by decide +kernel
theorem dX9_splices_52 : decode cX9_splices 52 = .ok (.invokevirtual 249, 3) := by decide +kernel
theorem dX9_splices_55 : decode cX9_splices 55 = .ok (.return_, 1) := by decide +kernel
theorem dX9_splice_0 : decode cX9_splice 0 = .ok (.aload_n 0, 1) := by decide +kernel
theorem dX9_splice_1 : decode cX9_splice 1 = .ok (.iload_n 1, 1) := by decide +kernel
theorem dX9_splice_2 : decode cX9_splice 2 = .ok (.iload_n 2, 1) := by decide +kernel
theorem dX9_splice_3 : decode cX9_splice 3 = .ok (.iload_n 3, 1) := by decide +kernel
theorem dX9_splice_4 : decode cX9_splice 4 = .ok (.iload 4, 2) := by decide +kernel
theorem dX9_splice_6 : decode cX9_splice 6 = .ok (.invokevirtual 289, 3) := by decide +kernel
theorem dX9_splice_9 : decode cX9_splice 9 = .ok (.istore 5, 2) := by decide +kernel
theorem dX9_splice_11 : decode cX9_splice 11 = .ok (.iload 5, 2) := by decide +kernel
theorem dX9_splice_13 : decode cX9_splice 13 = .ok (.ifCond .le 10, 3) := by decide +kernel
theorem dX9_splice_16 : decode cX9_splice 16 = .ok (.aload_n 0, 1) := by decide +kernel
theorem dX9_splice_17 : decode cX9_splice 17 = .ok (.iload 5, 2) := by decide +kernel
theorem dX9_splice_19 : decode cX9_splice 19 = .ok (.invokevirtual 252, 3) := by decide +kernel
theorem dX9_splice_22 : decode cX9_splice 22 = .ok (.ireturn, 1) := by decide +kernel
theorem dX9_splice_23 : decode cX9_splice 23 = .ok (.aload_n 0, 1) := by decide +kernel
theorem dX9_splice_24 : decode cX9_splice 24 = .ok (.iload_n 1, 1) := by decide +kernel
theorem dX9_splice_25 : decode cX9_splice 25 = .ok (.iload_n 2, 1) := by decide +kernel
theorem dX9_splice_26 : decode cX9_splice 26 = .ok (.iload_n 3, 1) := by decide +kernel
theorem dX9_splice_27 : decode cX9_splice 27 = .ok (.iload 4, 2) := by decide +kernel
theorem dX9_splice_29 : decode cX9_splice 29 = .ok (.invokevirtual 293, 3) := by decide +kernel
theorem dX9_splice_32 : decode cX9_splice 32 = .ok (.aload_n 0, 1) := by decide +kernel
theorem dX9_splice_33 : decode cX9_splice 33 = .ok (.aload_n 0, 1) := by decide +kernel
theorem dX9_splice_34 : decode cX9_splice 34 = .ok (.iload_n 1, 1) := by decide +kernel
theorem dX9_splice_35 : decode cX9_splice 35 = .ok (.invokevirtual 227, 3) := by decide +kernel
theorem dX9_splice_38 : decode cX9_splice 38 = .ok (.invokevirtual 277, 3) := by decide +kernel
theorem dX9_splice_41 : decode cX9_splice 41 = .ok (.ireturn, 1) := by decide +kernel
theorem dX9_would_0 : decode cX9_would 0 = .ok (.aload_n 0, 1) := by decide +kernel
theorem dX9_would_1 : decode cX9_would 1 = .ok (.iload_n 1, 1) := by decide +kernel
theorem dX9_would_2 : decode cX9_would 2 = .ok (.iload_n 2, 1) := by decide +kernel
theorem dX9_would_3 : decode cX9_would 3 = .ok (.iload_n 3, 1) := by decide +kernel
theorem dX9_would_4 : decode cX9_would 4 = .ok (.iload 4, 2) := by decide +kernel
theorem dX9_would_6 : decode cX9_would 6 = .ok (.invokevirtual 289, 3) := by decide +kernel
theorem dX9_would_9 : decode cX9_would 9 = .ok (.istore 5, 2) := by decide +kernel
theorem dX9_would_11 : decode cX9_would 11 = .ok (.iload 5, 2) := by decide +kernel
theorem dX9_would_13 : decode cX9_would 13 = .ok (.ifCond .le 10, 3) := by decide +kernel
theorem dX9_would_16 : decode cX9_would 16 = .ok (.aload_n 0, 1) := by decide +kernel
theorem dX9_would_17 : decode cX9_would 17 = .ok (.iload 5, 2) := by decide +kernel
theorem dX9_would_19 : decode cX9_would 19 = .ok (.invokevirtual 252, 3) := by decide +kernel
theorem dX9_would_22 : decode cX9_would 22 = .ok (.ireturn, 1) := by decide +kernel
theorem dX9_would_23 : decode cX9_would 23 = .ok (.aload_n 0, 1) := by decide +kernel
theorem dX9_would_24 : decode cX9_would 24 = .ok (.iload_n 1, 1) := by decide +kernel
theorem dX9_would_25 : decode cX9_would 25 = .ok (.iload_n 2, 1) := by decide +kernel
theorem dX9_would_26 : decode cX9_would 26 = .ok (.iload_n 3, 1) := by decide +kernel
theorem dX9_would_27 : decode cX9_would 27 = .ok (.iload 4, 2) := by decide +kernel
theorem dX9_would_29 : decode cX9_would 29 = .ok (.invokevirtual 293, 3) := by decide +kernel
theorem dX9_would_32 : decode cX9_would 32 = .ok (.aload_n 0, 1) := by decide +kernel
theorem dX9_would_33 : decode cX9_would 33 = .ok (.sipush 4809, 3) := by decide +kernel
theorem dX9_would_36 : decode cX9_would 36 = .ok (.invokevirtual 271, 3) := by decide +kernel
theorem dX9_would_39 : decode cX9_would 39 = .ok (.istore 6, 2) := by decide +kernel
theorem dX9_would_41 : decode cX9_would 41 = .ok (.aload_n 0, 1) := by decide +kernel
theorem dX9_would_42 : decode cX9_would 42 = .ok (.sipush 4809, 3) := by decide +kernel
theorem dX9_would_45 : decode cX9_would 45 = .ok (.iconst 0, 1) := by decide +kernel
theorem dX9_would_46 : decode cX9_would 46 = .ok (.invokevirtual 255, 3) := by decide +kernel
theorem dX9_would_49 : decode cX9_would 49 = .ok (.aload_n 0, 1) := by decide +kernel
theorem dX9_would_50 : decode cX9_would 50 = .ok (.iload 6, 2) := by decide +kernel
theorem dX9_would_52 : decode cX9_would 52 = .ok (.invokevirtual 265, 3) := by decide +kernel
theorem dX9_would_55 : decode cX9_would 55 = .ok (.ireturn, 1) := by decide +kernel
theorem dX9_join_0 : decode cX9_join 0 = .ok (.aload_n 0, 1) := by decide +kernel
theorem dX9_join_1 : decode cX9_join 1 = .ok (.iload_n 1, 1) := by decide +kernel
theorem dX9_join_2 : decode cX9_join 2 = .ok (.invokevirtual 279, 3) := by decide +kernel
theorem dX9_join_5 : decode cX9_join 5 = .ok (.ifCond .eq 11, 3) := by decide +kernel
theorem dX9_join_8 : decode cX9_join 8 = .ok (.aload_n 0, 1) := by decide +kernel
theorem dX9_join_9 : decode cX9_join 9 = .ok (.iload_n 2, 1) := by decide +kernel
theorem dX9_join_10 : decode cX9_join 10 = .ok (.invokevirtual 279, 3) := by decide +kernel
theorem dX9_join_13 : decode cX9_join 13 = .ok (.ifCond .ne 9, 3) := by decide +kernel
theorem dX9_join_16 : decode cX9_join 16 = .ok (.aload_n 0, 1) := by decide +kernel
theorem dX9_join_17 : decode cX9_join 17 = .ok (.iconst 2, 1) := by decide +kernel
theorem dX9_join_18 : decode cX9_join 18 = .ok (.invokevirtual 252, 3) := by decide +kernel
theorem dX9_join_21 : decode cX9_join 21 = .ok (.ireturn, 1) := by decide +kernel
theorem dX9_join_22 : decode cX9_join 22 = .ok (.aload_n 0, 1) := by decide +kernel
theorem dX9_join_23 : decode cX9_join 23 = .ok (.invokevirtual 80, 3) := by decide +kernel
theorem dX9_join_26 : decode cX9_join 26 = .ok (.bipush 8, 2) := by decide +kernel
theorem dX9_join_28 : decode cX9_join 28 = .ok (.if_icmp .ne 9, 3) := by decide +kernel
theorem dX9_join_31 : decode cX9_join 31 = .ok (.aload_n 0, 1) := by decide +kernel
theorem dX9_join_32 : decode cX9_join 32 = .ok (.iconst 3, 1) := by decide +kernel
theorem dX9_join_33 : decode cX9_join 33 = .ok (.invokevirtual 252, 3) := by decide +kernel
theorem dX9_join_36 : decode cX9_join 36 = .ok (.ireturn, 1) := by decide +kernel
theorem dX9_join_37 : decode cX9_join 37 = .ok (.aload_n 0, 1) := by decide +kernel
theorem dX9_join_38 : decode cX9_join 38 = .ok (.iload_n 1, 1) := by decide +kernel
theorem dX9_join_39 : decode cX9_join 39 = .ok (.invokevirtual 227, 3) := by decide +kernel
theorem dX9_join_42 : decode cX9_join 42 = .ok (.aload_n 0, 1) := by decide +kernel
theorem dX9_join_43 : decode cX9_join 43 = .ok (.iload_n 2, 1) := by decide +kernel
theorem dX9_join_44 : decode cX9_join 44 = .ok (.invokevirtual 227, 3) := by decide +kernel
theorem dX9_join_47 : decode cX9_join 47 = .ok (.iadd, 1) := by decide +kernel
theorem dX9_join_48 : decode cX9_join 48 = .ok (.sipush 600, 3) := by decide +kernel
theorem dX9_join_51 : decode cX9_join 51 = .ok (.if_icmp .le 10, 3) := by decide +kernel
theorem dX9_join_54 : decode cX9_join 54 = .ok (.aload_n 0, 1) := by decide +kernel
theorem dX9_join_55 : decode cX9_join 55 = .ok (.bipush 6, 2) := by decide +kernel
theorem dX9_join_57 : decode cX9_join 57 = .ok (.invokevirtual 252, 3) := by decide +kernel
theorem dX9_join_60 : decode cX9_join 60 = .ok (.ireturn, 1) := by decide +kernel
theorem dX9_join_61 : decode cX9_join 61 = .ok (.aload_n 0, 1) := by decide +kernel
theorem dX9_join_62 : decode cX9_join 62 = .ok (.iconst 0, 1) := by decide +kernel
theorem dX9_join_63 : decode cX9_join 63 = .ok (.putfield 206, 3) := by decide +kernel
theorem dX9_join_66 : decode cX9_join 66 = .ok (.aload_n 0, 1) := by decide +kernel
theorem dX9_join_67 : decode cX9_join 67 = .ok (.iload_n 1, 1) := by decide +kernel
theorem dX9_join_68 : decode cX9_join 68 = .ok (.iconst 0, 1) := by decide +kernel
theorem dX9_join_69 : decode cX9_join 69 = .ok (.aload_n 0, 1) := by decide +kernel
theorem dX9_join_70 : decode cX9_join 70 = .ok (.iload_n 1, 1) := by decide +kernel
theorem dX9_join_71 : decode cX9_join 71 = .ok (.invokevirtual 227, 3) := by decide +kernel
theorem dX9_join_74 : decode cX9_join 74 = .ok (.invokevirtual 282, 3) := by decide +kernel
theorem dX9_join_77 : decode cX9_join 77 = .ok (.aload_n 0, 1) := by decide +kernel
theorem dX9_join_78 : decode cX9_join 78 = .ok (.iload_n 2, 1) := by decide +kernel
theorem dX9_join_79 : decode cX9_join 79 = .ok (.iconst 0, 1) := by decide +kernel
theorem dX9_join_80 : decode cX9_join 80 = .ok (.aload_n 0, 1) := by decide +kernel
theorem dX9_join_81 : decode cX9_join 81 = .ok (.iload_n 2, 1) := by decide +kernel
theorem dX9_join_82 : decode cX9_join 82 = .ok (.invokevirtual 227, 3) := by decide +kernel
theorem dX9_join_85 : decode cX9_join 85 = .ok (.invokevirtual 282, 3) := by decide +kernel
theorem dX9_join_88 : decode cX9_join 88 = .ok (.aload_n 0, 1) := by decide +kernel
theorem dX9_join_89 : decode cX9_join 89 = .ok (.invokevirtual 286, 3) := by decide +kernel
theorem dX9_join_92 : decode cX9_join 92 = .ok (.ireturn, 1) := by decide +kernel
theorem dX9_repeat_0 : decode cX9_repeat 0 = .ok (.iload_n 2, 1) := by decide +kernel
theorem dX9_repeat_1 : decode cX9_repeat 1 = .ok (.iconst 2, 1) := by decide +kernel
theorem dX9_repeat_2 : decode cX9_repeat 2 = .ok (.sipush 600, 3) := by decide +kernel
theorem dX9_repeat_5 : decode cX9_repeat 5 = .ok (.invokestatic 199, 3) := by decide +kernel
theorem dX9_repeat_8 : decode cX9_repeat 8 = .ok (.ifCond .ne 9, 3) := by decide +kernel
theorem dX9_repeat_11 : decode cX9_repeat 11 = .ok (.aload_n 0, 1) := by decide +kernel
theorem dX9_repeat_12 : decode cX9_repeat 12 = .ok (.iconst 1, 1) := by decide +kernel
theorem dX9_repeat_13 : decode cX9_repeat 13 = .ok (.invokevirtual 252, 3) := by decide +kernel
theorem dX9_repeat_16 : decode cX9_repeat 16 = .ok (.ireturn, 1) := by decide +kernel
theorem dX9_repeat_17 : decode cX9_repeat 17 = .ok (.aload_n 0, 1) := by decide +kernel
theorem dX9_repeat_18 : decode cX9_repeat 18 = .ok (.iload_n 1, 1) := by decide +kernel
theorem dX9_repeat_19 : decode cX9_repeat 19 = .ok (.invokevirtual 279, 3) := by decide +kernel
theorem dX9_repeat_22 : decode cX9_repeat 22 = .ok (.ifCond .ne 9, 3) := by decide +kernel
theorem dX9_repeat_25 : decode cX9_repeat 25 = .ok (.aload_n 0, 1) := by decide +kernel
theorem dX9_repeat_26 : decode cX9_repeat 26 = .ok (.iconst 2, 1) := by decide +kernel
theorem dX9_repeat_27 : decode cX9_repeat 27 = .ok (.invokevirtual 252, 3) := by decide +kernel
theorem dX9_repeat_30 : decode cX9_repeat 30 = .ok (.ireturn, 1) := by decide +kernel
theorem dX9_repeat_31 : decode cX9_repeat 31 = .ok (.aload_n 0, 1) := by decide +kernel
theorem dX9_repeat_32 : decode cX9_repeat 32 = .ok (.iload_n 1, 1) := by decide +kernel
theorem dX9_repeat_33 : decode cX9_repeat 33 = .ok (.invokevirtual 227, 3) := by decide +kernel
theorem dX9_repeat_36 : decode cX9_repeat 36 = .ok (.iload_n 2, 1) := by decide +kernel
theorem dX9_repeat_37 : decode cX9_repeat 37 = .ok (.imul, 1) := by decide +kernel
theorem dX9_repeat_38 : decode cX9_repeat 38 = .ok (.sipush 600, 3) := by decide +kernel
theorem dX9_repeat_41 : decode cX9_repeat 41 = .ok (.if_icmp .le 10, 3) := by decide +kernel
theorem dX9_repeat_44 : decode cX9_repeat 44 = .ok (.aload_n 0, 1) := by decide +kernel
theorem dX9_repeat_45 : decode cX9_repeat 45 = .ok (.bipush 6, 2) := by decide +kernel
theorem dX9_repeat_47 : decode cX9_repeat 47 = .ok (.invokevirtual 252, 3) := by decide +kernel
theorem dX9_repeat_50 : decode cX9_repeat 50 = .ok (.ireturn, 1) := by decide +kernel
theorem dX9_repeat_51 : decode cX9_repeat 51 = .ok (.aload_n 0, 1) := by decide +kernel
theorem dX9_repeat_52 : decode cX9_repeat 52 = .ok (.iconst 0, 1) := by decide +kernel
theorem dX9_repeat_53 : decode cX9_repeat 53 = .ok (.putfield 206, 3) := by decide +kernel
theorem dX9_repeat_56 : decode cX9_repeat 56 = .ok (.iconst 0, 1) := by decide +kernel
