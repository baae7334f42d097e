theorem dL_below_0 : decode cL_below 0 = .ok (.iload_n 0, 1) := by decide +kernel
theorem dL_below_1 : decode cL_below 1 = .ok (.ldc 7, 2) := by decide +kernel
theorem dL_below_3 : decode cL_below 3 = .ok (.iand, 1) := by decide +kernel
theorem dL_below_4 : decode cL_below 4 = .ok (.iload_n 1, 1) := by decide +kernel
theorem dL_below_5 : decode cL_below 5 = .ok (.irem, 1) := by decide +kernel
theorem dL_below_6 : decode cL_below 6 = .ok (.ireturn, 1) := by decide +kernel
theorem dL_cell_0 : decode cL_cell 0 = .ok (.iload_n 1, 1) := by decide +kernel
theorem dL_cell_1 : decode cL_cell 1 = .ok (.aload_n 0, 1) := by decide +kernel
theorem dL_cell_2 : decode cL_cell 2 = .ok (.arraylength, 1) := by decide +kernel
theorem dL_cell_3 : decode cL_cell 3 = .ok (.if_icmp .ge 9, 3) := by decide +kernel
theorem dL_cell_6 : decode cL_cell 6 = .ok (.aload_n 0, 1) := by decide +kernel
theorem dL_cell_7 : decode cL_cell 7 = .ok (.iload_n 1, 1) := by decide +kernel
theorem dL_cell_8 : decode cL_cell 8 = .ok (.iaload, 1) := by decide +kernel
theorem dL_cell_9 : decode cL_cell 9 = .ok (.goto 9, 3) := by decide +kernel
theorem dL_cell_12 : decode cL_cell 12 = .ok (.ldc 8, 2) := by decide +kernel
theorem dL_cell_14 : decode cL_cell 14 = .ok (.iload_n 1, 1) := by decide +kernel
theorem dL_cell_15 : decode cL_cell 15 = .ok (.iconst 3, 1) := by decide +kernel
theorem dL_cell_16 : decode cL_cell 16 = .ok (.iadd, 1) := by decide +kernel
theorem dL_cell_17 : decode cL_cell 17 = .ok (.imul, 1) := by decide +kernel
theorem dL_cell_18 : decode cL_cell 18 = .ok (.ireturn, 1) := by decide +kernel
theorem dL_aqueduct_0 : decode cL_aqueduct 0 = .ok (.new 9, 3) := by decide +kernel
theorem dL_aqueduct_3 : decode cL_aqueduct 3 = .ok (.dup, 1) := by decide +kernel
theorem dL_aqueduct_4 : decode cL_aqueduct 4 = .ok (.invokespecial 11, 3) := by decide +kernel
theorem dL_aqueduct_7 : decode cL_aqueduct 7 = .ok (.astore_n 1, 1) := by decide +kernel
theorem dL_aqueduct_8 : decode cL_aqueduct 8 = .ok (.iconst 1, 1) := by decide +kernel
theorem dL_aqueduct_9 : decode cL_aqueduct 9 = .ok (.aload_n 0, 1) := by decide +kernel
theorem dL_aqueduct_10 : decode cL_aqueduct 10 = .ok (.iconst 0, 1) := by decide +kernel
theorem dL_aqueduct_11 : decode cL_aqueduct 11 = .ok (.invokestatic 12, 3) := by decide +kernel
theorem dL_aqueduct_14 : decode cL_aqueduct 14 = .ok (.bipush 20, 2) := by decide +kernel
theorem dL_aqueduct_16 : decode cL_aqueduct 16 = .ok (.invokestatic 18, 3) := by decide +kernel
theorem dL_aqueduct_19 : decode cL_aqueduct 19 = .ok (.iadd, 1) := by decide +kernel
theorem dL_aqueduct_20 : decode cL_aqueduct 20 = .ok (.istore_n 2, 1) := by decide +kernel
theorem dL_aqueduct_21 : decode cL_aqueduct 21 = .ok (.sipush 200, 3) := by decide +kernel
theorem dL_aqueduct_24 : decode cL_aqueduct 24 = .ok (.istore_n 3, 1) := by decide +kernel
theorem dL_aqueduct_25 : decode cL_aqueduct 25 = .ok (.iconst 0, 1) := by decide +kernel
theorem dL_aqueduct_26 : decode cL_aqueduct 26 = .ok (.istore 4, 2) := by decide +kernel
theorem dL_aqueduct_28 : decode cL_aqueduct 28 = .ok (.iload 4, 2) := by decide +kernel
theorem dL_aqueduct_30 : decode cL_aqueduct 30 = .ok (.iload_n 2, 1) := by decide +kernel
theorem dL_aqueduct_31 : decode cL_aqueduct 31 = .ok (.if_icmp .ge 138, 3) := by decide +kernel
theorem dL_aqueduct_34 : decode cL_aqueduct 34 = .ok (.aload_n 0, 1) := by decide +kernel
theorem dL_aqueduct_35 : decode cL_aqueduct 35 = .ok (.iconst 1, 1) := by decide +kernel
theorem dL_aqueduct_36 : decode cL_aqueduct 36 = .ok (.iload 4, 2) := by decide +kernel
theorem dL_aqueduct_38 : decode cL_aqueduct 38 = .ok (.iconst 5, 1) := by decide +kernel
theorem dL_aqueduct_39 : decode cL_aqueduct 39 = .ok (.irem, 1) := by decide +kernel
theorem dL_aqueduct_40 : decode cL_aqueduct 40 = .ok (.iadd, 1) := by decide +kernel
theorem dL_aqueduct_41 : decode cL_aqueduct 41 = .ok (.invokestatic 12, 3) := by decide +kernel
theorem dL_aqueduct_44 : decode cL_aqueduct 44 = .ok (.iload 4, 2) := by decide +kernel
theorem dL_aqueduct_46 : decode cL_aqueduct 46 = .ok (.iconst 5, 1) := by decide +kernel
theorem dL_aqueduct_47 : decode cL_aqueduct 47 = .ok (.idiv, 1) := by decide +kernel
theorem dL_aqueduct_48 : decode cL_aqueduct 48 = .ok (.bipush 6, 2) := by decide +kernel
theorem dL_aqueduct_50 : decode cL_aqueduct 50 = .ok (.imul, 1) := by decide +kernel
theorem dL_aqueduct_51 : decode cL_aqueduct 51 = .ok (.ishr, 1) := by decide +kernel
theorem dL_aqueduct_52 : decode cL_aqueduct 52 = .ok (.istore 5, 2) := by decide +kernel
theorem dL_aqueduct_54 : decode cL_aqueduct 54 = .ok (.iconst 0, 1) := by decide +kernel
theorem dL_aqueduct_55 : decode cL_aqueduct 55 = .ok (.iload_n 3, 1) := by decide +kernel
theorem dL_aqueduct_56 : decode cL_aqueduct 56 = .ok (.iload 5, 2) := by decide +kernel
theorem dL_aqueduct_58 : decode cL_aqueduct 58 = .ok (.bipush 18, 2) := by decide +kernel
theorem dL_aqueduct_60 : decode cL_aqueduct 60 = .ok (.invokestatic 18, 3) := by decide +kernel
theorem dL_aqueduct_63 : decode cL_aqueduct 63 = .ok (.isub, 1) := by decide +kernel
theorem dL_aqueduct_64 : decode cL_aqueduct 64 = .ok (.invokestatic 22, 3) := by decide +kernel
theorem dL_aqueduct_67 : decode cL_aqueduct 67 = .ok (.istore_n 3, 1) := by decide +kernel
theorem dL_aqueduct_68 : decode cL_aqueduct 68 = .ok (.aload_n 1, 1) := by decide +kernel
theorem dL_aqueduct_69 : decode cL_aqueduct 69 = .ok (.iload_n 3, 1) := by decide +kernel
theorem dL_aqueduct_70 : decode cL_aqueduct 70 = .ok (.iconst 1, 1) := by decide +kernel
theorem dL_aqueduct_71 : decode cL_aqueduct 71 = .ok (.iload 5, 2) := by decide +kernel
theorem dL_aqueduct_73 : decode cL_aqueduct 73 = .ok (.iconst 4, 1) := by decide +kernel
theorem dL_aqueduct_74 : decode cL_aqueduct 74 = .ok (.ishr, 1) := by decide +kernel
theorem dL_aqueduct_75 : decode cL_aqueduct 75 = .ok (.bipush 40, 2) := by decide +kernel
theorem dL_aqueduct_77 : decode cL_aqueduct 77 = .ok (.invokestatic 18, 3) := by decide +kernel
theorem dL_aqueduct_80 : decode cL_aqueduct 80 = .ok (.iadd, 1) := by decide +kernel
theorem dL_aqueduct_81 : decode cL_aqueduct 81 = .ok (.invokevirtual 27, 3) := by decide +kernel
theorem dL_aqueduct_84 : decode cL_aqueduct 84 = .ok (.pop, 1) := by decide +kernel
theorem dL_aqueduct_85 : decode cL_aqueduct 85 = .ok (.iload 5, 2) := by decide +kernel
theorem dL_aqueduct_87 : decode cL_aqueduct 87 = .ok (.bipush 7, 2) := by decide +kernel
theorem dL_aqueduct_89 : decode cL_aqueduct 89 = .ok (.ishr, 1) := by decide +kernel
theorem dL_aqueduct_90 : decode cL_aqueduct 90 = .ok (.iconst 3, 1) := by decide +kernel
theorem dL_aqueduct_91 : decode cL_aqueduct 91 = .ok (.invokestatic 18, 3) := by decide +kernel
theorem dL_aqueduct_94 : decode cL_aqueduct 94 = .ok (.ifCond .ne 38, 3) := by decide +kernel
theorem dL_aqueduct_97 : decode cL_aqueduct 97 = .ok (.aload_n 1, 1) := by decide +kernel
theorem dL_aqueduct_98 : decode cL_aqueduct 98 = .ok (.iload 4, 2) := by decide +kernel
theorem dL_aqueduct_100 : decode cL_aqueduct 100 = .ok (.iconst 1, 1) := by decide +kernel
theorem dL_aqueduct_101 : decode cL_aqueduct 101 = .ok (.iload 5, 2) := by decide +kernel
theorem dL_aqueduct_103 : decode cL_aqueduct 103 = .ok (.iconst 5, 1) := by decide +kernel
theorem dL_aqueduct_104 : decode cL_aqueduct 104 = .ok (.ishr, 1) := by decide +kernel
theorem dL_aqueduct_105 : decode cL_aqueduct 105 = .ok (.bipush 30, 2) := by decide +kernel
theorem dL_aqueduct_107 : decode cL_aqueduct 107 = .ok (.invokestatic 18, 3) := by decide +kernel
theorem dL_aqueduct_110 : decode cL_aqueduct 110 = .ok (.iadd, 1) := by decide +kernel
theorem dL_aqueduct_111 : decode cL_aqueduct 111 = .ok (.invokevirtual 30, 3) := by decide +kernel
theorem dL_aqueduct_114 : decode cL_aqueduct 114 = .ok (.pop, 1) := by decide +kernel
theorem dL_aqueduct_115 : decode cL_aqueduct 115 = .ok (.aload_n 1, 1) := by decide +kernel
theorem dL_aqueduct_116 : decode cL_aqueduct 116 = .ok (.iload 4, 2) := by decide +kernel
theorem dL_aqueduct_118 : decode cL_aqueduct 118 = .ok (.iload 5, 2) := by decide +kernel
theorem dL_aqueduct_120 : decode cL_aqueduct 120 = .ok (.bipush 9, 2) := by decide +kernel
theorem dL_aqueduct_122 : decode cL_aqueduct 122 = .ok (.ishr, 1) := by decide +kernel
theorem dL_aqueduct_123 : decode cL_aqueduct 123 = .ok (.bipush 11, 2) := by decide +kernel
theorem dL_aqueduct_125 : decode cL_aqueduct 125 = .ok (.invokestatic 18, 3) := by decide +kernel
theorem dL_aqueduct_128 : decode cL_aqueduct 128 = .ok (.invokevirtual 33, 3) := by decide +kernel
theorem dL_aqueduct_131 : decode cL_aqueduct 131 = .ok (.pop, 1) := by decide +kernel
theorem dL_aqueduct_132 : decode cL_aqueduct 132 = .ok (.iload 5, 2) := by decide +kernel
theorem dL_aqueduct_134 : decode cL_aqueduct 134 = .ok (.bipush 8, 2) := by decide +kernel
theorem dL_aqueduct_136 : decode cL_aqueduct 136 = .ok (.ishr, 1) := by decide +kernel
theorem dL_aqueduct_137 : decode cL_aqueduct 137 = .ok (.iconst 3, 1) := by decide +kernel
theorem dL_aqueduct_138 : decode cL_aqueduct 138 = .ok (.invokestatic 18, 3) := by decide +kernel
theorem dL_aqueduct_141 : decode cL_aqueduct 141 = .ok (.ifCond .ne 22, 3) := by decide +kernel
theorem dL_aqueduct_144 : decode cL_aqueduct 144 = .ok (.aload_n 1, 1) := by decide +kernel
theorem dL_aqueduct_145 : decode cL_aqueduct 145 = .ok (.iload 4, 2) := by decide +kernel
theorem dL_aqueduct_147 : decode cL_aqueduct 147 = .ok (.iconst 1, 1) := by decide +kernel
theorem dL_aqueduct_148 : decode cL_aqueduct 148 = .ok (.iload 5, 2) := by decide +kernel
theorem dL_aqueduct_150 : decode cL_aqueduct 150 = .ok (.bipush 6, 2) := by decide +kernel
theorem dL_aqueduct_152 : decode cL_aqueduct 152 = .ok (.ishr, 1) := by decide +kernel
theorem dL_aqueduct_153 : decode cL_aqueduct 153 = .ok (.bipush 50, 2) := by decide +kernel
theorem dL_aqueduct_155 : decode cL_aqueduct 155 = .ok (.invokestatic 18, 3) := by decide +kernel
theorem dL_aqueduct_158 : decode cL_aqueduct 158 = .ok (.iadd, 1) := by decide +kernel
theorem dL_aqueduct_159 : decode cL_aqueduct 159 = .ok (.invokevirtual 36, 3) := by decide +kernel
theorem dL_aqueduct_162 : decode cL_aqueduct 162 = .ok (.pop, 1) := by decide +kernel
theorem dL_aqueduct_163 : decode cL_aqueduct 163 = .ok (.iinc 4 1, 3) := by decide +kernel
theorem dL_aqueduct_166 : decode cL_aqueduct 166 = .ok (.goto (-138), 3) := by decide +kernel
theorem dL_aqueduct_169 : decode cL_aqueduct 169 = .ok (.iconst 0, 1) := by decide +kernel
theorem dL_aqueduct_170 : decode cL_aqueduct 170 = .ok (.istore 4, 2) := by decide +kernel
theorem dL_aqueduct_172 : decode cL_aqueduct 172 = .ok (.iload 4, 2) := by decide +kernel
theorem dL_aqueduct_174 : decode cL_aqueduct 174 = .ok (.bipush 24, 2) := by decide +kernel
theorem dL_aqueduct_176 : decode cL_aqueduct 176 = .ok (.if_icmp .ge 61, 3) := by decide +kernel
theorem dL_aqueduct_179 : decode cL_aqueduct 179 = .ok (.aload_n 1, 1) := by decide +kernel
theorem dL_aqueduct_180 : decode cL_aqueduct 180 = .ok (.iload 4, 2) := by decide +kernel
theorem dL_aqueduct_182 : decode cL_aqueduct 182 = .ok (.aload_n 0, 1) := by decide +kernel
theorem dL_aqueduct_183 : decode cL_aqueduct 183 = .ok (.bipush 6, 2) := by decide +kernel
theorem dL_aqueduct_185 : decode cL_aqueduct 185 = .ok (.iload 4, 2) := by decide +kernel
theorem dL_aqueduct_187 : decode cL_aqueduct 187 = .ok (.iconst 2, 1) := by decide +kernel
theorem dL_aqueduct_188 : decode cL_aqueduct 188 = .ok (.irem, 1) := by decide +kernel
theorem dL_aqueduct_189 : decode cL_aqueduct 189 = .ok (.iadd, 1) := by decide +kernel
theorem dL_aqueduct_190 : decode cL_aqueduct 190 = .ok (.invokestatic 12, 3) := by decide +kernel
theorem dL_aqueduct_193 : decode cL_aqueduct 193 = .ok (.iload 4, 2) := by decide +kernel
theorem dL_aqueduct_195 : decode cL_aqueduct 195 = .ok (.ishr, 1) := by decide +kernel
theorem dL_aqueduct_196 : decode cL_aqueduct 196 = .ok (.bipush 41, 2) := by decide +kernel
theorem dL_aqueduct_198 : decode cL_aqueduct 198 = .ok (.invokestatic 18, 3) := by decide +kernel
theorem dL_aqueduct_201 : decode cL_aqueduct 201 = .ok (.invokevirtual 39, 3) := by decide +kernel
theorem dL_aqueduct_204 : decode cL_aqueduct 204 = .ok (.pop, 1) := by decide +kernel
theorem dL_aqueduct_205 : decode cL_aqueduct 205 = .ok (.aload_n 1, 1) := by decide +kernel
theorem dL_aqueduct_206 : decode cL_aqueduct 206 = .ok (.iload 4, 2) := by decide +kernel
theorem dL_aqueduct_208 : decode cL_aqueduct 208 = .ok (.aload_n 0, 1) := by decide +kernel
theorem dL_aqueduct_209 : decode cL_aqueduct 209 = .ok (.bipush 8, 2) := by decide +kernel
theorem dL_aqueduct_211 : decode cL_aqueduct 211 = .ok (.iload 4, 2) := by decide +kernel
theorem dL_aqueduct_213 : decode cL_aqueduct 213 = .ok (.iconst 2, 1) := by decide +kernel
theorem dL_aqueduct_214 : decode cL_aqueduct 214 = .ok (.irem, 1) := by decide +kernel
theorem dL_aqueduct_215 : decode cL_aqueduct 215 = .ok (.iadd, 1) := by decide +kernel
theorem dL_aqueduct_216 : decode cL_aqueduct 216 = .ok (.invokestatic 12, 3) := by decide +kernel
theorem dL_aqueduct_219 : decode cL_aqueduct 219 = .ok (.iload 4, 2) := by decide +kernel
theorem dL_aqueduct_221 : decode cL_aqueduct 221 = .ok (.ishr, 1) := by decide +kernel
theorem dL_aqueduct_222 : decode cL_aqueduct 222 = .ok (.bipush 31, 2) := by decide +kernel
theorem dL_aqueduct_224 : decode cL_aqueduct 224 = .ok (.invokestatic 18, 3) := by decide +kernel
theorem dL_aqueduct_227 : decode cL_aqueduct 227 = .ok (.invokevirtual 42, 3) := by decide +kernel
theorem dL_aqueduct_230 : decode cL_aqueduct 230 = .ok (.pop, 1) := by decide +kernel
theorem dL_aqueduct_231 : decode cL_aqueduct 231 = .ok (.iinc 4 1, 3) := by decide +kernel
theorem dL_aqueduct_234 : decode cL_aqueduct 234 = .ok (.goto (-62), 3) := by decide +kernel
theorem dL_aqueduct_237 : decode cL_aqueduct 237 = .ok (.aload_n 1, 1) := by decide +kernel
theorem dL_aqueduct_238 : decode cL_aqueduct 238 = .ok (.aload_n 0, 1) := by decide +kernel
theorem dL_aqueduct_239 : decode cL_aqueduct 239 = .ok (.bipush 10, 2) := by decide +kernel
theorem dL_aqueduct_241 : decode cL_aqueduct 241 = .ok (.invokestatic 12, 3) := by decide +kernel
theorem dL_aqueduct_244 : decode cL_aqueduct 244 = .ok (.sipush 501, 3) := by decide +kernel
theorem dL_aqueduct_247 : decode cL_aqueduct 247 = .ok (.invokestatic 18, 3) := by decide +kernel
theorem dL_aqueduct_250 : decode cL_aqueduct 250 = .ok (.invokevirtual 45, 3) := by decide +kernel
theorem dL_aqueduct_253 : decode cL_aqueduct 253 = .ok (.pop, 1) := by decide +kernel
theorem dL_aqueduct_254 : decode cL_aqueduct 254 = .ok (.aload_n 1, 1) := by decide +kernel
theorem dL_aqueduct_255 : decode cL_aqueduct 255 = .ok (.areturn, 1) := by decide +kernel
theorem dL_law_0 : decode cL_law 0 = .ok (.aload_n 0, 1) := by decide +kernel
theorem dL_law_1 : decode cL_law 1 = .ok (.invokestatic 49, 3) := by decide +kernel
theorem dL_law_4 : decode cL_law 4 = .ok (.astore_n 1, 1) := by decide +kernel
theorem dL_law_5 : decode cL_law 5 = .ok (.aload_n 1, 1) := by decide +kernel
theorem dL_law_6 : decode cL_law 6 = .ok (.iconst 1, 1) := by decide +kernel
theorem dL_law_7 : decode cL_law 7 = .ok (.invokevirtual 53, 3) := by decide +kernel
theorem dL_law_10 : decode cL_law 10 = .ok (.istore_n 2, 1) := by decide +kernel
theorem dL_law_11 : decode cL_law 11 = .ok (.iconst 0, 1) := by decide +kernel
theorem dL_law_12 : decode cL_law 12 = .ok (.istore_n 3, 1) := by decide +kernel
theorem dL_law_13 : decode cL_law 13 = .ok (.iconst 0, 1) := by decide +kernel
theorem dL_law_14 : decode cL_law 14 = .ok (.istore 4, 2) := by decide +kernel
theorem dL_law_16 : decode cL_law 16 = .ok (.iload 4, 2) := by decide +kernel
theorem dL_law_18 : decode cL_law 18 = .ok (.bipush 45, 2) := by decide +kernel
theorem dL_law_20 : decode cL_law 20 = .ok (.if_icmp .ge 609, 3) := by decide +kernel
theorem dL_law_23 : decode cL_law 23 = .ok (.aload_n 0, 1) := by decide +kernel
theorem dL_law_24 : decode cL_law 24 = .ok (.iload 4, 2) := by decide +kernel
theorem dL_law_26 : decode cL_law 26 = .ok (.bipush 16, 2) := by decide +kernel
theorem dL_law_28 : decode cL_law 28 = .ok (.irem, 1) := by decide +kernel
theorem dL_law_29 : decode cL_law 29 = .ok (.invokestatic 12, 3) := by decide +kernel
theorem dL_law_32 : decode cL_law 32 = .ok (.iload 4, 2) := by decide +kernel
theorem dL_law_34 : decode cL_law 34 = .ok (.bipush 16, 2) := by decide +kernel
theorem dL_law_36 : decode cL_law 36 = .ok (.idiv, 1) := by decide +kernel
theorem dL_law_37 : decode cL_law 37 = .ok (.bipush 6, 2) := by decide +kernel
theorem dL_law_39 : decode cL_law 39 = .ok (.imul, 1) := by decide +kernel
theorem dL_law_40 : decode cL_law 40 = .ok (.ishr, 1) := by decide +kernel
theorem dL_law_41 : decode cL_law 41 = .ok (.istore 5, 2) := by decide +kernel
theorem dL_law_43 : decode cL_law 43 = .ok (.iload 5, 2) := by decide +kernel
theorem dL_law_45 : decode cL_law 45 = .ok (.iconst 3, 1) := by decide +kernel
theorem dL_law_46 : decode cL_law 46 = .ok (.ishr, 1) := by decide +kernel
theorem dL_law_47 : decode cL_law 47 = .ok (.iload_n 2, 1) := by decide +kernel
theorem dL_law_48 : decode cL_law 48 = .ok (.invokestatic 18, 3) := by decide +kernel
theorem dL_law_51 : decode cL_law 51 = .ok (.istore 6, 2) := by decide +kernel
theorem dL_law_53 : decode cL_law 53 = .ok (.iload 5, 2) := by decide +kernel
theorem dL_law_55 : decode cL_law 55 = .ok (.bipush 7, 2) := by decide +kernel
theorem dL_law_57 : decode cL_law 57 = .ok (.invokestatic 18, 3) := by decide +kernel
theorem dL_law_60 : decode cL_law 60 = .ok (.tableswitch 152 0 3 #[32, 64, 86, 134], 32) := by decide +kernel
theorem dL_law_92 : decode cL_law 92 = .ok (.aload_n 1, 1) := by decide +kernel
theorem dL_law_93 : decode cL_law 93 = .ok (.iload 6, 2) := by decide +kernel
theorem dL_law_95 : decode cL_law 95 = .ok (.bipush 8, 2) := by decide +kernel
theorem dL_law_97 : decode cL_law 97 = .ok (.invokevirtual 56, 3) := by decide +kernel
theorem dL_law_100 : decode cL_law 100 = .ok (.iconst 1, 1) := by decide +kernel
theorem dL_law_101 : decode cL_law 101 = .ok (.if_icmp .ne 135, 3) := by decide +kernel
theorem dL_law_104 : decode cL_law 104 = .ok (.aload_n 1, 1) := by decide +kernel
theorem dL_law_105 : decode cL_law 105 = .ok (.iload 6, 2) := by decide +kernel
theorem dL_law_107 : decode cL_law 107 = .ok (.iload 5, 2) := by decide +kernel
theorem dL_law_109 : decode cL_law 109 = .ok (.bipush 6, 2) := by decide +kernel
theorem dL_law_111 : decode cL_law 111 = .ok (.ishr, 1) := by decide +kernel
theorem dL_law_112 : decode cL_law 112 = .ok (.bipush 11, 2) := by decide +kernel
theorem dL_law_114 : decode cL_law 114 = .ok (.invokestatic 18, 3) := by decide +kernel
theorem dL_law_117 : decode cL_law 117 = .ok (.invokevirtual 33, 3) := by decide +kernel
theorem dL_law_120 : decode cL_law 120 = .ok (.pop, 1) := by decide +kernel
theorem dL_law_121 : decode cL_law 121 = .ok (.goto 115, 3) := by decide +kernel
theorem dL_law_124 : decode cL_law 124 = .ok (.aload_n 1, 1) := by decide +kernel
theorem dL_law_125 : decode cL_law 125 = .ok (.iload 6, 2) := by decide +kernel
theorem dL_law_127 : decode cL_law 127 = .ok (.iconst 1, 1) := by decide +kernel
theorem dL_law_128 : decode cL_law 128 = .ok (.iload 5, 2) := by decide +kernel
theorem dL_law_130 : decode cL_law 130 = .ok (.bipush 6, 2) := by decide +kernel
theorem dL_law_132 : decode cL_law 132 = .ok (.ishr, 1) := by decide +kernel
theorem dL_law_133 : decode cL_law 133 = .ok (.bipush 20, 2) := by decide +kernel
theorem dL_law_135 : decode cL_law 135 = .ok (.invokestatic 18, 3) := by decide +kernel
theorem dL_law_138 : decode cL_law 138 = .ok (.iadd, 1) := by decide +kernel
theorem dL_law_139 : decode cL_law 139 = .ok (.invokevirtual 36, 3) := by decide +kernel
theorem dL_law_142 : decode cL_law 142 = .ok (.pop, 1) := by decide +kernel
theorem dL_law_143 : decode cL_law 143 = .ok (.goto 93, 3) := by decide +kernel
theorem dL_law_146 : decode cL_law 146 = .ok (.aload_n 1, 1) := by decide +kernel
theorem dL_law_147 : decode cL_law 147 = .ok (.iload 6, 2) := by decide +kernel
theorem dL_law_149 : decode cL_law 149 = .ok (.iconst 3, 1) := by decide +kernel
theorem dL_law_150 : decode cL_law 150 = .ok (.invokevirtual 56, 3) := by decide +kernel
theorem dL_law_153 : decode cL_law 153 = .ok (.istore 7, 2) := by decide +kernel
theorem dL_law_155 : decode cL_law 155 = .ok (.aload_n 1, 1) := by decide +kernel
theorem dL_law_156 : decode cL_law 156 = .ok (.iconst 3, 1) := by decide +kernel
theorem dL_law_157 : decode cL_law 157 = .ok (.invokevirtual 53, 3) := by decide +kernel
theorem dL_law_160 : decode cL_law 160 = .ok (.ifCond .le 76, 3) := by decide +kernel
theorem dL_law_163 : decode cL_law 163 = .ok (.iload 7, 2) := by decide +kernel
theorem dL_law_165 : decode cL_law 165 = .ok (.ifCond .le 71, 3) := by decide +kernel
theorem dL_law_168 : decode cL_law 168 = .ok (.aload_n 1, 1) := by decide +kernel
theorem dL_law_169 : decode cL_law 169 = .ok (.iload 6, 2) := by decide +kernel
theorem dL_law_171 : decode cL_law 171 = .ok (.invokevirtual 59, 3) := by decide +kernel
theorem dL_law_174 : decode cL_law 174 = .ok (.iconst 0, 1) := by decide +kernel
theorem dL_law_175 : decode cL_law 175 = .ok (.iload 7, 2) := by decide +kernel
