theorem dL_cell_0 : decode cL_cell 0 = .ok (.iload_n 1, 1) := by decide +kernel
theorem dL_cell_1 : decode cL_cell 1 = .ok (.aload_n 0, 1) := by decide +kernel
theorem dL_cell_2 : decode cL_cell 2 = .ok (.arraylength, 1) := by decide +kernel
theorem dL_cell_3 : decode cL_cell 3 = .ok (.if_icmp .ge 9, 3) := by decide +kernel
theorem dL_cell_6 : decode cL_cell 6 = .ok (.aload_n 0, 1) := by decide +kernel
theorem dL_cell_7 : decode cL_cell 7 = .ok (.iload_n 1, 1) := by decide +kernel
theorem dL_cell_8 : decode cL_cell 8 = .ok (.iaload, 1) := by decide +kernel
theorem dL_cell_9 : decode cL_cell 9 = .ok (.goto 9, 3) := by decide +kernel
theorem dL_cell_12 : decode cL_cell 12 = .ok (.ldc 7, 2) := by decide +kernel
theorem dL_cell_14 : decode cL_cell 14 = .ok (.iload_n 1, 1) := by decide +kernel
theorem dL_cell_15 : decode cL_cell 15 = .ok (.iconst 1, 1) := by decide +kernel
theorem dL_cell_16 : decode cL_cell 16 = .ok (.iadd, 1) := by decide +kernel
theorem dL_cell_17 : decode cL_cell 17 = .ok (.imul, 1) := by decide +kernel
theorem dL_cell_18 : decode cL_cell 18 = .ok (.ireturn, 1) := by decide +kernel
theorem dL_low_0 : decode cL_low 0 = .ok (.iload_n 0, 1) := by decide +kernel
theorem dL_low_1 : decode cL_low 1 = .ok (.ldc 8, 2) := by decide +kernel
theorem dL_low_3 : decode cL_low 3 = .ok (.iand, 1) := by decide +kernel
theorem dL_low_4 : decode cL_low 4 = .ok (.iload_n 1, 1) := by decide +kernel
theorem dL_low_5 : decode cL_low 5 = .ok (.irem, 1) := by decide +kernel
theorem dL_low_6 : decode cL_low 6 = .ok (.ireturn, 1) := by decide +kernel
theorem dL_shop_0 : decode cL_shop 0 = .ok (.iconst 1, 1) := by decide +kernel
theorem dL_shop_1 : decode cL_shop 1 = .ok (.aload_n 1, 1) := by decide +kernel
theorem dL_shop_2 : decode cL_shop 2 = .ok (.iconst 0, 1) := by decide +kernel
theorem dL_shop_3 : decode cL_shop 3 = .ok (.invokestatic 9, 3) := by decide +kernel
theorem dL_shop_6 : decode cL_shop 6 = .ok (.bipush 9, 2) := by decide +kernel
theorem dL_shop_8 : decode cL_shop 8 = .ok (.invokestatic 15, 3) := by decide +kernel
theorem dL_shop_11 : decode cL_shop 11 = .ok (.iadd, 1) := by decide +kernel
theorem dL_shop_12 : decode cL_shop 12 = .ok (.istore_n 2, 1) := by decide +kernel
theorem dL_shop_13 : decode cL_shop 13 = .ok (.iconst 0, 1) := by decide +kernel
theorem dL_shop_14 : decode cL_shop 14 = .ok (.istore_n 3, 1) := by decide +kernel
theorem dL_shop_15 : decode cL_shop 15 = .ok (.iload_n 3, 1) := by decide +kernel
theorem dL_shop_16 : decode cL_shop 16 = .ok (.iload_n 2, 1) := by decide +kernel
theorem dL_shop_17 : decode cL_shop 17 = .ok (.if_icmp .ge 42, 3) := by decide +kernel
theorem dL_shop_20 : decode cL_shop 20 = .ok (.aload_n 1, 1) := by decide +kernel
theorem dL_shop_21 : decode cL_shop 21 = .ok (.iconst 1, 1) := by decide +kernel
theorem dL_shop_22 : decode cL_shop 22 = .ok (.iload_n 3, 1) := by decide +kernel
theorem dL_shop_23 : decode cL_shop 23 = .ok (.iadd, 1) := by decide +kernel
theorem dL_shop_24 : decode cL_shop 24 = .ok (.invokestatic 9, 3) := by decide +kernel
theorem dL_shop_27 : decode cL_shop 27 = .ok (.istore 4, 2) := by decide +kernel
theorem dL_shop_29 : decode cL_shop 29 = .ok (.aload_n 0, 1) := by decide +kernel
theorem dL_shop_30 : decode cL_shop 30 = .ok (.iconst 1, 1) := by decide +kernel
theorem dL_shop_31 : decode cL_shop 31 = .ok (.iload 4, 2) := by decide +kernel
theorem dL_shop_33 : decode cL_shop 33 = .ok (.bipush 40, 2) := by decide +kernel
theorem dL_shop_35 : decode cL_shop 35 = .ok (.invokestatic 15, 3) := by decide +kernel
theorem dL_shop_38 : decode cL_shop 38 = .ok (.iadd, 1) := by decide +kernel
theorem dL_shop_39 : decode cL_shop 39 = .ok (.aload_n 1, 1) := by decide +kernel
theorem dL_shop_40 : decode cL_shop 40 = .ok (.iload_n 3, 1) := by decide +kernel
theorem dL_shop_41 : decode cL_shop 41 = .ok (.invokestatic 19, 3) := by decide +kernel
theorem dL_shop_44 : decode cL_shop 44 = .ok (.invokevirtual 22, 3) := by decide +kernel
theorem dL_shop_47 : decode cL_shop 47 = .ok (.iload_n 3, 1) := by decide +kernel
theorem dL_shop_48 : decode cL_shop 48 = .ok (.if_icmp .eq 5, 3) := by decide +kernel
theorem dL_shop_51 : decode cL_shop 51 = .ok (.iconst (-1), 1) := by decide +kernel
theorem dL_shop_52 : decode cL_shop 52 = .ok (.ireturn, 1) := by decide +kernel
theorem dL_shop_53 : decode cL_shop 53 = .ok (.iinc 3 1, 3) := by decide +kernel
theorem dL_shop_56 : decode cL_shop 56 = .ok (.goto (-41), 3) := by decide +kernel
theorem dL_shop_59 : decode cL_shop 59 = .ok (.iload_n 2, 1) := by decide +kernel
theorem dL_shop_60 : decode cL_shop 60 = .ok (.ireturn, 1) := by decide +kernel
theorem dL_things_0 : decode cL_things 0 = .ok (.aload_n 0, 1) := by decide +kernel
theorem dL_things_1 : decode cL_things 1 = .ok (.iconst 1, 1) := by decide +kernel
theorem dL_things_2 : decode cL_things 2 = .ok (.iload_n 1, 1) := by decide +kernel
theorem dL_things_3 : decode cL_things 3 = .ok (.iadd, 1) := by decide +kernel
theorem dL_things_4 : decode cL_things 4 = .ok (.invokestatic 9, 3) := by decide +kernel
theorem dL_things_7 : decode cL_things 7 = .ok (.istore_n 2, 1) := by decide +kernel
theorem dL_things_8 : decode cL_things 8 = .ok (.iload_n 2, 1) := by decide +kernel
theorem dL_things_9 : decode cL_things 9 = .ok (.bipush 8, 2) := by decide +kernel
theorem dL_things_11 : decode cL_things 11 = .ok (.ishr, 1) := by decide +kernel
theorem dL_things_12 : decode cL_things 12 = .ok (.iload_n 2, 1) := by decide +kernel
theorem dL_things_13 : decode cL_things 13 = .ok (.bipush 16, 2) := by decide +kernel
theorem dL_things_15 : decode cL_things 15 = .ok (.ishr, 1) := by decide +kernel
theorem dL_things_16 : decode cL_things 16 = .ok (.iand, 1) := by decide +kernel
theorem dL_things_17 : decode cL_things 17 = .ok (.sipush 4095, 3) := by decide +kernel
theorem dL_things_20 : decode cL_things 20 = .ok (.iand, 1) := by decide +kernel
theorem dL_things_21 : decode cL_things 21 = .ok (.iconst 1, 1) := by decide +kernel
theorem dL_things_22 : decode cL_things 22 = .ok (.iload_n 2, 1) := by decide +kernel
theorem dL_things_23 : decode cL_things 23 = .ok (.iconst 4, 1) := by decide +kernel
theorem dL_things_24 : decode cL_things 24 = .ok (.ishr, 1) := by decide +kernel
theorem dL_things_25 : decode cL_things 25 = .ok (.bipush 12, 2) := by decide +kernel
theorem dL_things_27 : decode cL_things 27 = .ok (.invokestatic 15, 3) := by decide +kernel
theorem dL_things_30 : decode cL_things 30 = .ok (.ishl, 1) := by decide +kernel
theorem dL_things_31 : decode cL_things 31 = .ok (.ior, 1) := by decide +kernel
theorem dL_things_32 : decode cL_things 32 = .ok (.ireturn, 1) := by decide +kernel
theorem dL_cost_0 : decode cL_cost 0 = .ok (.iconst 1, 1) := by decide +kernel
theorem dL_cost_1 : decode cL_cost 1 = .ok (.aload_n 0, 1) := by decide +kernel
theorem dL_cost_2 : decode cL_cost 2 = .ok (.iconst 1, 1) := by decide +kernel
theorem dL_cost_3 : decode cL_cost 3 = .ok (.iload_n 1, 1) := by decide +kernel
theorem dL_cost_4 : decode cL_cost 4 = .ok (.iadd, 1) := by decide +kernel
theorem dL_cost_5 : decode cL_cost 5 = .ok (.invokestatic 9, 3) := by decide +kernel
theorem dL_cost_8 : decode cL_cost 8 = .ok (.bipush 40, 2) := by decide +kernel
theorem dL_cost_10 : decode cL_cost 10 = .ok (.invokestatic 15, 3) := by decide +kernel
theorem dL_cost_13 : decode cL_cost 13 = .ok (.iadd, 1) := by decide +kernel
theorem dL_cost_14 : decode cL_cost 14 = .ok (.ireturn, 1) := by decide +kernel
theorem dL_law_0 : decode cL_law 0 = .ok (.new 23, 3) := by decide +kernel
theorem dL_law_3 : decode cL_law 3 = .ok (.dup, 1) := by decide +kernel
theorem dL_law_4 : decode cL_law 4 = .ok (.invokespecial 27, 3) := by decide +kernel
theorem dL_law_7 : decode cL_law 7 = .ok (.astore_n 1, 1) := by decide +kernel
theorem dL_law_8 : decode cL_law 8 = .ok (.aload_n 1, 1) := by decide +kernel
theorem dL_law_9 : decode cL_law 9 = .ok (.aload_n 0, 1) := by decide +kernel
theorem dL_law_10 : decode cL_law 10 = .ok (.invokestatic 28, 3) := by decide +kernel
theorem dL_law_13 : decode cL_law 13 = .ok (.istore_n 2, 1) := by decide +kernel
theorem dL_law_14 : decode cL_law 14 = .ok (.iload_n 2, 1) := by decide +kernel
theorem dL_law_15 : decode cL_law 15 = .ok (.iconst 1, 1) := by decide +kernel
theorem dL_law_16 : decode cL_law 16 = .ok (.if_icmp .ge 5, 3) := by decide +kernel
theorem dL_law_19 : decode cL_law 19 = .ok (.iconst 0, 1) := by decide +kernel
theorem dL_law_20 : decode cL_law 20 = .ok (.ireturn, 1) := by decide +kernel
theorem dL_law_21 : decode cL_law 21 = .ok (.iconst 0, 1) := by decide +kernel
theorem dL_law_22 : decode cL_law 22 = .ok (.istore_n 3, 1) := by decide +kernel
theorem dL_law_23 : decode cL_law 23 = .ok (.iconst 0, 1) := by decide +kernel
theorem dL_law_24 : decode cL_law 24 = .ok (.istore 4, 2) := by decide +kernel
theorem dL_law_26 : decode cL_law 26 = .ok (.iconst 0, 1) := by decide +kernel
theorem dL_law_27 : decode cL_law 27 = .ok (.istore 5, 2) := by decide +kernel
theorem dL_law_29 : decode cL_law 29 = .ok (.bipush 12, 2) := by decide +kernel
theorem dL_law_31 : decode cL_law 31 = .ok (.newarray .int, 2) := by decide +kernel
theorem dL_law_33 : decode cL_law 33 = .ok (.astore 6, 2) := by decide +kernel
theorem dL_law_35 : decode cL_law 35 = .ok (.iconst 0, 1) := by decide +kernel
theorem dL_law_36 : decode cL_law 36 = .ok (.istore 7, 2) := by decide +kernel
theorem dL_law_38 : decode cL_law 38 = .ok (.iload 7, 2) := by decide +kernel
theorem dL_law_40 : decode cL_law 40 = .ok (.bipush 20, 2) := by decide +kernel
theorem dL_law_42 : decode cL_law 42 = .ok (.if_icmp .ge 382, 3) := by decide +kernel
theorem dL_law_45 : decode cL_law 45 = .ok (.aload_n 0, 1) := by decide +kernel
theorem dL_law_46 : decode cL_law 46 = .ok (.bipush 11, 2) := by decide +kernel
theorem dL_law_48 : decode cL_law 48 = .ok (.iload 7, 2) := by decide +kernel
theorem dL_law_50 : decode cL_law 50 = .ok (.iadd, 1) := by decide +kernel
theorem dL_law_51 : decode cL_law 51 = .ok (.invokestatic 9, 3) := by decide +kernel
theorem dL_law_54 : decode cL_law 54 = .ok (.bipush 13, 2) := by decide +kernel
theorem dL_law_56 : decode cL_law 56 = .ok (.invokestatic 15, 3) := by decide +kernel
theorem dL_law_59 : decode cL_law 59 = .ok (.istore 8, 2) := by decide +kernel
theorem dL_law_61 : decode cL_law 61 = .ok (.iconst 0, 1) := by decide +kernel
theorem dL_law_62 : decode cL_law 62 = .ok (.istore 9, 2) := by decide +kernel
theorem dL_law_64 : decode cL_law 64 = .ok (.ldc 32, 2) := by decide +kernel
theorem dL_law_66 : decode cL_law 66 = .ok (.istore 10, 2) := by decide +kernel
theorem dL_law_68 : decode cL_law 68 = .ok (.iconst 0, 1) := by decide +kernel
theorem dL_law_69 : decode cL_law 69 = .ok (.istore 11, 2) := by decide +kernel
theorem dL_law_71 : decode cL_law 71 = .ok (.iload 11, 2) := by decide +kernel
theorem dL_law_73 : decode cL_law 73 = .ok (.iload_n 2, 1) := by decide +kernel
theorem dL_law_74 : decode cL_law 74 = .ok (.if_icmp .ge 102, 3) := by decide +kernel
theorem dL_law_77 : decode cL_law 77 = .ok (.iload 8, 2) := by decide +kernel
theorem dL_law_79 : decode cL_law 79 = .ok (.bipush 12, 2) := by decide +kernel
theorem dL_law_81 : decode cL_law 81 = .ok (.if_icmp .ge 89, 3) := by decide +kernel
theorem dL_law_84 : decode cL_law 84 = .ok (.aload_n 0, 1) := by decide +kernel
theorem dL_law_85 : decode cL_law 85 = .ok (.iload 11, 2) := by decide +kernel
theorem dL_law_87 : decode cL_law 87 = .ok (.invokestatic 19, 3) := by decide +kernel
theorem dL_law_90 : decode cL_law 90 = .ok (.iload 8, 2) := by decide +kernel
theorem dL_law_92 : decode cL_law 92 = .ok (.ishr, 1) := by decide +kernel
theorem dL_law_93 : decode cL_law 93 = .ok (.iconst 1, 1) := by decide +kernel
theorem dL_law_94 : decode cL_law 94 = .ok (.iand, 1) := by decide +kernel
theorem dL_law_95 : decode cL_law 95 = .ok (.iconst 1, 1) := by decide +kernel
theorem dL_law_96 : decode cL_law 96 = .ok (.if_icmp .ne 74, 3) := by decide +kernel
theorem dL_law_99 : decode cL_law 99 = .ok (.iload 9, 2) := by decide +kernel
theorem dL_law_101 : decode cL_law 101 = .ok (.iconst 1, 1) := by decide +kernel
theorem dL_law_102 : decode cL_law 102 = .ok (.iload 11, 2) := by decide +kernel
theorem dL_law_104 : decode cL_law 104 = .ok (.ishl, 1) := by decide +kernel
theorem dL_law_105 : decode cL_law 105 = .ok (.ior, 1) := by decide +kernel
theorem dL_law_106 : decode cL_law 106 = .ok (.istore 9, 2) := by decide +kernel
theorem dL_law_108 : decode cL_law 108 = .ok (.aload_n 0, 1) := by decide +kernel
theorem dL_law_109 : decode cL_law 109 = .ok (.iload 11, 2) := by decide +kernel
theorem dL_law_111 : decode cL_law 111 = .ok (.invokestatic 33, 3) := by decide +kernel
theorem dL_law_114 : decode cL_law 114 = .ok (.istore 12, 2) := by decide +kernel
theorem dL_law_116 : decode cL_law 116 = .ok (.iconst 0, 1) := by decide +kernel
theorem dL_law_117 : decode cL_law 117 = .ok (.istore 13, 2) := by decide +kernel
theorem dL_law_119 : decode cL_law 119 = .ok (.iload 13, 2) := by decide +kernel
theorem dL_law_121 : decode cL_law 121 = .ok (.bipush 12, 2) := by decide +kernel
theorem dL_law_123 : decode cL_law 123 = .ok (.if_icmp .ge 31, 3) := by decide +kernel
theorem dL_law_126 : decode cL_law 126 = .ok (.iload 12, 2) := by decide +kernel
theorem dL_law_128 : decode cL_law 128 = .ok (.aload_n 0, 1) := by decide +kernel
theorem dL_law_129 : decode cL_law 129 = .ok (.iload 11, 2) := by decide +kernel
theorem dL_law_131 : decode cL_law 131 = .ok (.invokestatic 19, 3) := by decide +kernel
theorem dL_law_134 : decode cL_law 134 = .ok (.iload 13, 2) := by decide +kernel
theorem dL_law_136 : decode cL_law 136 = .ok (.ishr, 1) := by decide +kernel
theorem dL_law_137 : decode cL_law 137 = .ok (.iconst 1, 1) := by decide +kernel
theorem dL_law_138 : decode cL_law 138 = .ok (.iand, 1) := by decide +kernel
theorem dL_law_139 : decode cL_law 139 = .ok (.aload 6, 2) := by decide +kernel
theorem dL_law_141 : decode cL_law 141 = .ok (.iload 13, 2) := by decide +kernel
theorem dL_law_143 : decode cL_law 143 = .ok (.iaload, 1) := by decide +kernel
theorem dL_law_144 : decode cL_law 144 = .ok (.imul, 1) := by decide +kernel
theorem dL_law_145 : decode cL_law 145 = .ok (.isub, 1) := by decide +kernel
theorem dL_law_146 : decode cL_law 146 = .ok (.istore 12, 2) := by decide +kernel
theorem dL_law_148 : decode cL_law 148 = .ok (.iinc 13 1, 3) := by decide +kernel
theorem dL_law_151 : decode cL_law 151 = .ok (.goto (-32), 3) := by decide +kernel
theorem dL_law_154 : decode cL_law 154 = .ok (.iload 12, 2) := by decide +kernel
theorem dL_law_156 : decode cL_law 156 = .ok (.iload 10, 2) := by decide +kernel
theorem dL_law_158 : decode cL_law 158 = .ok (.if_icmp .ge 8, 3) := by decide +kernel
theorem dL_law_161 : decode cL_law 161 = .ok (.iload 12, 2) := by decide +kernel
theorem dL_law_163 : decode cL_law 163 = .ok (.goto 5, 3) := by decide +kernel
theorem dL_law_166 : decode cL_law 166 = .ok (.iload 10, 2) := by decide +kernel
theorem dL_law_168 : decode cL_law 168 = .ok (.istore 10, 2) := by decide +kernel
theorem dL_law_170 : decode cL_law 170 = .ok (.iinc 11 1, 3) := by decide +kernel
theorem dL_law_173 : decode cL_law 173 = .ok (.goto (-102), 3) := by decide +kernel
theorem dL_law_176 : decode cL_law 176 = .ok (.iconst 0, 1) := by decide +kernel
theorem dL_law_177 : decode cL_law 177 = .ok (.istore 11, 2) := by decide +kernel
theorem dL_law_179 : decode cL_law 179 = .ok (.iload 9, 2) := by decide +kernel
theorem dL_law_181 : decode cL_law 181 = .ok (.ifCond .eq 125, 3) := by decide +kernel
theorem dL_law_184 : decode cL_law 184 = .ok (.iload_n 3, 1) := by decide +kernel
theorem dL_law_185 : decode cL_law 185 = .ok (.iconst 1, 1) := by decide +kernel
theorem dL_law_186 : decode cL_law 186 = .ok (.iload 8, 2) := by decide +kernel
theorem dL_law_188 : decode cL_law 188 = .ok (.ishl, 1) := by decide +kernel
theorem dL_law_189 : decode cL_law 189 = .ok (.ior, 1) := by decide +kernel
theorem dL_law_190 : decode cL_law 190 = .ok (.istore_n 3, 1) := by decide +kernel
theorem dL_law_191 : decode cL_law 191 = .ok (.iload 9, 2) := by decide +kernel
theorem dL_law_193 : decode cL_law 193 = .ok (.iload 4, 2) := by decide +kernel
theorem dL_law_195 : decode cL_law 195 = .ok (.iand, 1) := by decide +kernel
theorem dL_law_196 : decode cL_law 196 = .ok (.ifCond .ne 110, 3) := by decide +kernel
theorem dL_law_199 : decode cL_law 199 = .ok (.aload 6, 2) := by decide +kernel
theorem dL_law_201 : decode cL_law 201 = .ok (.iload 8, 2) := by decide +kernel
theorem dL_law_203 : decode cL_law 203 = .ok (.dup2, 1) := by decide +kernel
theorem dL_law_204 : decode cL_law 204 = .ok (.iaload, 1) := by decide +kernel
theorem dL_law_205 : decode cL_law 205 = .ok (.iload 10, 2) := by decide +kernel
theorem dL_law_207 : decode cL_law 207 = .ok (.iadd, 1) := by decide +kernel
theorem dL_law_208 : decode cL_law 208 = .ok (.iastore, 1) := by decide +kernel
theorem dL_law_209 : decode cL_law 209 = .ok (.iconst 0, 1) := by decide +kernel
theorem dL_law_210 : decode cL_law 210 = .ok (.istore 12, 2) := by decide +kernel
theorem dL_law_212 : decode cL_law 212 = .ok (.iload 12, 2) := by decide +kernel
theorem dL_law_214 : decode cL_law 214 = .ok (.iload_n 2, 1) := by decide +kernel
theorem dL_law_215 : decode cL_law 215 = .ok (.if_icmp .ge 91, 3) := by decide +kernel
theorem dL_law_218 : decode cL_law 218 = .ok (.aload_n 0, 1) := by decide +kernel
theorem dL_law_219 : decode cL_law 219 = .ok (.iload 12, 2) := by decide +kernel
theorem dL_law_221 : decode cL_law 221 = .ok (.invokestatic 33, 3) := by decide +kernel
theorem dL_law_224 : decode cL_law 224 = .ok (.istore 13, 2) := by decide +kernel
theorem dL_law_226 : decode cL_law 226 = .ok (.iconst 0, 1) := by decide +kernel
theorem dL_law_227 : decode cL_law 227 = .ok (.istore 14, 2) := by decide +kernel
theorem dL_law_229 : decode cL_law 229 = .ok (.iload 14, 2) := by decide +kernel
theorem dL_law_231 : decode cL_law 231 = .ok (.bipush 12, 2) := by decide +kernel
theorem dL_law_233 : decode cL_law 233 = .ok (.if_icmp .ge 31, 3) := by decide +kernel
theorem dL_law_236 : decode cL_law 236 = .ok (.iload 13, 2) := by decide +kernel
theorem dL_law_238 : decode cL_law 238 = .ok (.aload_n 0, 1) := by decide +kernel
theorem dL_law_239 : decode cL_law 239 = .ok (.iload 12, 2) := by decide +kernel
theorem dL_law_241 : decode cL_law 241 = .ok (.invokestatic 19, 3) := by decide +kernel
theorem dL_law_244 : decode cL_law 244 = .ok (.iload 14, 2) := by decide +kernel
theorem dL_law_246 : decode cL_law 246 = .ok (.ishr, 1) := by decide +kernel
theorem dL_law_247 : decode cL_law 247 = .ok (.iconst 1, 1) := by decide +kernel
theorem dL_law_248 : decode cL_law 248 = .ok (.iand, 1) := by decide +kernel
theorem dL_law_249 : decode cL_law 249 = .ok (.aload 6, 2) := by decide +kernel
theorem dL_law_251 : decode cL_law 251 = .ok (.iload 14, 2) := by decide +kernel
theorem dL_law_253 : decode cL_law 253 = .ok (.iaload, 1) := by decide +kernel
theorem dL_law_254 : decode cL_law 254 = .ok (.imul, 1) := by decide +kernel
theorem dL_law_255 : decode cL_law 255 = .ok (.isub, 1) := by decide +kernel
theorem dL_law_256 : decode cL_law 256 = .ok (.istore 13, 2) := by decide +kernel
theorem dL_law_258 : decode cL_law 258 = .ok (.iinc 14 1, 3) := by decide +kernel
theorem dL_law_261 : decode cL_law 261 = .ok (.goto (-32), 3) := by decide +kernel
theorem dL_law_264 : decode cL_law 264 = .ok (.iload 9, 2) := by decide +kernel
theorem dL_law_266 : decode cL_law 266 = .ok (.iload 12, 2) := by decide +kernel
theorem dL_law_268 : decode cL_law 268 = .ok (.ishr, 1) := by decide +kernel
theorem dL_law_269 : decode cL_law 269 = .ok (.iconst 1, 1) := by decide +kernel
theorem dL_law_270 : decode cL_law 270 = .ok (.iand, 1) := by decide +kernel
theorem dL_law_271 : decode cL_law 271 = .ok (.iconst 1, 1) := by decide +kernel
theorem dL_law_272 : decode cL_law 272 = .ok (.if_icmp .ne 28, 3) := by decide +kernel
theorem dL_law_275 : decode cL_law 275 = .ok (.iload 13, 2) := by decide +kernel
theorem dL_law_277 : decode cL_law 277 = .ok (.ifCond .ne 23, 3) := by decide +kernel
theorem dL_law_280 : decode cL_law 280 = .ok (.iload 4, 2) := by decide +kernel
theorem dL_law_282 : decode cL_law 282 = .ok (.iconst 1, 1) := by decide +kernel
theorem dL_law_283 : decode cL_law 283 = .ok (.iload 12, 2) := by decide +kernel
theorem dL_law_285 : decode cL_law 285 = .ok (.ishl, 1) := by decide +kernel
theorem dL_law_286 : decode cL_law 286 = .ok (.ior, 1) := by decide +kernel
theorem dL_law_287 : decode cL_law 287 = .ok (.istore 4, 2) := by decide +kernel
theorem dL_law_289 : decode cL_law 289 = .ok (.iload 11, 2) := by decide +kernel
theorem dL_law_291 : decode cL_law 291 = .ok (.aload_n 0, 1) := by decide +kernel
theorem dL_law_292 : decode cL_law 292 = .ok (.iload 12, 2) := by decide +kernel
theorem dL_law_294 : decode cL_law 294 = .ok (.invokestatic 33, 3) := by decide +kernel
theorem dL_law_297 : decode cL_law 297 = .ok (.iadd, 1) := by decide +kernel
theorem dL_law_298 : decode cL_law 298 = .ok (.istore 11, 2) := by decide +kernel
theorem dL_law_300 : decode cL_law 300 = .ok (.iinc 12 1, 3) := by decide +kernel
theorem dL_law_303 : decode cL_law 303 = .ok (.goto (-91), 3) := by decide +kernel
theorem dL_law_306 : decode cL_law 306 = .ok (.aload_n 1, 1) := by decide +kernel
theorem dL_law_307 : decode cL_law 307 = .ok (.iload 8, 2) := by decide +kernel
theorem dL_law_309 : decode cL_law 309 = .ok (.invokevirtual 36, 3) := by decide +kernel
theorem dL_law_312 : decode cL_law 312 = .ok (.iload 8, 2) := by decide +kernel
theorem dL_law_314 : decode cL_law 314 = .ok (.bipush 12, 2) := by decide +kernel
theorem dL_law_316 : decode cL_law 316 = .ok (.if_icmp .ne 8, 3) := by decide +kernel
theorem dL_law_319 : decode cL_law 319 = .ok (.ldc 40, 2) := by decide +kernel
theorem dL_law_321 : decode cL_law 321 = .ok (.goto 15, 3) := by decide +kernel
theorem dL_law_324 : decode cL_law 324 = .ok (.iload 9, 2) := by decide +kernel
theorem dL_law_326 : decode cL_law 326 = .ok (.ifCond .ne 8, 3) := by decide +kernel
theorem dL_law_329 : decode cL_law 329 = .ok (.ldc 41, 2) := by decide +kernel
theorem dL_law_331 : decode cL_law 331 = .ok (.goto 5, 3) := by decide +kernel
theorem dL_law_334 : decode cL_law 334 = .ok (.iload 11, 2) := by decide +kernel
theorem dL_law_336 : decode cL_law 336 = .ok (.if_icmp .ne 21, 3) := by decide +kernel
theorem dL_law_339 : decode cL_law 339 = .ok (.iload 11, 2) := by decide +kernel
theorem dL_law_341 : decode cL_law 341 = .ok (.ifCond .ne 18, 3) := by decide +kernel
theorem dL_law_344 : decode cL_law 344 = .ok (.iload 9, 2) := by decide +kernel
theorem dL_law_346 : decode cL_law 346 = .ok (.ifCond .eq 13, 3) := by decide +kernel
theorem dL_law_349 : decode cL_law 349 = .ok (.iload 9, 2) := by decide +kernel
theorem dL_law_351 : decode cL_law 351 = .ok (.iload 4, 2) := by decide +kernel
theorem dL_law_353 : decode cL_law 353 = .ok (.iand, 1) := by decide +kernel
theorem dL_law_354 : decode cL_law 354 = .ok (.ifCond .ne 5, 3) := by decide +kernel
theorem dL_law_357 : decode cL_law 357 = .ok (.iconst 0, 1) := by decide +kernel
theorem dL_law_358 : decode cL_law 358 = .ok (.ireturn, 1) := by decide +kernel
theorem dL_law_359 : decode cL_law 359 = .ok (.iload 5, 2) := by decide +kernel
theorem dL_law_361 : decode cL_law 361 = .ok (.iload 11, 2) := by decide +kernel
theorem dL_law_363 : decode cL_law 363 = .ok (.iadd, 1) := by decide +kernel
theorem dL_law_364 : decode cL_law 364 = .ok (.istore 5, 2) := by decide +kernel
theorem dL_law_366 : decode cL_law 366 = .ok (.aload_n 1, 1) := by decide +kernel
theorem dL_law_367 : decode cL_law 367 = .ok (.iconst 0, 1) := by decide +kernel
theorem dL_law_368 : decode cL_law 368 = .ok (.invokevirtual 42, 3) := by decide +kernel
theorem dL_law_371 : decode cL_law 371 = .ok (.iload 5, 2) := by decide +kernel
theorem dL_law_373 : decode cL_law 373 = .ok (.if_icmp .ne 43, 3) := by decide +kernel
theorem dL_law_376 : decode cL_law 376 = .ok (.aload_n 1, 1) := by decide +kernel
theorem dL_law_377 : decode cL_law 377 = .ok (.iconst 4, 1) := by decide +kernel
theorem dL_law_378 : decode cL_law 378 = .ok (.invokevirtual 42, 3) := by decide +kernel
theorem dL_law_381 : decode cL_law 381 = .ok (.iload_n 3, 1) := by decide +kernel
theorem dL_law_382 : decode cL_law 382 = .ok (.if_icmp .ne 34, 3) := by decide +kernel
theorem dL_law_385 : decode cL_law 385 = .ok (.aload_n 1, 1) := by decide +kernel
theorem dL_law_386 : decode cL_law 386 = .ok (.iconst 5, 1) := by decide +kernel
theorem dL_law_387 : decode cL_law 387 = .ok (.invokevirtual 42, 3) := by decide +kernel
theorem dL_law_390 : decode cL_law 390 = .ok (.iload 4, 2) := by decide +kernel
theorem dL_law_392 : decode cL_law 392 = .ok (.if_icmp .ne 24, 3) := by decide +kernel
theorem dL_law_395 : decode cL_law 395 = .ok (.iload 8, 2) := by decide +kernel
theorem dL_law_397 : decode cL_law 397 = .ok (.bipush 12, 2) := by decide +kernel
theorem dL_law_399 : decode cL_law 399 = .ok (.if_icmp .ge 19, 3) := by decide +kernel
theorem dL_law_402 : decode cL_law 402 = .ok (.aload_n 1, 1) := by decide +kernel
theorem dL_law_403 : decode cL_law 403 = .ok (.iload 8, 2) := by decide +kernel
theorem dL_law_405 : decode cL_law 405 = .ok (.invokevirtual 45, 3) := by decide +kernel
theorem dL_law_408 : decode cL_law 408 = .ok (.aload 6, 2) := by decide +kernel
theorem dL_law_410 : decode cL_law 410 = .ok (.iload 8, 2) := by decide +kernel
theorem dL_law_412 : decode cL_law 412 = .ok (.iaload, 1) := by decide +kernel
theorem dL_law_413 : decode cL_law 413 = .ok (.if_icmp .eq 5, 3) := by decide +kernel
theorem dL_law_416 : decode cL_law 416 = .ok (.iconst 0, 1) := by decide +kernel
theorem dL_law_417 : decode cL_law 417 = .ok (.ireturn, 1) := by decide +kernel
theorem dL_law_418 : decode cL_law 418 = .ok (.iinc 7 1, 3) := by decide +kernel
theorem dL_law_421 : decode cL_law 421 = .ok (.goto (-383), 3) := by decide +kernel
theorem dL_law_424 : decode cL_law 424 = .ok (.iconst 0, 1) := by decide +kernel
theorem dL_law_425 : decode cL_law 425 = .ok (.istore 7, 2) := by decide +kernel
theorem dL_law_427 : decode cL_law 427 = .ok (.iconst 0, 1) := by decide +kernel
theorem dL_law_428 : decode cL_law 428 = .ok (.istore 8, 2) := by decide +kernel
theorem dL_law_430 : decode cL_law 430 = .ok (.iconst 0, 1) := by decide +kernel
theorem dL_law_431 : decode cL_law 431 = .ok (.istore 9, 2) := by decide +kernel
theorem dL_law_433 : decode cL_law 433 = .ok (.iload 9, 2) := by decide +kernel
theorem dL_law_435 : decode cL_law 435 = .ok (.bipush 12, 2) := by decide +kernel
theorem dL_law_437 : decode cL_law 437 = .ok (.if_icmp .ge 74, 3) := by decide +kernel
theorem dL_law_440 : decode cL_law 440 = .ok (.iload 7, 2) := by decide +kernel
theorem dL_law_442 : decode cL_law 442 = .ok (.aload 6, 2) := by decide +kernel
theorem dL_law_444 : decode cL_law 444 = .ok (.iload 9, 2) := by decide +kernel
theorem dL_law_446 : decode cL_law 446 = .ok (.iaload, 1) := by decide +kernel
theorem dL_law_447 : decode cL_law 447 = .ok (.iadd, 1) := by decide +kernel
theorem dL_law_448 : decode cL_law 448 = .ok (.istore 7, 2) := by decide +kernel
theorem dL_law_450 : decode cL_law 450 = .ok (.iconst 0, 1) := by decide +kernel
theorem dL_law_451 : decode cL_law 451 = .ok (.istore 10, 2) := by decide +kernel
theorem dL_law_453 : decode cL_law 453 = .ok (.iconst 0, 1) := by decide +kernel
theorem dL_law_454 : decode cL_law 454 = .ok (.istore 11, 2) := by decide +kernel
theorem dL_law_456 : decode cL_law 456 = .ok (.iload 11, 2) := by decide +kernel
theorem dL_law_458 : decode cL_law 458 = .ok (.iload_n 2, 1) := by decide +kernel
theorem dL_law_459 : decode cL_law 459 = .ok (.if_icmp .ge 30, 3) := by decide +kernel
theorem dL_law_462 : decode cL_law 462 = .ok (.iload 10, 2) := by decide +kernel
theorem dL_law_464 : decode cL_law 464 = .ok (.aload_n 0, 1) := by decide +kernel
theorem dL_law_465 : decode cL_law 465 = .ok (.iload 11, 2) := by decide +kernel
theorem dL_law_467 : decode cL_law 467 = .ok (.invokestatic 19, 3) := by decide +kernel
theorem dL_law_470 : decode cL_law 470 = .ok (.iload 9, 2) := by decide +kernel
theorem dL_law_472 : decode cL_law 472 = .ok (.ishr, 1) := by decide +kernel
theorem dL_law_473 : decode cL_law 473 = .ok (.iload_n 3, 1) := by decide +kernel
theorem dL_law_474 : decode cL_law 474 = .ok (.iload 9, 2) := by decide +kernel
theorem dL_law_476 : decode cL_law 476 = .ok (.ishr, 1) := by decide +kernel
theorem dL_law_477 : decode cL_law 477 = .ok (.iand, 1) := by decide +kernel
theorem dL_law_478 : decode cL_law 478 = .ok (.iconst 1, 1) := by decide +kernel
theorem dL_law_479 : decode cL_law 479 = .ok (.iand, 1) := by decide +kernel
theorem dL_law_480 : decode cL_law 480 = .ok (.iadd, 1) := by decide +kernel
theorem dL_law_481 : decode cL_law 481 = .ok (.istore 10, 2) := by decide +kernel
theorem dL_law_483 : decode cL_law 483 = .ok (.iinc 11 1, 3) := by decide +kernel
theorem dL_law_486 : decode cL_law 486 = .ok (.goto (-30), 3) := by decide +kernel
theorem dL_law_489 : decode cL_law 489 = .ok (.iload 10, 2) := by decide +kernel
theorem dL_law_491 : decode cL_law 491 = .ok (.iload 8, 2) := by decide +kernel
theorem dL_law_493 : decode cL_law 493 = .ok (.if_icmp .le 8, 3) := by decide +kernel
theorem dL_law_496 : decode cL_law 496 = .ok (.iload 10, 2) := by decide +kernel
theorem dL_law_498 : decode cL_law 498 = .ok (.goto 5, 3) := by decide +kernel
theorem dL_law_501 : decode cL_law 501 = .ok (.iload 8, 2) := by decide +kernel
theorem dL_law_503 : decode cL_law 503 = .ok (.istore 8, 2) := by decide +kernel
theorem dL_law_505 : decode cL_law 505 = .ok (.iinc 9 1, 3) := by decide +kernel
theorem dL_law_508 : decode cL_law 508 = .ok (.goto (-75), 3) := by decide +kernel
theorem dL_law_511 : decode cL_law 511 = .ok (.iconst 0, 1) := by decide +kernel
theorem dL_law_512 : decode cL_law 512 = .ok (.istore 9, 2) := by decide +kernel
theorem dL_law_514 : decode cL_law 514 = .ok (.iconst 0, 1) := by decide +kernel
theorem dL_law_515 : decode cL_law 515 = .ok (.istore 10, 2) := by decide +kernel
theorem dL_law_517 : decode cL_law 517 = .ok (.iload 10, 2) := by decide +kernel
theorem dL_law_519 : decode cL_law 519 = .ok (.iload_n 2, 1) := by decide +kernel
theorem dL_law_520 : decode cL_law 520 = .ok (.if_icmp .ge 199, 3) := by decide +kernel
theorem dL_law_523 : decode cL_law 523 = .ok (.iconst 0, 1) := by decide +kernel
theorem dL_law_524 : decode cL_law 524 = .ok (.istore 11, 2) := by decide +kernel
theorem dL_law_526 : decode cL_law 526 = .ok (.iconst 0, 1) := by decide +kernel
theorem dL_law_527 : decode cL_law 527 = .ok (.istore 12, 2) := by decide +kernel
theorem dL_law_529 : decode cL_law 529 = .ok (.iload 12, 2) := by decide +kernel
theorem dL_law_531 : decode cL_law 531 = .ok (.bipush 12, 2) := by decide +kernel
theorem dL_law_533 : decode cL_law 533 = .ok (.if_icmp .ge 31, 3) := by decide +kernel
theorem dL_law_536 : decode cL_law 536 = .ok (.iload 11, 2) := by decide +kernel
theorem dL_law_538 : decode cL_law 538 = .ok (.aload_n 0, 1) := by decide +kernel
theorem dL_law_539 : decode cL_law 539 = .ok (.iload 10, 2) := by decide +kernel
theorem dL_law_541 : decode cL_law 541 = .ok (.invokestatic 19, 3) := by decide +kernel
theorem dL_law_544 : decode cL_law 544 = .ok (.iload 12, 2) := by decide +kernel
theorem dL_law_546 : decode cL_law 546 = .ok (.ishr, 1) := by decide +kernel
theorem dL_law_547 : decode cL_law 547 = .ok (.iconst 1, 1) := by decide +kernel
theorem dL_law_548 : decode cL_law 548 = .ok (.iand, 1) := by decide +kernel
theorem dL_law_549 : decode cL_law 549 = .ok (.aload 6, 2) := by decide +kernel
theorem dL_law_551 : decode cL_law 551 = .ok (.iload 12, 2) := by decide +kernel
theorem dL_law_553 : decode cL_law 553 = .ok (.iaload, 1) := by decide +kernel
theorem dL_law_554 : decode cL_law 554 = .ok (.imul, 1) := by decide +kernel
theorem dL_law_555 : decode cL_law 555 = .ok (.iadd, 1) := by decide +kernel
theorem dL_law_556 : decode cL_law 556 = .ok (.istore 11, 2) := by decide +kernel
theorem dL_law_558 : decode cL_law 558 = .ok (.iinc 12 1, 3) := by decide +kernel
theorem dL_law_561 : decode cL_law 561 = .ok (.goto (-32), 3) := by decide +kernel
theorem dL_law_564 : decode cL_law 564 = .ok (.iload 4, 2) := by decide +kernel
theorem dL_law_566 : decode cL_law 566 = .ok (.iload 10, 2) := by decide +kernel
theorem dL_law_568 : decode cL_law 568 = .ok (.ishr, 1) := by decide +kernel
theorem dL_law_569 : decode cL_law 569 = .ok (.iconst 1, 1) := by decide +kernel
theorem dL_law_570 : decode cL_law 570 = .ok (.iand, 1) := by decide +kernel
theorem dL_law_571 : decode cL_law 571 = .ok (.iconst 1, 1) := by decide +kernel
theorem dL_law_572 : decode cL_law 572 = .ok (.if_icmp .ne 7, 3) := by decide +kernel
theorem dL_law_575 : decode cL_law 575 = .ok (.iconst 1, 1) := by decide +kernel
theorem dL_law_576 : decode cL_law 576 = .ok (.goto 4, 3) := by decide +kernel
theorem dL_law_579 : decode cL_law 579 = .ok (.iconst 0, 1) := by decide +kernel
theorem dL_law_580 : decode cL_law 580 = .ok (.istore 12, 2) := by decide +kernel
theorem dL_law_582 : decode cL_law 582 = .ok (.iload 12, 2) := by decide +kernel
theorem dL_law_584 : decode cL_law 584 = .ok (.ifCond .eq 7, 3) := by decide +kernel
theorem dL_law_587 : decode cL_law 587 = .ok (.iconst 3, 1) := by decide +kernel
theorem dL_law_588 : decode cL_law 588 = .ok (.goto 21, 3) := by decide +kernel
theorem dL_law_591 : decode cL_law 591 = .ok (.iconst 2, 1) := by decide +kernel
theorem dL_law_592 : decode cL_law 592 = .ok (.iload 11, 2) := by decide +kernel
theorem dL_law_594 : decode cL_law 594 = .ok (.imul, 1) := by decide +kernel
theorem dL_law_595 : decode cL_law 595 = .ok (.aload_n 0, 1) := by decide +kernel
theorem dL_law_596 : decode cL_law 596 = .ok (.iload 10, 2) := by decide +kernel
theorem dL_law_598 : decode cL_law 598 = .ok (.invokestatic 33, 3) := by decide +kernel
theorem dL_law_601 : decode cL_law 601 = .ok (.if_icmp .lt 7, 3) := by decide +kernel
theorem dL_law_604 : decode cL_law 604 = .ok (.iconst 2, 1) := by decide +kernel
theorem dL_law_605 : decode cL_law 605 = .ok (.goto 4, 3) := by decide +kernel
theorem dL_law_608 : decode cL_law 608 = .ok (.iconst 1, 1) := by decide +kernel
theorem dL_law_609 : decode cL_law 609 = .ok (.istore 13, 2) := by decide +kernel
theorem dL_law_611 : decode cL_law 611 = .ok (.iload 9, 2) := by decide +kernel
theorem dL_law_613 : decode cL_law 613 = .ok (.iload 13, 2) := by decide +kernel
theorem dL_law_615 : decode cL_law 615 = .ok (.iconst 2, 1) := by decide +kernel
theorem dL_law_616 : decode cL_law 616 = .ok (.if_icmp .ne 7, 3) := by decide +kernel
theorem dL_law_619 : decode cL_law 619 = .ok (.iconst 1, 1) := by decide +kernel
theorem dL_law_620 : decode cL_law 620 = .ok (.goto 4, 3) := by decide +kernel
theorem dL_law_623 : decode cL_law 623 = .ok (.iconst 0, 1) := by decide +kernel
theorem dL_law_624 : decode cL_law 624 = .ok (.iadd, 1) := by decide +kernel
theorem dL_law_625 : decode cL_law 625 = .ok (.istore 9, 2) := by decide +kernel
theorem dL_law_627 : decode cL_law 627 = .ok (.iload 11, 2) := by decide +kernel
theorem dL_law_629 : decode cL_law 629 = .ok (.aload_n 0, 1) := by decide +kernel
theorem dL_law_630 : decode cL_law 630 = .ok (.iload 10, 2) := by decide +kernel
theorem dL_law_632 : decode cL_law 632 = .ok (.invokestatic 33, 3) := by decide +kernel
theorem dL_law_635 : decode cL_law 635 = .ok (.if_icmp .gt 76, 3) := by decide +kernel
theorem dL_law_638 : decode cL_law 638 = .ok (.iload 12, 2) := by decide +kernel
theorem dL_law_640 : decode cL_law 640 = .ok (.ifCond .eq 14, 3) := by decide +kernel
theorem dL_law_643 : decode cL_law 643 = .ok (.iload 11, 2) := by decide +kernel
theorem dL_law_645 : decode cL_law 645 = .ok (.aload_n 0, 1) := by decide +kernel
theorem dL_law_646 : decode cL_law 646 = .ok (.iload 10, 2) := by decide +kernel
theorem dL_law_648 : decode cL_law 648 = .ok (.invokestatic 33, 3) := by decide +kernel
theorem dL_law_651 : decode cL_law 651 = .ok (.if_icmp .ne 60, 3) := by decide +kernel
theorem dL_law_654 : decode cL_law 654 = .ok (.aload_n 1, 1) := by decide +kernel
theorem dL_law_655 : decode cL_law 655 = .ok (.iload 10, 2) := by decide +kernel
theorem dL_law_657 : decode cL_law 657 = .ok (.iconst 2, 1) := by decide +kernel
theorem dL_law_658 : decode cL_law 658 = .ok (.invokevirtual 48, 3) := by decide +kernel
theorem dL_law_661 : decode cL_law 661 = .ok (.iload 11, 2) := by decide +kernel
theorem dL_law_663 : decode cL_law 663 = .ok (.if_icmp .ne 48, 3) := by decide +kernel
theorem dL_law_666 : decode cL_law 666 = .ok (.aload_n 1, 1) := by decide +kernel
theorem dL_law_667 : decode cL_law 667 = .ok (.iload 10, 2) := by decide +kernel
theorem dL_law_669 : decode cL_law 669 = .ok (.iconst 3, 1) := by decide +kernel
theorem dL_law_670 : decode cL_law 670 = .ok (.invokevirtual 48, 3) := by decide +kernel
theorem dL_law_673 : decode cL_law 673 = .ok (.iload 12, 2) := by decide +kernel
theorem dL_law_675 : decode cL_law 675 = .ok (.ifCond .eq 7, 3) := by decide +kernel
theorem dL_law_678 : decode cL_law 678 = .ok (.iconst 1, 1) := by decide +kernel
theorem dL_law_679 : decode cL_law 679 = .ok (.goto 4, 3) := by decide +kernel
theorem dL_law_682 : decode cL_law 682 = .ok (.iconst 0, 1) := by decide +kernel
theorem dL_law_683 : decode cL_law 683 = .ok (.if_icmp .ne 28, 3) := by decide +kernel
theorem dL_law_686 : decode cL_law 686 = .ok (.aload_n 1, 1) := by decide +kernel
theorem dL_law_687 : decode cL_law 687 = .ok (.iload 10, 2) := by decide +kernel
theorem dL_law_689 : decode cL_law 689 = .ok (.invokevirtual 51, 3) := by decide +kernel
theorem dL_law_692 : decode cL_law 692 = .ok (.iload 13, 2) := by decide +kernel
theorem dL_law_694 : decode cL_law 694 = .ok (.if_icmp .ne 17, 3) := by decide +kernel
theorem dL_law_697 : decode cL_law 697 = .ok (.aload_n 1, 1) := by decide +kernel
theorem dL_law_698 : decode cL_law 698 = .ok (.aload_n 0, 1) := by decide +kernel
theorem dL_law_699 : decode cL_law 699 = .ok (.iload 10, 2) := by decide +kernel
theorem dL_law_701 : decode cL_law 701 = .ok (.iload 13, 2) := by decide +kernel
theorem dL_law_703 : decode cL_law 703 = .ok (.iload 11, 2) := by decide +kernel
theorem dL_law_705 : decode cL_law 705 = .ok (.invokestatic 54, 3) := by decide +kernel
theorem dL_law_708 : decode cL_law 708 = .ok (.ifCond .ne 5, 3) := by decide +kernel
theorem dL_law_711 : decode cL_law 711 = .ok (.iconst 0, 1) := by decide +kernel
theorem dL_law_712 : decode cL_law 712 = .ok (.ireturn, 1) := by decide +kernel
theorem dL_law_713 : decode cL_law 713 = .ok (.iinc 10 1, 3) := by decide +kernel
theorem dL_law_716 : decode cL_law 716 = .ok (.goto (-199), 3) := by decide +kernel
theorem dL_law_719 : decode cL_law 719 = .ok (.ldc 32, 2) := by decide +kernel
theorem dL_law_721 : decode cL_law 721 = .ok (.istore 10, 2) := by decide +kernel
theorem dL_law_723 : decode cL_law 723 = .ok (.iconst 0, 1) := by decide +kernel
theorem dL_law_724 : decode cL_law 724 = .ok (.istore 11, 2) := by decide +kernel
theorem dL_law_726 : decode cL_law 726 = .ok (.iload 11, 2) := by decide +kernel
theorem dL_law_728 : decode cL_law 728 = .ok (.iconst 1, 1) := by decide +kernel
theorem dL_law_729 : decode cL_law 729 = .ok (.iload_n 2, 1) := by decide +kernel
theorem dL_law_730 : decode cL_law 730 = .ok (.ishl, 1) := by decide +kernel
theorem dL_law_731 : decode cL_law 731 = .ok (.if_icmp .ge 100, 3) := by decide +kernel
theorem dL_law_734 : decode cL_law 734 = .ok (.iconst 0, 1) := by decide +kernel
theorem dL_law_735 : decode cL_law 735 = .ok (.istore 12, 2) := by decide +kernel
theorem dL_law_737 : decode cL_law 737 = .ok (.iconst 0, 1) := by decide +kernel
theorem dL_law_738 : decode cL_law 738 = .ok (.istore 13, 2) := by decide +kernel
theorem dL_law_740 : decode cL_law 740 = .ok (.iconst 0, 1) := by decide +kernel
theorem dL_law_741 : decode cL_law 741 = .ok (.istore 14, 2) := by decide +kernel
theorem dL_law_743 : decode cL_law 743 = .ok (.iload 14, 2) := by decide +kernel
theorem dL_law_745 : decode cL_law 745 = .ok (.iload_n 2, 1) := by decide +kernel
theorem dL_law_746 : decode cL_law 746 = .ok (.if_icmp .ge 54, 3) := by decide +kernel
theorem dL_law_749 : decode cL_law 749 = .ok (.iload 12, 2) := by decide +kernel
theorem dL_law_751 : decode cL_law 751 = .ok (.iload 11, 2) := by decide +kernel
theorem dL_law_753 : decode cL_law 753 = .ok (.iload 14, 2) := by decide +kernel
theorem dL_law_755 : decode cL_law 755 = .ok (.ishr, 1) := by decide +kernel
theorem dL_law_756 : decode cL_law 756 = .ok (.iconst 1, 1) := by decide +kernel
theorem dL_law_757 : decode cL_law 757 = .ok (.iand, 1) := by decide +kernel
theorem dL_law_758 : decode cL_law 758 = .ok (.aload_n 0, 1) := by decide +kernel
theorem dL_law_759 : decode cL_law 759 = .ok (.iload 14, 2) := by decide +kernel
theorem dL_law_761 : decode cL_law 761 = .ok (.invokestatic 33, 3) := by decide +kernel
theorem dL_law_764 : decode cL_law 764 = .ok (.imul, 1) := by decide +kernel
theorem dL_law_765 : decode cL_law 765 = .ok (.iadd, 1) := by decide +kernel
theorem dL_law_766 : decode cL_law 766 = .ok (.istore 12, 2) := by decide +kernel
theorem dL_law_768 : decode cL_law 768 = .ok (.iload 13, 2) := by decide +kernel
theorem dL_law_770 : decode cL_law 770 = .ok (.iload 11, 2) := by decide +kernel
theorem dL_law_772 : decode cL_law 772 = .ok (.iload 14, 2) := by decide +kernel
theorem dL_law_774 : decode cL_law 774 = .ok (.ishr, 1) := by decide +kernel
theorem dL_law_775 : decode cL_law 775 = .ok (.iconst 1, 1) := by decide +kernel
theorem dL_law_776 : decode cL_law 776 = .ok (.iand, 1) := by decide +kernel
theorem dL_law_777 : decode cL_law 777 = .ok (.iconst 1, 1) := by decide +kernel
theorem dL_law_778 : decode cL_law 778 = .ok (.if_icmp .ne 12, 3) := by decide +kernel
theorem dL_law_781 : decode cL_law 781 = .ok (.aload_n 0, 1) := by decide +kernel
theorem dL_law_782 : decode cL_law 782 = .ok (.iload 14, 2) := by decide +kernel
theorem dL_law_784 : decode cL_law 784 = .ok (.invokestatic 19, 3) := by decide +kernel
theorem dL_law_787 : decode cL_law 787 = .ok (.goto 4, 3) := by decide +kernel
theorem dL_law_790 : decode cL_law 790 = .ok (.iconst 0, 1) := by decide +kernel
theorem dL_law_791 : decode cL_law 791 = .ok (.ior, 1) := by decide +kernel
theorem dL_law_792 : decode cL_law 792 = .ok (.istore 13, 2) := by decide +kernel
theorem dL_law_794 : decode cL_law 794 = .ok (.iinc 14 1, 3) := by decide +kernel
theorem dL_law_797 : decode cL_law 797 = .ok (.goto (-54), 3) := by decide +kernel
theorem dL_law_800 : decode cL_law 800 = .ok (.iload_n 3, 1) := by decide +kernel
theorem dL_law_801 : decode cL_law 801 = .ok (.iload 13, 2) := by decide +kernel
theorem dL_law_803 : decode cL_law 803 = .ok (.iconst (-1), 1) := by decide +kernel
theorem dL_law_804 : decode cL_law 804 = .ok (.ixor, 1) := by decide +kernel
theorem dL_law_805 : decode cL_law 805 = .ok (.iand, 1) := by decide +kernel
theorem dL_law_806 : decode cL_law 806 = .ok (.ifCond .ne 15, 3) := by decide +kernel
theorem dL_law_809 : decode cL_law 809 = .ok (.iload 12, 2) := by decide +kernel
theorem dL_law_811 : decode cL_law 811 = .ok (.iload 10, 2) := by decide +kernel
theorem dL_law_813 : decode cL_law 813 = .ok (.if_icmp .ge 8, 3) := by decide +kernel
theorem dL_law_816 : decode cL_law 816 = .ok (.iload 12, 2) := by decide +kernel
theorem dL_law_818 : decode cL_law 818 = .ok (.goto 5, 3) := by decide +kernel
theorem dL_law_821 : decode cL_law 821 = .ok (.iload 10, 2) := by decide +kernel
theorem dL_law_823 : decode cL_law 823 = .ok (.istore 10, 2) := by decide +kernel
theorem dL_law_825 : decode cL_law 825 = .ok (.iinc 11 1, 3) := by decide +kernel
theorem dL_law_828 : decode cL_law 828 = .ok (.goto (-102), 3) := by decide +kernel
theorem dL_law_831 : decode cL_law 831 = .ok (.aload_n 1, 1) := by decide +kernel
theorem dL_law_832 : decode cL_law 832 = .ok (.iconst 1, 1) := by decide +kernel
theorem dL_law_833 : decode cL_law 833 = .ok (.invokevirtual 42, 3) := by decide +kernel
theorem dL_law_836 : decode cL_law 836 = .ok (.iload 7, 2) := by decide +kernel
theorem dL_law_838 : decode cL_law 838 = .ok (.if_icmp .ne 76, 3) := by decide +kernel
theorem dL_law_841 : decode cL_law 841 = .ok (.aload_n 1, 1) := by decide +kernel
theorem dL_law_842 : decode cL_law 842 = .ok (.iconst 2, 1) := by decide +kernel
theorem dL_law_843 : decode cL_law 843 = .ok (.invokevirtual 42, 3) := by decide +kernel
theorem dL_law_846 : decode cL_law 846 = .ok (.iload 10, 2) := by decide +kernel
theorem dL_law_848 : decode cL_law 848 = .ok (.if_icmp .ne 66, 3) := by decide +kernel
theorem dL_law_851 : decode cL_law 851 = .ok (.aload_n 1, 1) := by decide +kernel
theorem dL_law_852 : decode cL_law 852 = .ok (.iconst 3, 1) := by decide +kernel
theorem dL_law_853 : decode cL_law 853 = .ok (.invokevirtual 42, 3) := by decide +kernel
theorem dL_law_856 : decode cL_law 856 = .ok (.iload 8, 2) := by decide +kernel
theorem dL_law_858 : decode cL_law 858 = .ok (.if_icmp .ne 56, 3) := by decide +kernel
theorem dL_law_861 : decode cL_law 861 = .ok (.iload 5, 2) := by decide +kernel
theorem dL_law_863 : decode cL_law 863 = .ok (.iload 8, 2) := by decide +kernel
theorem dL_law_865 : decode cL_law 865 = .ok (.iload 7, 2) := by decide +kernel
theorem dL_law_867 : decode cL_law 867 = .ok (.imul, 1) := by decide +kernel
theorem dL_law_868 : decode cL_law 868 = .ok (.if_icmp .gt 46, 3) := by decide +kernel
theorem dL_law_871 : decode cL_law 871 = .ok (.iload 7, 2) := by decide +kernel
theorem dL_law_873 : decode cL_law 873 = .ok (.iload 10, 2) := by decide +kernel
theorem dL_law_875 : decode cL_law 875 = .ok (.if_icmp .gt 39, 3) := by decide +kernel
theorem dL_law_878 : decode cL_law 878 = .ok (.iload 10, 2) := by decide +kernel
theorem dL_law_880 : decode cL_law 880 = .ok (.iload 5, 2) := by decide +kernel
theorem dL_law_882 : decode cL_law 882 = .ok (.if_icmp .gt 32, 3) := by decide +kernel
theorem dL_law_885 : decode cL_law 885 = .ok (.aload_n 1, 1) := by decide +kernel
theorem dL_law_886 : decode cL_law 886 = .ok (.iconst 3, 1) := by decide +kernel
theorem dL_law_887 : decode cL_law 887 = .ok (.invokevirtual 58, 3) := by decide +kernel
theorem dL_law_890 : decode cL_law 890 = .ok (.iload 9, 2) := by decide +kernel
theorem dL_law_892 : decode cL_law 892 = .ok (.if_icmp .ne 22, 3) := by decide +kernel
theorem dL_law_895 : decode cL_law 895 = .ok (.iload_n 3, 1) := by decide +kernel
theorem dL_law_896 : decode cL_law 896 = .ok (.ifCond .eq 14, 3) := by decide +kernel
theorem dL_law_899 : decode cL_law 899 = .ok (.aload_n 1, 1) := by decide +kernel
theorem dL_law_900 : decode cL_law 900 = .ok (.iconst 1, 1) := by decide +kernel
theorem dL_law_901 : decode cL_law 901 = .ok (.iconst 1, 1) := by decide +kernel
theorem dL_law_902 : decode cL_law 902 = .ok (.invokevirtual 22, 3) := by decide +kernel
theorem dL_law_905 : decode cL_law 905 = .ok (.ldc 41, 2) := by decide +kernel
theorem dL_law_907 : decode cL_law 907 = .ok (.if_icmp .ne 7, 3) := by decide +kernel
theorem dL_law_910 : decode cL_law 910 = .ok (.iconst 1, 1) := by decide +kernel
theorem dL_law_911 : decode cL_law 911 = .ok (.goto 4, 3) := by decide +kernel
theorem dL_law_914 : decode cL_law 914 = .ok (.iconst 0, 1) := by decide +kernel
theorem dL_law_915 : decode cL_law 915 = .ok (.ireturn, 1) := by decide +kernel
theorem dL_asked_0 : decode cL_asked 0 = .ok (.iconst 0, 1) := by decide +kernel
theorem dL_asked_1 : decode cL_asked 1 = .ok (.istore 5, 2) := by decide +kernel
theorem dL_asked_3 : decode cL_asked 3 = .ok (.iconst 0, 1) := by decide +kernel
theorem dL_asked_4 : decode cL_asked 4 = .ok (.istore 6, 2) := by decide +kernel
theorem dL_asked_6 : decode cL_asked 6 = .ok (.iload 6, 2) := by decide +kernel
theorem dL_asked_8 : decode cL_asked 8 = .ok (.bipush 12, 2) := by decide +kernel
theorem dL_asked_10 : decode cL_asked 10 = .ok (.if_icmp .ge 24, 3) := by decide +kernel
theorem dL_asked_13 : decode cL_asked 13 = .ok (.iload 5, 2) := by decide +kernel
theorem dL_asked_15 : decode cL_asked 15 = .ok (.aload_n 1, 1) := by decide +kernel
theorem dL_asked_16 : decode cL_asked 16 = .ok (.iload_n 2, 1) := by decide +kernel
theorem dL_asked_17 : decode cL_asked 17 = .ok (.invokestatic 19, 3) := by decide +kernel
theorem dL_asked_20 : decode cL_asked 20 = .ok (.iload 6, 2) := by decide +kernel
theorem dL_asked_22 : decode cL_asked 22 = .ok (.ishr, 1) := by decide +kernel
theorem dL_asked_23 : decode cL_asked 23 = .ok (.iconst 1, 1) := by decide +kernel
theorem dL_asked_24 : decode cL_asked 24 = .ok (.iand, 1) := by decide +kernel
theorem dL_asked_25 : decode cL_asked 25 = .ok (.iadd, 1) := by decide +kernel
theorem dL_asked_26 : decode cL_asked 26 = .ok (.istore 5, 2) := by decide +kernel
theorem dL_asked_28 : decode cL_asked 28 = .ok (.iinc 6 1, 3) := by decide +kernel
theorem dL_asked_31 : decode cL_asked 31 = .ok (.goto (-25), 3) := by decide +kernel
theorem dL_asked_34 : decode cL_asked 34 = .ok (.iload 5, 2) := by decide +kernel
theorem dL_asked_36 : decode cL_asked 36 = .ok (.iload_n 3, 1) := by decide +kernel
theorem dL_asked_37 : decode cL_asked 37 = .ok (.iconst 2, 1) := by decide +kernel
theorem dL_asked_38 : decode cL_asked 38 = .ok (.if_icmp .ne 8, 3) := by decide +kernel
theorem dL_asked_41 : decode cL_asked 41 = .ok (.bipush 100, 2) := by decide +kernel
theorem dL_asked_43 : decode cL_asked 43 = .ok (.goto 19, 3) := by decide +kernel
theorem dL_asked_46 : decode cL_asked 46 = .ok (.iload_n 3, 1) := by decide +kernel
theorem dL_asked_47 : decode cL_asked 47 = .ok (.iconst 3, 1) := by decide +kernel
theorem dL_asked_48 : decode cL_asked 48 = .ok (.if_icmp .ne 13, 3) := by decide +kernel
theorem dL_asked_51 : decode cL_asked 51 = .ok (.iconst 2, 1) := by decide +kernel
theorem dL_asked_52 : decode cL_asked 52 = .ok (.aload_n 1, 1) := by decide +kernel
theorem dL_asked_53 : decode cL_asked 53 = .ok (.iload_n 2, 1) := by decide +kernel
theorem dL_asked_54 : decode cL_asked 54 = .ok (.invokestatic 33, 3) := by decide +kernel
theorem dL_asked_57 : decode cL_asked 57 = .ok (.imul, 1) := by decide +kernel
theorem dL_asked_58 : decode cL_asked 58 = .ok (.goto 4, 3) := by decide +kernel
theorem dL_asked_61 : decode cL_asked 61 = .ok (.iconst 0, 1) := by decide +kernel
theorem dL_asked_62 : decode cL_asked 62 = .ok (.iadd, 1) := by decide +kernel
theorem dL_asked_63 : decode cL_asked 63 = .ok (.istore 6, 2) := by decide +kernel
theorem dL_asked_65 : decode cL_asked 65 = .ok (.iload_n 3, 1) := by decide +kernel
theorem dL_asked_66 : decode cL_asked 66 = .ok (.iconst 3, 1) := by decide +kernel
theorem dL_asked_67 : decode cL_asked 67 = .ok (.if_icmp .ne 13, 3) := by decide +kernel
theorem dL_asked_70 : decode cL_asked 70 = .ok (.iconst 2, 1) := by decide +kernel
theorem dL_asked_71 : decode cL_asked 71 = .ok (.aload_n 1, 1) := by decide +kernel
theorem dL_asked_72 : decode cL_asked 72 = .ok (.iload_n 2, 1) := by decide +kernel
theorem dL_asked_73 : decode cL_asked 73 = .ok (.invokestatic 33, 3) := by decide +kernel
theorem dL_asked_76 : decode cL_asked 76 = .ok (.imul, 1) := by decide +kernel
theorem dL_asked_77 : decode cL_asked 77 = .ok (.goto 23, 3) := by decide +kernel
theorem dL_asked_80 : decode cL_asked 80 = .ok (.aload_n 1, 1) := by decide +kernel
theorem dL_asked_81 : decode cL_asked 81 = .ok (.iload_n 2, 1) := by decide +kernel
theorem dL_asked_82 : decode cL_asked 82 = .ok (.invokestatic 33, 3) := by decide +kernel
theorem dL_asked_85 : decode cL_asked 85 = .ok (.iload 4, 2) := by decide +kernel
theorem dL_asked_87 : decode cL_asked 87 = .ok (.isub, 1) := by decide +kernel
theorem dL_asked_88 : decode cL_asked 88 = .ok (.iload_n 3, 1) := by decide +kernel
theorem dL_asked_89 : decode cL_asked 89 = .ok (.iconst 2, 1) := by decide +kernel
theorem dL_asked_90 : decode cL_asked 90 = .ok (.if_icmp .ne 8, 3) := by decide +kernel
theorem dL_asked_93 : decode cL_asked 93 = .ok (.iload 6, 2) := by decide +kernel
theorem dL_asked_95 : decode cL_asked 95 = .ok (.goto 4, 3) := by decide +kernel
theorem dL_asked_98 : decode cL_asked 98 = .ok (.iconst 0, 1) := by decide +kernel
theorem dL_asked_99 : decode cL_asked 99 = .ok (.iadd, 1) := by decide +kernel
theorem dL_asked_100 : decode cL_asked 100 = .ok (.istore 7, 2) := by decide +kernel
theorem dL_asked_102 : decode cL_asked 102 = .ok (.aload_n 0, 1) := by decide +kernel
theorem dL_asked_103 : decode cL_asked 103 = .ok (.iload_n 2, 1) := by decide +kernel
theorem dL_asked_104 : decode cL_asked 104 = .ok (.iconst 0, 1) := by decide +kernel
theorem dL_asked_105 : decode cL_asked 105 = .ok (.invokevirtual 61, 3) := by decide +kernel
theorem dL_asked_108 : decode cL_asked 108 = .ok (.iload 7, 2) := by decide +kernel
theorem dL_asked_110 : decode cL_asked 110 = .ok (.if_icmp .ne 116, 3) := by decide +kernel
theorem dL_asked_113 : decode cL_asked 113 = .ok (.aload_n 0, 1) := by decide +kernel
theorem dL_asked_114 : decode cL_asked 114 = .ok (.iconst 0, 1) := by decide +kernel
theorem dL_asked_115 : decode cL_asked 115 = .ok (.invokevirtual 64, 3) := by decide +kernel
theorem dL_asked_118 : decode cL_asked 118 = .ok (.iload_n 3, 1) := by decide +kernel
theorem dL_asked_119 : decode cL_asked 119 = .ok (.iconst 3, 1) := by decide +kernel
theorem dL_asked_120 : decode cL_asked 120 = .ok (.if_icmp .ne 8, 3) := by decide +kernel
theorem dL_asked_123 : decode cL_asked 123 = .ok (.bipush 13, 2) := by decide +kernel
theorem dL_asked_125 : decode cL_asked 125 = .ok (.goto 15, 3) := by decide +kernel
theorem dL_asked_128 : decode cL_asked 128 = .ok (.iload_n 3, 1) := by decide +kernel
theorem dL_asked_129 : decode cL_asked 129 = .ok (.iconst 2, 1) := by decide +kernel
theorem dL_asked_130 : decode cL_asked 130 = .ok (.if_icmp .ne 8, 3) := by decide +kernel
theorem dL_asked_133 : decode cL_asked 133 = .ok (.bipush 12, 2) := by decide +kernel
theorem dL_asked_135 : decode cL_asked 135 = .ok (.goto 5, 3) := by decide +kernel
theorem dL_asked_138 : decode cL_asked 138 = .ok (.bipush 11, 2) := by decide +kernel
theorem dL_asked_140 : decode cL_asked 140 = .ok (.if_icmp .ne 86, 3) := by decide +kernel
theorem dL_asked_143 : decode cL_asked 143 = .ok (.aload_n 0, 1) := by decide +kernel
theorem dL_asked_144 : decode cL_asked 144 = .ok (.iload_n 2, 1) := by decide +kernel
theorem dL_asked_145 : decode cL_asked 145 = .ok (.iconst 1, 1) := by decide +kernel
theorem dL_asked_146 : decode cL_asked 146 = .ok (.invokevirtual 61, 3) := by decide +kernel
theorem dL_asked_149 : decode cL_asked 149 = .ok (.iload 6, 2) := by decide +kernel
theorem dL_asked_151 : decode cL_asked 151 = .ok (.if_icmp .ne 75, 3) := by decide +kernel
theorem dL_asked_154 : decode cL_asked 154 = .ok (.aload_n 0, 1) := by decide +kernel
theorem dL_asked_155 : decode cL_asked 155 = .ok (.iconst 0, 1) := by decide +kernel
theorem dL_asked_156 : decode cL_asked 156 = .ok (.invokevirtual 64, 3) := by decide +kernel
theorem dL_asked_159 : decode cL_asked 159 = .ok (.iload_n 3, 1) := by decide +kernel
theorem dL_asked_160 : decode cL_asked 160 = .ok (.iconst 3, 1) := by decide +kernel
theorem dL_asked_161 : decode cL_asked 161 = .ok (.if_icmp .ne 8, 3) := by decide +kernel
theorem dL_asked_164 : decode cL_asked 164 = .ok (.bipush 22, 2) := by decide +kernel
theorem dL_asked_166 : decode cL_asked 166 = .ok (.goto 15, 3) := by decide +kernel
theorem dL_asked_169 : decode cL_asked 169 = .ok (.iload_n 3, 1) := by decide +kernel
theorem dL_asked_170 : decode cL_asked 170 = .ok (.iconst 2, 1) := by decide +kernel
theorem dL_asked_171 : decode cL_asked 171 = .ok (.if_icmp .ne 8, 3) := by decide +kernel
theorem dL_asked_174 : decode cL_asked 174 = .ok (.bipush 21, 2) := by decide +kernel
theorem dL_asked_176 : decode cL_asked 176 = .ok (.goto 5, 3) := by decide +kernel
theorem dL_asked_179 : decode cL_asked 179 = .ok (.bipush 20, 2) := by decide +kernel
theorem dL_asked_181 : decode cL_asked 181 = .ok (.if_icmp .ne 45, 3) := by decide +kernel
theorem dL_asked_184 : decode cL_asked 184 = .ok (.aload_n 0, 1) := by decide +kernel
theorem dL_asked_185 : decode cL_asked 185 = .ok (.iload_n 2, 1) := by decide +kernel
theorem dL_asked_186 : decode cL_asked 186 = .ok (.iload_n 3, 1) := by decide +kernel
theorem dL_asked_187 : decode cL_asked 187 = .ok (.invokevirtual 67, 3) := by decide +kernel
theorem dL_asked_190 : decode cL_asked 190 = .ok (.aload_n 1, 1) := by decide +kernel
theorem dL_asked_191 : decode cL_asked 191 = .ok (.iload_n 2, 1) := by decide +kernel
theorem dL_asked_192 : decode cL_asked 192 = .ok (.invokestatic 33, 3) := by decide +kernel
theorem dL_asked_195 : decode cL_asked 195 = .ok (.if_icmp .ne 31, 3) := by decide +kernel
theorem dL_asked_198 : decode cL_asked 198 = .ok (.aload_n 0, 1) := by decide +kernel
theorem dL_asked_199 : decode cL_asked 199 = .ok (.iload_n 2, 1) := by decide +kernel
theorem dL_asked_200 : decode cL_asked 200 = .ok (.iconst 1, 1) := by decide +kernel
theorem dL_asked_201 : decode cL_asked 201 = .ok (.invokevirtual 67, 3) := by decide +kernel
theorem dL_asked_204 : decode cL_asked 204 = .ok (.iload_n 3, 1) := by decide +kernel
theorem dL_asked_205 : decode cL_asked 205 = .ok (.iconst 3, 1) := by decide +kernel
theorem dL_asked_206 : decode cL_asked 206 = .ok (.if_icmp .ne 8, 3) := by decide +kernel
theorem dL_asked_209 : decode cL_asked 209 = .ok (.ldc 70, 2) := by decide +kernel
theorem dL_asked_211 : decode cL_asked 211 = .ok (.goto 8, 3) := by decide +kernel
theorem dL_asked_214 : decode cL_asked 214 = .ok (.aload_n 1, 1) := by decide +kernel
theorem dL_asked_215 : decode cL_asked 215 = .ok (.iload_n 2, 1) := by decide +kernel
theorem dL_asked_216 : decode cL_asked 216 = .ok (.invokestatic 33, 3) := by decide +kernel
theorem dL_asked_219 : decode cL_asked 219 = .ok (.if_icmp .ne 7, 3) := by decide +kernel
theorem dL_asked_222 : decode cL_asked 222 = .ok (.iconst 1, 1) := by decide +kernel
theorem dL_asked_223 : decode cL_asked 223 = .ok (.goto 4, 3) := by decide +kernel
theorem dL_asked_226 : decode cL_asked 226 = .ok (.iconst 0, 1) := by decide +kernel
theorem dL_asked_227 : decode cL_asked 227 = .ok (.ireturn, 1) := by decide +kernel
