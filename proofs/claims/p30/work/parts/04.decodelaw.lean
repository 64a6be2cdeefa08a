theorem dL_below_0 : decode cL_below 0 = .ok (.iload_n 0, 1) := by decide +kernel
theorem dL_below_1 : decode cL_below 1 = .ok (.ldc 7, 2) := by decide +kernel
theorem dL_below_3 : decode cL_below 3 = .ok (.iand, 1) := by decide +kernel
theorem dL_below_4 : decode cL_below 4 = .ok (.iload_n 1, 1) := by decide +kernel
theorem dL_below_5 : decode cL_below 5 = .ok (.irem, 1) := by decide +kernel
theorem dL_below_6 : decode cL_below 6 = .ok (.ireturn, 1) := by decide +kernel
theorem dL_cell_0 : decode cL_cell 0 = .ok (.iload_n 1, 1) := by decide +kernel
theorem dL_cell_1 : decode cL_cell 1 = .ok (.aload_n 0, 1) := by decide +kernel
theorem dL_cell_2 : decode cL_cell 2 = .ok (.arraylength, 1) := by decide +kernel
theorem dL_cell_3 : decode cL_cell 3 = .ok (.if_icmp .ge 9, 3) := by decide +kernel
theorem dL_cell_6 : decode cL_cell 6 = .ok (.aload_n 0, 1) := by decide +kernel
theorem dL_cell_7 : decode cL_cell 7 = .ok (.iload_n 1, 1) := by decide +kernel
theorem dL_cell_8 : decode cL_cell 8 = .ok (.iaload, 1) := by decide +kernel
theorem dL_cell_9 : decode cL_cell 9 = .ok (.goto 9, 3) := by decide +kernel
theorem dL_cell_12 : decode cL_cell 12 = .ok (.ldc 8, 2) := by decide +kernel
theorem dL_cell_14 : decode cL_cell 14 = .ok (.iload_n 1, 1) := by decide +kernel
theorem dL_cell_15 : decode cL_cell 15 = .ok (.iconst 3, 1) := by decide +kernel
theorem dL_cell_16 : decode cL_cell 16 = .ok (.iadd, 1) := by decide +kernel
theorem dL_cell_17 : decode cL_cell 17 = .ok (.imul, 1) := by decide +kernel
theorem dL_cell_18 : decode cL_cell 18 = .ok (.ireturn, 1) := by decide +kernel
theorem dL_write_0 : decode cL_write 0 = .ok (.iconst 0, 1) := by decide +kernel
theorem dL_write_1 : decode cL_write 1 = .ok (.istore_n 3, 1) := by decide +kernel
theorem dL_write_2 : decode cL_write 2 = .ok (.iload_n 3, 1) := by decide +kernel
theorem dL_write_3 : decode cL_write 3 = .ok (.iconst 5, 1) := by decide +kernel
theorem dL_write_4 : decode cL_write 4 = .ok (.if_icmp .ge 102, 3) := by decide +kernel
theorem dL_write_7 : decode cL_write 7 = .ok (.aload_n 1, 1) := by decide +kernel
theorem dL_write_8 : decode cL_write 8 = .ok (.iload_n 3, 1) := by decide +kernel
theorem dL_write_9 : decode cL_write 9 = .ok (.iload_n 2, 1) := by decide +kernel
theorem dL_write_10 : decode cL_write 10 = .ok (.iadd, 1) := by decide +kernel
theorem dL_write_11 : decode cL_write 11 = .ok (.invokestatic 9, 3) := by decide +kernel
theorem dL_write_14 : decode cL_write 14 = .ok (.istore 4, 2) := by decide +kernel
theorem dL_write_16 : decode cL_write 16 = .ok (.aload_n 0, 1) := by decide +kernel
theorem dL_write_17 : decode cL_write 17 = .ok (.iload 4, 2) := by decide +kernel
theorem dL_write_19 : decode cL_write 19 = .ok (.bipush 6, 2) := by decide +kernel
theorem dL_write_21 : decode cL_write 21 = .ok (.invokestatic 15, 3) := by decide +kernel
theorem dL_write_24 : decode cL_write 24 = .ok (.ifCond .ne 7, 3) := by decide +kernel
theorem dL_write_27 : decode cL_write 27 = .ok (.iconst 1, 1) := by decide +kernel
theorem dL_write_28 : decode cL_write 28 = .ok (.goto 4, 3) := by decide +kernel
theorem dL_write_31 : decode cL_write 31 = .ok (.iconst 0, 1) := by decide +kernel
theorem dL_write_32 : decode cL_write 32 = .ok (.iload 4, 2) := by decide +kernel
theorem dL_write_34 : decode cL_write 34 = .ok (.iconst 1, 1) := by decide +kernel
theorem dL_write_35 : decode cL_write 35 = .ok (.ishr, 1) := by decide +kernel
theorem dL_write_36 : decode cL_write 36 = .ok (.iconst 2, 1) := by decide +kernel
theorem dL_write_37 : decode cL_write 37 = .ok (.invokestatic 15, 3) := by decide +kernel
theorem dL_write_40 : decode cL_write 40 = .ok (.ifCond .ne 7, 3) := by decide +kernel
theorem dL_write_43 : decode cL_write 43 = .ok (.iconst 1, 1) := by decide +kernel
theorem dL_write_44 : decode cL_write 44 = .ok (.goto 4, 3) := by decide +kernel
theorem dL_write_47 : decode cL_write 47 = .ok (.iconst 0, 1) := by decide +kernel
theorem dL_write_48 : decode cL_write 48 = .ok (.invokevirtual 19, 3) := by decide +kernel
theorem dL_write_51 : decode cL_write 51 = .ok (.pop, 1) := by decide +kernel
theorem dL_write_52 : decode cL_write 52 = .ok (.iconst 0, 1) := by decide +kernel
theorem dL_write_53 : decode cL_write 53 = .ok (.istore 5, 2) := by decide +kernel
theorem dL_write_55 : decode cL_write 55 = .ok (.iload 5, 2) := by decide +kernel
theorem dL_write_57 : decode cL_write 57 = .ok (.iconst 4, 1) := by decide +kernel
theorem dL_write_58 : decode cL_write 58 = .ok (.if_icmp .ge 27, 3) := by decide +kernel
theorem dL_write_61 : decode cL_write 61 = .ok (.aload_n 0, 1) := by decide +kernel
theorem dL_write_62 : decode cL_write 62 = .ok (.iload_n 3, 1) := by decide +kernel
theorem dL_write_63 : decode cL_write 63 = .ok (.iload 5, 2) := by decide +kernel
theorem dL_write_65 : decode cL_write 65 = .ok (.iload 4, 2) := by decide +kernel
theorem dL_write_67 : decode cL_write 67 = .ok (.iload 5, 2) := by decide +kernel
theorem dL_write_69 : decode cL_write 69 = .ok (.ishr, 1) := by decide +kernel
theorem dL_write_70 : decode cL_write 70 = .ok (.bipush 10, 2) := by decide +kernel
theorem dL_write_72 : decode cL_write 72 = .ok (.invokestatic 15, 3) := by decide +kernel
theorem dL_write_75 : decode cL_write 75 = .ok (.invokevirtual 25, 3) := by decide +kernel
theorem dL_write_78 : decode cL_write 78 = .ok (.pop, 1) := by decide +kernel
theorem dL_write_79 : decode cL_write 79 = .ok (.iinc 5 1, 3) := by decide +kernel
theorem dL_write_82 : decode cL_write 82 = .ok (.goto (-27), 3) := by decide +kernel
theorem dL_write_85 : decode cL_write 85 = .ok (.aload_n 0, 1) := by decide +kernel
theorem dL_write_86 : decode cL_write 86 = .ok (.iload_n 3, 1) := by decide +kernel
theorem dL_write_87 : decode cL_write 87 = .ok (.iload 4, 2) := by decide +kernel
theorem dL_write_89 : decode cL_write 89 = .ok (.iconst 2, 1) := by decide +kernel
theorem dL_write_90 : decode cL_write 90 = .ok (.ishr, 1) := by decide +kernel
theorem dL_write_91 : decode cL_write 91 = .ok (.bipush 100, 2) := by decide +kernel
theorem dL_write_93 : decode cL_write 93 = .ok (.invokestatic 15, 3) := by decide +kernel
theorem dL_write_96 : decode cL_write 96 = .ok (.invokevirtual 29, 3) := by decide +kernel
theorem dL_write_99 : decode cL_write 99 = .ok (.pop, 1) := by decide +kernel
theorem dL_write_100 : decode cL_write 100 = .ok (.iinc 3 1, 3) := by decide +kernel
theorem dL_write_103 : decode cL_write 103 = .ok (.goto (-101), 3) := by decide +kernel
theorem dL_write_106 : decode cL_write 106 = .ok (.iconst 0, 1) := by decide +kernel
theorem dL_write_107 : decode cL_write 107 = .ok (.istore_n 3, 1) := by decide +kernel
theorem dL_write_108 : decode cL_write 108 = .ok (.iload_n 3, 1) := by decide +kernel
theorem dL_write_109 : decode cL_write 109 = .ok (.iconst 4, 1) := by decide +kernel
theorem dL_write_110 : decode cL_write 110 = .ok (.if_icmp .ge 73, 3) := by decide +kernel
theorem dL_write_113 : decode cL_write 113 = .ok (.aload_n 0, 1) := by decide +kernel
theorem dL_write_114 : decode cL_write 114 = .ok (.aload_n 1, 1) := by decide +kernel
theorem dL_write_115 : decode cL_write 115 = .ok (.iload_n 3, 1) := by decide +kernel
theorem dL_write_116 : decode cL_write 116 = .ok (.iload_n 2, 1) := by decide +kernel
theorem dL_write_117 : decode cL_write 117 = .ok (.iadd, 1) := by decide +kernel
theorem dL_write_118 : decode cL_write 118 = .ok (.iconst 5, 1) := by decide +kernel
theorem dL_write_119 : decode cL_write 119 = .ok (.iadd, 1) := by decide +kernel
theorem dL_write_120 : decode cL_write 120 = .ok (.invokestatic 9, 3) := by decide +kernel
theorem dL_write_123 : decode cL_write 123 = .ok (.iconst 4, 1) := by decide +kernel
theorem dL_write_124 : decode cL_write 124 = .ok (.invokestatic 15, 3) := by decide +kernel
theorem dL_write_127 : decode cL_write 127 = .ok (.aload_n 1, 1) := by decide +kernel
theorem dL_write_128 : decode cL_write 128 = .ok (.iload_n 3, 1) := by decide +kernel
theorem dL_write_129 : decode cL_write 129 = .ok (.iload_n 2, 1) := by decide +kernel
theorem dL_write_130 : decode cL_write 130 = .ok (.iadd, 1) := by decide +kernel
theorem dL_write_131 : decode cL_write 131 = .ok (.bipush 6, 2) := by decide +kernel
theorem dL_write_133 : decode cL_write 133 = .ok (.iadd, 1) := by decide +kernel
theorem dL_write_134 : decode cL_write 134 = .ok (.invokestatic 9, 3) := by decide +kernel
theorem dL_write_137 : decode cL_write 137 = .ok (.iconst 5, 1) := by decide +kernel
theorem dL_write_138 : decode cL_write 138 = .ok (.invokestatic 15, 3) := by decide +kernel
theorem dL_write_141 : decode cL_write 141 = .ok (.aload_n 1, 1) := by decide +kernel
theorem dL_write_142 : decode cL_write 142 = .ok (.iload_n 3, 1) := by decide +kernel
theorem dL_write_143 : decode cL_write 143 = .ok (.iload_n 2, 1) := by decide +kernel
theorem dL_write_144 : decode cL_write 144 = .ok (.iadd, 1) := by decide +kernel
theorem dL_write_145 : decode cL_write 145 = .ok (.bipush 7, 2) := by decide +kernel
theorem dL_write_147 : decode cL_write 147 = .ok (.iadd, 1) := by decide +kernel
theorem dL_write_148 : decode cL_write 148 = .ok (.invokestatic 9, 3) := by decide +kernel
theorem dL_write_151 : decode cL_write 151 = .ok (.bipush 100, 2) := by decide +kernel
theorem dL_write_153 : decode cL_write 153 = .ok (.invokestatic 15, 3) := by decide +kernel
theorem dL_write_156 : decode cL_write 156 = .ok (.iconst 1, 1) := by decide +kernel
theorem dL_write_157 : decode cL_write 157 = .ok (.aload_n 1, 1) := by decide +kernel
theorem dL_write_158 : decode cL_write 158 = .ok (.iload_n 3, 1) := by decide +kernel
theorem dL_write_159 : decode cL_write 159 = .ok (.iload_n 2, 1) := by decide +kernel
theorem dL_write_160 : decode cL_write 160 = .ok (.iadd, 1) := by decide +kernel
theorem dL_write_161 : decode cL_write 161 = .ok (.bipush 8, 2) := by decide +kernel
theorem dL_write_163 : decode cL_write 163 = .ok (.iadd, 1) := by decide +kernel
theorem dL_write_164 : decode cL_write 164 = .ok (.invokestatic 9, 3) := by decide +kernel
theorem dL_write_167 : decode cL_write 167 = .ok (.bipush 12, 2) := by decide +kernel
theorem dL_write_169 : decode cL_write 169 = .ok (.invokestatic 15, 3) := by decide +kernel
theorem dL_write_172 : decode cL_write 172 = .ok (.iadd, 1) := by decide +kernel
theorem dL_write_173 : decode cL_write 173 = .ok (.invokevirtual 32, 3) := by decide +kernel
theorem dL_write_176 : decode cL_write 176 = .ok (.pop, 1) := by decide +kernel
theorem dL_write_177 : decode cL_write 177 = .ok (.iinc 3 1, 3) := by decide +kernel
theorem dL_write_180 : decode cL_write 180 = .ok (.goto (-72), 3) := by decide +kernel
theorem dL_write_183 : decode cL_write 183 = .ok (.iconst 0, 1) := by decide +kernel
theorem dL_write_184 : decode cL_write 184 = .ok (.istore_n 3, 1) := by decide +kernel
theorem dL_write_185 : decode cL_write 185 = .ok (.iload_n 3, 1) := by decide +kernel
theorem dL_write_186 : decode cL_write 186 = .ok (.bipush 8, 2) := by decide +kernel
theorem dL_write_188 : decode cL_write 188 = .ok (.if_icmp .ge 90, 3) := by decide +kernel
theorem dL_write_191 : decode cL_write 191 = .ok (.aload_n 1, 1) := by decide +kernel
theorem dL_write_192 : decode cL_write 192 = .ok (.iload_n 3, 1) := by decide +kernel
theorem dL_write_193 : decode cL_write 193 = .ok (.iload_n 2, 1) := by decide +kernel
theorem dL_write_194 : decode cL_write 194 = .ok (.iadd, 1) := by decide +kernel
theorem dL_write_195 : decode cL_write 195 = .ok (.bipush 9, 2) := by decide +kernel
theorem dL_write_197 : decode cL_write 197 = .ok (.iadd, 1) := by decide +kernel
theorem dL_write_198 : decode cL_write 198 = .ok (.invokestatic 9, 3) := by decide +kernel
theorem dL_write_201 : decode cL_write 201 = .ok (.istore 4, 2) := by decide +kernel
theorem dL_write_203 : decode cL_write 203 = .ok (.aload_n 0, 1) := by decide +kernel
theorem dL_write_204 : decode cL_write 204 = .ok (.aload_n 0, 1) := by decide +kernel
theorem dL_write_205 : decode cL_write 205 = .ok (.iload_n 3, 1) := by decide +kernel
theorem dL_write_206 : decode cL_write 206 = .ok (.iconst 4, 1) := by decide +kernel
theorem dL_write_207 : decode cL_write 207 = .ok (.irem, 1) := by decide +kernel
theorem dL_write_208 : decode cL_write 208 = .ok (.iconst 0, 1) := by decide +kernel
theorem dL_write_209 : decode cL_write 209 = .ok (.invokevirtual 36, 3) := by decide +kernel
theorem dL_write_212 : decode cL_write 212 = .ok (.iconst 1, 1) := by decide +kernel
theorem dL_write_213 : decode cL_write 213 = .ok (.iload 4, 2) := by decide +kernel
theorem dL_write_215 : decode cL_write 215 = .ok (.bipush 90, 2) := by decide +kernel
theorem dL_write_217 : decode cL_write 217 = .ok (.invokestatic 15, 3) := by decide +kernel
theorem dL_write_220 : decode cL_write 220 = .ok (.iadd, 1) := by decide +kernel
theorem dL_write_221 : decode cL_write 221 = .ok (.iconst 1, 1) := by decide +kernel
theorem dL_write_222 : decode cL_write 222 = .ok (.iload 4, 2) := by decide +kernel
theorem dL_write_224 : decode cL_write 224 = .ok (.iconst 1, 1) := by decide +kernel
theorem dL_write_225 : decode cL_write 225 = .ok (.ishr, 1) := by decide +kernel
theorem dL_write_226 : decode cL_write 226 = .ok (.iconst 5, 1) := by decide +kernel
theorem dL_write_227 : decode cL_write 227 = .ok (.invokestatic 15, 3) := by decide +kernel
theorem dL_write_230 : decode cL_write 230 = .ok (.iadd, 1) := by decide +kernel
theorem dL_write_231 : decode cL_write 231 = .ok (.invokevirtual 39, 3) := by decide +kernel
theorem dL_write_234 : decode cL_write 234 = .ok (.pop, 1) := by decide +kernel
theorem dL_write_235 : decode cL_write 235 = .ok (.iload 4, 2) := by decide +kernel
theorem dL_write_237 : decode cL_write 237 = .ok (.iconst 2, 1) := by decide +kernel
theorem dL_write_238 : decode cL_write 238 = .ok (.ishr, 1) := by decide +kernel
theorem dL_write_239 : decode cL_write 239 = .ok (.iconst 4, 1) := by decide +kernel
theorem dL_write_240 : decode cL_write 240 = .ok (.invokestatic 15, 3) := by decide +kernel
theorem dL_write_243 : decode cL_write 243 = .ok (.ifCond .le 12, 3) := by decide +kernel
theorem dL_write_246 : decode cL_write 246 = .ok (.aload_n 0, 1) := by decide +kernel
theorem dL_write_247 : decode cL_write 247 = .ok (.iload_n 3, 1) := by decide +kernel
theorem dL_write_248 : decode cL_write 248 = .ok (.iload_n 3, 1) := by decide +kernel
theorem dL_write_249 : decode cL_write 249 = .ok (.iconst 4, 1) := by decide +kernel
theorem dL_write_250 : decode cL_write 250 = .ok (.irem, 1) := by decide +kernel
theorem dL_write_251 : decode cL_write 251 = .ok (.invokevirtual 42, 3) := by decide +kernel
theorem dL_write_254 : decode cL_write 254 = .ok (.pop, 1) := by decide +kernel
theorem dL_write_255 : decode cL_write 255 = .ok (.iload 4, 2) := by decide +kernel
theorem dL_write_257 : decode cL_write 257 = .ok (.iconst 3, 1) := by decide +kernel
theorem dL_write_258 : decode cL_write 258 = .ok (.ishr, 1) := by decide +kernel
theorem dL_write_259 : decode cL_write 259 = .ok (.iconst 4, 1) := by decide +kernel
theorem dL_write_260 : decode cL_write 260 = .ok (.invokestatic 15, 3) := by decide +kernel
theorem dL_write_263 : decode cL_write 263 = .ok (.ifCond .le 9, 3) := by decide +kernel
theorem dL_write_266 : decode cL_write 266 = .ok (.aload_n 0, 1) := by decide +kernel
theorem dL_write_267 : decode cL_write 267 = .ok (.iload_n 3, 1) := by decide +kernel
theorem dL_write_268 : decode cL_write 268 = .ok (.invokevirtual 45, 3) := by decide +kernel
theorem dL_write_271 : decode cL_write 271 = .ok (.pop, 1) := by decide +kernel
theorem dL_write_272 : decode cL_write 272 = .ok (.iinc 3 1, 3) := by decide +kernel
theorem dL_write_275 : decode cL_write 275 = .ok (.goto (-90), 3) := by decide +kernel
theorem dL_write_278 : decode cL_write 278 = .ok (.return_, 1) := by decide +kernel
theorem dL_ready_0 : decode cL_ready 0 = .ok (.iconst 0, 1) := by decide +kernel
theorem dL_ready_1 : decode cL_ready 1 = .ok (.istore_n 2, 1) := by decide +kernel
theorem dL_ready_2 : decode cL_ready 2 = .ok (.iload_n 2, 1) := by decide +kernel
theorem dL_ready_3 : decode cL_ready 3 = .ok (.bipush 6, 2) := by decide +kernel
theorem dL_ready_5 : decode cL_ready 5 = .ok (.if_icmp .ge 41, 3) := by decide +kernel
theorem dL_ready_8 : decode cL_ready 8 = .ok (.aload_n 0, 1) := by decide +kernel
theorem dL_ready_9 : decode cL_ready 9 = .ok (.iload_n 1, 1) := by decide +kernel
theorem dL_ready_10 : decode cL_ready 10 = .ok (.bipush 8, 2) := by decide +kernel
theorem dL_ready_12 : decode cL_ready 12 = .ok (.invokevirtual 36, 3) := by decide +kernel
theorem dL_ready_15 : decode cL_ready 15 = .ok (.iconst 4, 1) := by decide +kernel
theorem dL_ready_16 : decode cL_ready 16 = .ok (.if_icmp .ge 30, 3) := by decide +kernel
theorem dL_ready_19 : decode cL_ready 19 = .ok (.aload_n 0, 1) := by decide +kernel
theorem dL_ready_20 : decode cL_ready 20 = .ok (.aload_n 0, 1) := by decide +kernel
theorem dL_ready_21 : decode cL_ready 21 = .ok (.iload_n 1, 1) := by decide +kernel
theorem dL_ready_22 : decode cL_ready 22 = .ok (.iconst 1, 1) := by decide +kernel
theorem dL_ready_23 : decode cL_ready 23 = .ok (.invokevirtual 36, 3) := by decide +kernel
theorem dL_ready_26 : decode cL_ready 26 = .ok (.bipush 8, 2) := by decide +kernel
theorem dL_ready_28 : decode cL_ready 28 = .ok (.invokevirtual 49, 3) := by decide +kernel
theorem dL_ready_31 : decode cL_ready 31 = .ok (.ifCond .ne 15, 3) := by decide +kernel
theorem dL_ready_34 : decode cL_ready 34 = .ok (.aload_n 0, 1) := by decide +kernel
theorem dL_ready_35 : decode cL_ready 35 = .ok (.iload_n 1, 1) := by decide +kernel
theorem dL_ready_36 : decode cL_ready 36 = .ok (.invokevirtual 52, 3) := by decide +kernel
theorem dL_ready_39 : decode cL_ready 39 = .ok (.pop, 1) := by decide +kernel
theorem dL_ready_40 : decode cL_ready 40 = .ok (.iinc 2 1, 3) := by decide +kernel
theorem dL_ready_43 : decode cL_ready 43 = .ok (.goto (-41), 3) := by decide +kernel
theorem dL_ready_46 : decode cL_ready 46 = .ok (.iconst 0, 1) := by decide +kernel
theorem dL_ready_47 : decode cL_ready 47 = .ok (.istore_n 2, 1) := by decide +kernel
theorem dL_ready_48 : decode cL_ready 48 = .ok (.iload_n 2, 1) := by decide +kernel
theorem dL_ready_49 : decode cL_ready 49 = .ok (.iconst 3, 1) := by decide +kernel
theorem dL_ready_50 : decode cL_ready 50 = .ok (.if_icmp .ge 41, 3) := by decide +kernel
theorem dL_ready_53 : decode cL_ready 53 = .ok (.aload_n 0, 1) := by decide +kernel
theorem dL_ready_54 : decode cL_ready 54 = .ok (.iload_n 1, 1) := by decide +kernel
theorem dL_ready_55 : decode cL_ready 55 = .ok (.bipush 8, 2) := by decide +kernel
theorem dL_ready_57 : decode cL_ready 57 = .ok (.invokevirtual 36, 3) := by decide +kernel
theorem dL_ready_60 : decode cL_ready 60 = .ok (.iconst 4, 1) := by decide +kernel
theorem dL_ready_61 : decode cL_ready 61 = .ok (.if_icmp .ne 24, 3) := by decide +kernel
theorem dL_ready_64 : decode cL_ready 64 = .ok (.aload_n 0, 1) := by decide +kernel
theorem dL_ready_65 : decode cL_ready 65 = .ok (.iload_n 1, 1) := by decide +kernel
theorem dL_ready_66 : decode cL_ready 66 = .ok (.bipush 9, 2) := by decide +kernel
theorem dL_ready_68 : decode cL_ready 68 = .ok (.invokevirtual 36, 3) := by decide +kernel
theorem dL_ready_71 : decode cL_ready 71 = .ok (.iload_n 2, 1) := by decide +kernel
theorem dL_ready_72 : decode cL_ready 72 = .ok (.ishr, 1) := by decide +kernel
theorem dL_ready_73 : decode cL_ready 73 = .ok (.iconst 1, 1) := by decide +kernel
theorem dL_ready_74 : decode cL_ready 74 = .ok (.iand, 1) := by decide +kernel
theorem dL_ready_75 : decode cL_ready 75 = .ok (.ifCond .ne 10, 3) := by decide +kernel
theorem dL_ready_78 : decode cL_ready 78 = .ok (.aload_n 0, 1) := by decide +kernel
theorem dL_ready_79 : decode cL_ready 79 = .ok (.iload_n 1, 1) := by decide +kernel
theorem dL_ready_80 : decode cL_ready 80 = .ok (.iload_n 2, 1) := by decide +kernel
theorem dL_ready_81 : decode cL_ready 81 = .ok (.invokevirtual 55, 3) := by decide +kernel
theorem dL_ready_84 : decode cL_ready 84 = .ok (.pop, 1) := by decide +kernel
theorem dL_ready_85 : decode cL_ready 85 = .ok (.iinc 2 1, 3) := by decide +kernel
theorem dL_ready_88 : decode cL_ready 88 = .ok (.goto (-40), 3) := by decide +kernel
theorem dL_ready_91 : decode cL_ready 91 = .ok (.return_, 1) := by decide +kernel
theorem dL_law_0 : decode cL_law 0 = .ok (.new 20, 3) := by decide +kernel
theorem dL_law_3 : decode cL_law 3 = .ok (.dup, 1) := by decide +kernel
theorem dL_law_4 : decode cL_law 4 = .ok (.invokespecial 58, 3) := by decide +kernel
theorem dL_law_7 : decode cL_law 7 = .ok (.astore_n 1, 1) := by decide +kernel
theorem dL_law_8 : decode cL_law 8 = .ok (.aload_n 1, 1) := by decide +kernel
theorem dL_law_9 : decode cL_law 9 = .ok (.aload_n 0, 1) := by decide +kernel
theorem dL_law_10 : decode cL_law 10 = .ok (.iconst 5, 1) := by decide +kernel
theorem dL_law_11 : decode cL_law 11 = .ok (.invokestatic 59, 3) := by decide +kernel
theorem dL_law_14 : decode cL_law 14 = .ok (.bipush 8, 2) := by decide +kernel
theorem dL_law_16 : decode cL_law 16 = .ok (.newarray .int, 2) := by decide +kernel
theorem dL_law_18 : decode cL_law 18 = .ok (.astore_n 2, 1) := by decide +kernel
theorem dL_law_19 : decode cL_law 19 = .ok (.iconst 0, 1) := by decide +kernel
theorem dL_law_20 : decode cL_law 20 = .ok (.istore_n 3, 1) := by decide +kernel
theorem dL_law_21 : decode cL_law 21 = .ok (.iload_n 3, 1) := by decide +kernel
theorem dL_law_22 : decode cL_law 22 = .ok (.bipush 8, 2) := by decide +kernel
theorem dL_law_24 : decode cL_law 24 = .ok (.if_icmp .ge 18, 3) := by decide +kernel
theorem dL_law_27 : decode cL_law 27 = .ok (.aload_n 2, 1) := by decide +kernel
theorem dL_law_28 : decode cL_law 28 = .ok (.iload_n 3, 1) := by decide +kernel
theorem dL_law_29 : decode cL_law 29 = .ok (.aload_n 1, 1) := by decide +kernel
theorem dL_law_30 : decode cL_law 30 = .ok (.iload_n 3, 1) := by decide +kernel
theorem dL_law_31 : decode cL_law 31 = .ok (.iconst 2, 1) := by decide +kernel
theorem dL_law_32 : decode cL_law 32 = .ok (.invokevirtual 63, 3) := by decide +kernel
theorem dL_law_35 : decode cL_law 35 = .ok (.iastore, 1) := by decide +kernel
theorem dL_law_36 : decode cL_law 36 = .ok (.iinc 3 1, 3) := by decide +kernel
theorem dL_law_39 : decode cL_law 39 = .ok (.goto (-18), 3) := by decide +kernel
theorem dL_law_42 : decode cL_law 42 = .ok (.iconst 0, 1) := by decide +kernel
theorem dL_law_43 : decode cL_law 43 = .ok (.istore_n 3, 1) := by decide +kernel
theorem dL_law_44 : decode cL_law 44 = .ok (.iload_n 3, 1) := by decide +kernel
theorem dL_law_45 : decode cL_law 45 = .ok (.bipush 36, 2) := by decide +kernel
theorem dL_law_47 : decode cL_law 47 = .ok (.if_icmp .ge 389, 3) := by decide +kernel
theorem dL_law_50 : decode cL_law 50 = .ok (.aload_n 0, 1) := by decide +kernel
theorem dL_law_51 : decode cL_law 51 = .ok (.iload_n 3, 1) := by decide +kernel
theorem dL_law_52 : decode cL_law 52 = .ok (.bipush 16, 2) := by decide +kernel
theorem dL_law_54 : decode cL_law 54 = .ok (.irem, 1) := by decide +kernel
theorem dL_law_55 : decode cL_law 55 = .ok (.invokestatic 9, 3) := by decide +kernel
theorem dL_law_58 : decode cL_law 58 = .ok (.bipush 47, 2) := by decide +kernel
theorem dL_law_60 : decode cL_law 60 = .ok (.iload_n 3, 1) := by decide +kernel
theorem dL_law_61 : decode cL_law 61 = .ok (.imul, 1) := by decide +kernel
theorem dL_law_62 : decode cL_law 62 = .ok (.iadd, 1) := by decide +kernel
theorem dL_law_63 : decode cL_law 63 = .ok (.istore 4, 2) := by decide +kernel
theorem dL_law_65 : decode cL_law 65 = .ok (.iload 4, 2) := by decide +kernel
theorem dL_law_67 : decode cL_law 67 = .ok (.iconst 1, 1) := by decide +kernel
theorem dL_law_68 : decode cL_law 68 = .ok (.ishr, 1) := by decide +kernel
theorem dL_law_69 : decode cL_law 69 = .ok (.iconst 4, 1) := by decide +kernel
theorem dL_law_70 : decode cL_law 70 = .ok (.invokestatic 15, 3) := by decide +kernel
theorem dL_law_73 : decode cL_law 73 = .ok (.istore 5, 2) := by decide +kernel
theorem dL_law_75 : decode cL_law 75 = .ok (.iload 4, 2) := by decide +kernel
theorem dL_law_77 : decode cL_law 77 = .ok (.iconst 2, 1) := by decide +kernel
theorem dL_law_78 : decode cL_law 78 = .ok (.ishr, 1) := by decide +kernel
theorem dL_law_79 : decode cL_law 79 = .ok (.iconst 5, 1) := by decide +kernel
theorem dL_law_80 : decode cL_law 80 = .ok (.invokestatic 15, 3) := by decide +kernel
theorem dL_law_83 : decode cL_law 83 = .ok (.istore 6, 2) := by decide +kernel
theorem dL_law_85 : decode cL_law 85 = .ok (.iload 4, 2) := by decide +kernel
theorem dL_law_87 : decode cL_law 87 = .ok (.bipush 11, 2) := by decide +kernel
theorem dL_law_89 : decode cL_law 89 = .ok (.invokestatic 15, 3) := by decide +kernel
theorem dL_law_92 : decode cL_law 92 = .ok (.tableswitch 247 0 10 #[60, 87, 109, 128, 157, 192, 220, 247, 60, 60, 60], 60) := by decide +kernel
theorem dL_law_152 : decode cL_law 152 = .ok (.aload_n 1, 1) := by decide +kernel
theorem dL_law_153 : decode cL_law 153 = .ok (.iload 5, 2) := by decide +kernel
theorem dL_law_155 : decode cL_law 155 = .ok (.bipush 11, 2) := by decide +kernel
theorem dL_law_157 : decode cL_law 157 = .ok (.invokevirtual 36, 3) := by decide +kernel
theorem dL_law_160 : decode cL_law 160 = .ok (.ifCond .ne 208, 3) := by decide +kernel
theorem dL_law_163 : decode cL_law 163 = .ok (.aload_n 1, 1) := by decide +kernel
theorem dL_law_164 : decode cL_law 164 = .ok (.iload 5, 2) := by decide +kernel
theorem dL_law_166 : decode cL_law 166 = .ok (.invokestatic 66, 3) := by decide +kernel
theorem dL_law_169 : decode cL_law 169 = .ok (.aload_n 1, 1) := by decide +kernel
theorem dL_law_170 : decode cL_law 170 = .ok (.iload 5, 2) := by decide +kernel
theorem dL_law_172 : decode cL_law 172 = .ok (.invokevirtual 70, 3) := by decide +kernel
theorem dL_law_175 : decode cL_law 175 = .ok (.pop, 1) := by decide +kernel
theorem dL_law_176 : decode cL_law 176 = .ok (.goto 192, 3) := by decide +kernel
theorem dL_law_179 : decode cL_law 179 = .ok (.aload_n 1, 1) := by decide +kernel
theorem dL_law_180 : decode cL_law 180 = .ok (.iload 5, 2) := by decide +kernel
theorem dL_law_182 : decode cL_law 182 = .ok (.bipush 11, 2) := by decide +kernel
theorem dL_law_184 : decode cL_law 184 = .ok (.invokevirtual 36, 3) := by decide +kernel
theorem dL_law_187 : decode cL_law 187 = .ok (.iconst 1, 1) := by decide +kernel
theorem dL_law_188 : decode cL_law 188 = .ok (.if_icmp .ne 180, 3) := by decide +kernel
theorem dL_law_191 : decode cL_law 191 = .ok (.aload_n 1, 1) := by decide +kernel
theorem dL_law_192 : decode cL_law 192 = .ok (.iload 5, 2) := by decide +kernel
theorem dL_law_194 : decode cL_law 194 = .ok (.invokevirtual 73, 3) := by decide +kernel
theorem dL_law_197 : decode cL_law 197 = .ok (.pop, 1) := by decide +kernel
theorem dL_law_198 : decode cL_law 198 = .ok (.goto 170, 3) := by decide +kernel
theorem dL_law_201 : decode cL_law 201 = .ok (.aload_n 1, 1) := by decide +kernel
theorem dL_law_202 : decode cL_law 202 = .ok (.iload 6, 2) := by decide +kernel
theorem dL_law_204 : decode cL_law 204 = .ok (.iload 4, 2) := by decide +kernel
theorem dL_law_206 : decode cL_law 206 = .ok (.iconst 3, 1) := by decide +kernel
theorem dL_law_207 : decode cL_law 207 = .ok (.ishr, 1) := by decide +kernel
theorem dL_law_208 : decode cL_law 208 = .ok (.bipush 100, 2) := by decide +kernel
theorem dL_law_210 : decode cL_law 210 = .ok (.invokestatic 15, 3) := by decide +kernel
theorem dL_law_213 : decode cL_law 213 = .ok (.invokevirtual 29, 3) := by decide +kernel
theorem dL_law_216 : decode cL_law 216 = .ok (.pop, 1) := by decide +kernel
theorem dL_law_217 : decode cL_law 217 = .ok (.goto 151, 3) := by decide +kernel
theorem dL_law_220 : decode cL_law 220 = .ok (.aload_n 1, 1) := by decide +kernel
theorem dL_law_221 : decode cL_law 221 = .ok (.iload 6, 2) := by decide +kernel
theorem dL_law_223 : decode cL_law 223 = .ok (.iload 5, 2) := by decide +kernel
theorem dL_law_225 : decode cL_law 225 = .ok (.iload 4, 2) := by decide +kernel
theorem dL_law_227 : decode cL_law 227 = .ok (.bipush 6, 2) := by decide +kernel
theorem dL_law_229 : decode cL_law 229 = .ok (.ishr, 1) := by decide +kernel
theorem dL_law_230 : decode cL_law 230 = .ok (.iconst 2, 1) := by decide +kernel
theorem dL_law_231 : decode cL_law 231 = .ok (.invokestatic 15, 3) := by decide +kernel
theorem dL_law_234 : decode cL_law 234 = .ok (.ifCond .ne 7, 3) := by decide +kernel
theorem dL_law_237 : decode cL_law 237 = .ok (.iconst 1, 1) := by decide +kernel
theorem dL_law_238 : decode cL_law 238 = .ok (.goto 4, 3) := by decide +kernel
theorem dL_law_241 : decode cL_law 241 = .ok (.iconst 0, 1) := by decide +kernel
theorem dL_law_242 : decode cL_law 242 = .ok (.invokevirtual 76, 3) := by decide +kernel
theorem dL_law_245 : decode cL_law 245 = .ok (.pop, 1) := by decide +kernel
theorem dL_law_246 : decode cL_law 246 = .ok (.goto 122, 3) := by decide +kernel
theorem dL_law_249 : decode cL_law 249 = .ok (.aload_n 1, 1) := by decide +kernel
theorem dL_law_250 : decode cL_law 250 = .ok (.iload 4, 2) := by decide +kernel
theorem dL_law_252 : decode cL_law 252 = .ok (.bipush 6, 2) := by decide +kernel
theorem dL_law_254 : decode cL_law 254 = .ok (.ishr, 1) := by decide +kernel
theorem dL_law_255 : decode cL_law 255 = .ok (.bipush 8, 2) := by decide +kernel
theorem dL_law_257 : decode cL_law 257 = .ok (.invokestatic 15, 3) := by decide +kernel
theorem dL_law_260 : decode cL_law 260 = .ok (.iload 4, 2) := by decide +kernel
theorem dL_law_262 : decode cL_law 262 = .ok (.bipush 9, 2) := by decide +kernel
theorem dL_law_264 : decode cL_law 264 = .ok (.ishr, 1) := by decide +kernel
theorem dL_law_265 : decode cL_law 265 = .ok (.iconst 4, 1) := by decide +kernel
theorem dL_law_266 : decode cL_law 266 = .ok (.invokestatic 15, 3) := by decide +kernel
theorem dL_law_269 : decode cL_law 269 = .ok (.ifCond .le 7, 3) := by decide +kernel
theorem dL_law_272 : decode cL_law 272 = .ok (.iconst 1, 1) := by decide +kernel
theorem dL_law_273 : decode cL_law 273 = .ok (.goto 4, 3) := by decide +kernel
theorem dL_law_276 : decode cL_law 276 = .ok (.iconst 0, 1) := by decide +kernel
theorem dL_law_277 : decode cL_law 277 = .ok (.invokevirtual 80, 3) := by decide +kernel
theorem dL_law_280 : decode cL_law 280 = .ok (.pop, 1) := by decide +kernel
theorem dL_law_281 : decode cL_law 281 = .ok (.goto 87, 3) := by decide +kernel
theorem dL_law_284 : decode cL_law 284 = .ok (.aload_n 1, 1) := by decide +kernel
theorem dL_law_285 : decode cL_law 285 = .ok (.iload 6, 2) := by decide +kernel
theorem dL_law_287 : decode cL_law 287 = .ok (.iload 4, 2) := by decide +kernel
theorem dL_law_289 : decode cL_law 289 = .ok (.bipush 6, 2) := by decide +kernel
theorem dL_law_291 : decode cL_law 291 = .ok (.ishr, 1) := by decide +kernel
theorem dL_law_292 : decode cL_law 292 = .ok (.iconst 4, 1) := by decide +kernel
theorem dL_law_293 : decode cL_law 293 = .ok (.invokestatic 15, 3) := by decide +kernel
theorem dL_law_296 : decode cL_law 296 = .ok (.iload 4, 2) := by decide +kernel
theorem dL_law_298 : decode cL_law 298 = .ok (.iconst 4, 1) := by decide +kernel
theorem dL_law_299 : decode cL_law 299 = .ok (.ishr, 1) := by decide +kernel
theorem dL_law_300 : decode cL_law 300 = .ok (.bipush 10, 2) := by decide +kernel
theorem dL_law_302 : decode cL_law 302 = .ok (.invokestatic 15, 3) := by decide +kernel
theorem dL_law_305 : decode cL_law 305 = .ok (.invokevirtual 25, 3) := by decide +kernel
theorem dL_law_308 : decode cL_law 308 = .ok (.pop, 1) := by decide +kernel
theorem dL_law_309 : decode cL_law 309 = .ok (.goto 59, 3) := by decide +kernel
theorem dL_law_312 : decode cL_law 312 = .ok (.aload_n 1, 1) := by decide +kernel
theorem dL_law_313 : decode cL_law 313 = .ok (.bipush 7, 2) := by decide +kernel
theorem dL_law_315 : decode cL_law 315 = .ok (.invokevirtual 84, 3) := by decide +kernel
theorem dL_law_318 : decode cL_law 318 = .ok (.ifCond .ne 50, 3) := by decide +kernel
theorem dL_law_321 : decode cL_law 321 = .ok (.aload_n 1, 1) := by decide +kernel
theorem dL_law_322 : decode cL_law 322 = .ok (.iconst 1, 1) := by decide +kernel
theorem dL_law_323 : decode cL_law 323 = .ok (.iload 4, 2) := by decide +kernel
theorem dL_law_325 : decode cL_law 325 = .ok (.iconst 3, 1) := by decide +kernel
theorem dL_law_326 : decode cL_law 326 = .ok (.ishr, 1) := by decide +kernel
theorem dL_law_327 : decode cL_law 327 = .ok (.iconst 3, 1) := by decide +kernel
theorem dL_law_328 : decode cL_law 328 = .ok (.invokestatic 15, 3) := by decide +kernel
theorem dL_law_331 : decode cL_law 331 = .ok (.iadd, 1) := by decide +kernel
theorem dL_law_332 : decode cL_law 332 = .ok (.invokevirtual 87, 3) := by decide +kernel
theorem dL_law_335 : decode cL_law 335 = .ok (.pop, 1) := by decide +kernel
theorem dL_law_336 : decode cL_law 336 = .ok (.goto 32, 3) := by decide +kernel
theorem dL_law_339 : decode cL_law 339 = .ok (.aload_n 1, 1) := by decide +kernel
theorem dL_law_340 : decode cL_law 340 = .ok (.iload 5, 2) := by decide +kernel
theorem dL_law_342 : decode cL_law 342 = .ok (.iload 6, 2) := by decide +kernel
theorem dL_law_344 : decode cL_law 344 = .ok (.iload 4, 2) := by decide +kernel
theorem dL_law_346 : decode cL_law 346 = .ok (.iconst 3, 1) := by decide +kernel
theorem dL_law_347 : decode cL_law 347 = .ok (.ishr, 1) := by decide +kernel
theorem dL_law_348 : decode cL_law 348 = .ok (.bipush 100, 2) := by decide +kernel
theorem dL_law_350 : decode cL_law 350 = .ok (.invokestatic 15, 3) := by decide +kernel
theorem dL_law_353 : decode cL_law 353 = .ok (.iconst 1, 1) := by decide +kernel
theorem dL_law_354 : decode cL_law 354 = .ok (.iload 4, 2) := by decide +kernel
theorem dL_law_356 : decode cL_law 356 = .ok (.iconst 4, 1) := by decide +kernel
theorem dL_law_357 : decode cL_law 357 = .ok (.ishr, 1) := by decide +kernel
theorem dL_law_358 : decode cL_law 358 = .ok (.bipush 12, 2) := by decide +kernel
theorem dL_law_360 : decode cL_law 360 = .ok (.invokestatic 15, 3) := by decide +kernel
theorem dL_law_363 : decode cL_law 363 = .ok (.iadd, 1) := by decide +kernel
theorem dL_law_364 : decode cL_law 364 = .ok (.invokevirtual 90, 3) := by decide +kernel
theorem dL_law_367 : decode cL_law 367 = .ok (.pop, 1) := by decide +kernel
theorem dL_law_368 : decode cL_law 368 = .ok (.aload_n 1, 1) := by decide +kernel
theorem dL_law_369 : decode cL_law 369 = .ok (.invokestatic 93, 3) := by decide +kernel
theorem dL_law_372 : decode cL_law 372 = .ok (.ifCond .ne 5, 3) := by decide +kernel
theorem dL_law_375 : decode cL_law 375 = .ok (.iconst 0, 1) := by decide +kernel
theorem dL_law_376 : decode cL_law 376 = .ok (.ireturn, 1) := by decide +kernel
theorem dL_law_377 : decode cL_law 377 = .ok (.iconst 0, 1) := by decide +kernel
theorem dL_law_378 : decode cL_law 378 = .ok (.istore 7, 2) := by decide +kernel
theorem dL_law_380 : decode cL_law 380 = .ok (.iload 7, 2) := by decide +kernel
theorem dL_law_382 : decode cL_law 382 = .ok (.bipush 8, 2) := by decide +kernel
theorem dL_law_384 : decode cL_law 384 = .ok (.if_icmp .ge 46, 3) := by decide +kernel
theorem dL_law_387 : decode cL_law 387 = .ok (.aload_n 1, 1) := by decide +kernel
theorem dL_law_388 : decode cL_law 388 = .ok (.iload 7, 2) := by decide +kernel
theorem dL_law_390 : decode cL_law 390 = .ok (.iconst 2, 1) := by decide +kernel
theorem dL_law_391 : decode cL_law 391 = .ok (.invokevirtual 63, 3) := by decide +kernel
theorem dL_law_394 : decode cL_law 394 = .ok (.aload_n 2, 1) := by decide +kernel
theorem dL_law_395 : decode cL_law 395 = .ok (.iload 7, 2) := by decide +kernel
theorem dL_law_397 : decode cL_law 397 = .ok (.iaload, 1) := by decide +kernel
theorem dL_law_398 : decode cL_law 398 = .ok (.if_icmp .gt 13, 3) := by decide +kernel
theorem dL_law_401 : decode cL_law 401 = .ok (.aload_n 1, 1) := by decide +kernel
theorem dL_law_402 : decode cL_law 402 = .ok (.iload 7, 2) := by decide +kernel
theorem dL_law_404 : decode cL_law 404 = .ok (.iconst 2, 1) := by decide +kernel
theorem dL_law_405 : decode cL_law 405 = .ok (.invokevirtual 63, 3) := by decide +kernel
theorem dL_law_408 : decode cL_law 408 = .ok (.ifCond .ge 5, 3) := by decide +kernel
theorem dL_law_411 : decode cL_law 411 = .ok (.iconst 0, 1) := by decide +kernel
theorem dL_law_412 : decode cL_law 412 = .ok (.ireturn, 1) := by decide +kernel
theorem dL_law_413 : decode cL_law 413 = .ok (.aload_n 2, 1) := by decide +kernel
theorem dL_law_414 : decode cL_law 414 = .ok (.iload 7, 2) := by decide +kernel
theorem dL_law_416 : decode cL_law 416 = .ok (.aload_n 1, 1) := by decide +kernel
theorem dL_law_417 : decode cL_law 417 = .ok (.iload 7, 2) := by decide +kernel
theorem dL_law_419 : decode cL_law 419 = .ok (.iconst 2, 1) := by decide +kernel
theorem dL_law_420 : decode cL_law 420 = .ok (.invokevirtual 63, 3) := by decide +kernel
theorem dL_law_423 : decode cL_law 423 = .ok (.iastore, 1) := by decide +kernel
theorem dL_law_424 : decode cL_law 424 = .ok (.iinc 7 1, 3) := by decide +kernel
theorem dL_law_427 : decode cL_law 427 = .ok (.goto (-47), 3) := by decide +kernel
theorem dL_law_430 : decode cL_law 430 = .ok (.iinc 3 1, 3) := by decide +kernel
theorem dL_law_433 : decode cL_law 433 = .ok (.goto (-389), 3) := by decide +kernel
theorem dL_law_436 : decode cL_law 436 = .ok (.aload_n 1, 1) := by decide +kernel
theorem dL_law_437 : decode cL_law 437 = .ok (.invokevirtual 97, 3) := by decide +kernel
theorem dL_law_440 : decode cL_law 440 = .ok (.lstore_n 3, 1) := by decide +kernel
theorem dL_law_441 : decode cL_law 441 = .ok (.aload_n 1, 1) := by decide +kernel
theorem dL_law_442 : decode cL_law 442 = .ok (.iconst 0, 1) := by decide +kernel
theorem dL_law_443 : decode cL_law 443 = .ok (.invokevirtual 101, 3) := by decide +kernel
theorem dL_law_446 : decode cL_law 446 = .ok (.iconst (-1), 1) := by decide +kernel
theorem dL_law_447 : decode cL_law 447 = .ok (.if_icmp .lt 25, 3) := by decide +kernel
theorem dL_law_450 : decode cL_law 450 = .ok (.aload_n 1, 1) := by decide +kernel
theorem dL_law_451 : decode cL_law 451 = .ok (.iconst 1, 1) := by decide +kernel
theorem dL_law_452 : decode cL_law 452 = .ok (.invokevirtual 104, 3) := by decide +kernel
theorem dL_law_455 : decode cL_law 455 = .ok (.iconst (-1), 1) := by decide +kernel
theorem dL_law_456 : decode cL_law 456 = .ok (.if_icmp .lt 16, 3) := by decide +kernel
theorem dL_law_459 : decode cL_law 459 = .ok (.aload_n 1, 1) := by decide +kernel
theorem dL_law_460 : decode cL_law 460 = .ok (.invokevirtual 97, 3) := by decide +kernel
theorem dL_law_463 : decode cL_law 463 = .ok (.lload_n 3, 1) := by decide +kernel
theorem dL_law_464 : decode cL_law 464 = .ok (.lcmp, 1) := by decide +kernel
theorem dL_law_465 : decode cL_law 465 = .ok (.ifCond .ne 7, 3) := by decide +kernel
theorem dL_law_468 : decode cL_law 468 = .ok (.iconst 1, 1) := by decide +kernel
theorem dL_law_469 : decode cL_law 469 = .ok (.goto 4, 3) := by decide +kernel
theorem dL_law_472 : decode cL_law 472 = .ok (.iconst 0, 1) := by decide +kernel
theorem dL_law_473 : decode cL_law 473 = .ok (.ireturn, 1) := by decide +kernel
theorem dL_isSound_0 : decode cL_isSound 0 = .ok (.iconst 0, 1) := by decide +kernel
theorem dL_isSound_1 : decode cL_isSound 1 = .ok (.istore_n 1, 1) := by decide +kernel
theorem dL_isSound_2 : decode cL_isSound 2 = .ok (.iload_n 1, 1) := by decide +kernel
theorem dL_isSound_3 : decode cL_isSound 3 = .ok (.iconst 4, 1) := by decide +kernel
theorem dL_isSound_4 : decode cL_isSound 4 = .ok (.if_icmp .ge 103, 3) := by decide +kernel
theorem dL_isSound_7 : decode cL_isSound 7 = .ok (.aload_n 0, 1) := by decide +kernel
theorem dL_isSound_8 : decode cL_isSound 8 = .ok (.iload_n 1, 1) := by decide +kernel
theorem dL_isSound_9 : decode cL_isSound 9 = .ok (.bipush 11, 2) := by decide +kernel
theorem dL_isSound_11 : decode cL_isSound 11 = .ok (.invokevirtual 36, 3) := by decide +kernel
theorem dL_isSound_14 : decode cL_isSound 14 = .ok (.ifCond .ne 6, 3) := by decide +kernel
theorem dL_isSound_17 : decode cL_isSound 17 = .ok (.goto 84, 3) := by decide +kernel
theorem dL_isSound_20 : decode cL_isSound 20 = .ok (.aload_n 0, 1) := by decide +kernel
theorem dL_isSound_21 : decode cL_isSound 21 = .ok (.iload_n 1, 1) := by decide +kernel
theorem dL_isSound_22 : decode cL_isSound 22 = .ok (.bipush 8, 2) := by decide +kernel
theorem dL_isSound_24 : decode cL_isSound 24 = .ok (.invokevirtual 36, 3) := by decide +kernel
theorem dL_isSound_27 : decode cL_isSound 27 = .ok (.iconst 4, 1) := by decide +kernel
theorem dL_isSound_28 : decode cL_isSound 28 = .ok (.if_icmp .ne 41, 3) := by decide +kernel
theorem dL_isSound_31 : decode cL_isSound 31 = .ok (.aload_n 0, 1) := by decide +kernel
theorem dL_isSound_32 : decode cL_isSound 32 = .ok (.iload_n 1, 1) := by decide +kernel
theorem dL_isSound_33 : decode cL_isSound 33 = .ok (.bipush 9, 2) := by decide +kernel
theorem dL_isSound_35 : decode cL_isSound 35 = .ok (.invokevirtual 36, 3) := by decide +kernel
theorem dL_isSound_38 : decode cL_isSound 38 = .ok (.bipush 7, 2) := by decide +kernel
theorem dL_isSound_40 : decode cL_isSound 40 = .ok (.if_icmp .ne 29, 3) := by decide +kernel
theorem dL_isSound_43 : decode cL_isSound 43 = .ok (.aload_n 0, 1) := by decide +kernel
theorem dL_isSound_44 : decode cL_isSound 44 = .ok (.iload_n 1, 1) := by decide +kernel
theorem dL_isSound_45 : decode cL_isSound 45 = .ok (.bipush 10, 2) := by decide +kernel
theorem dL_isSound_47 : decode cL_isSound 47 = .ok (.invokevirtual 36, 3) := by decide +kernel
theorem dL_isSound_50 : decode cL_isSound 50 = .ok (.ifCond .ne 19, 3) := by decide +kernel
theorem dL_isSound_53 : decode cL_isSound 53 = .ok (.aload_n 0, 1) := by decide +kernel
theorem dL_isSound_54 : decode cL_isSound 54 = .ok (.aload_n 0, 1) := by decide +kernel
theorem dL_isSound_55 : decode cL_isSound 55 = .ok (.iload_n 1, 1) := by decide +kernel
theorem dL_isSound_56 : decode cL_isSound 56 = .ok (.iconst 1, 1) := by decide +kernel
theorem dL_isSound_57 : decode cL_isSound 57 = .ok (.invokevirtual 36, 3) := by decide +kernel
theorem dL_isSound_60 : decode cL_isSound 60 = .ok (.bipush 8, 2) := by decide +kernel
theorem dL_isSound_62 : decode cL_isSound 62 = .ok (.invokevirtual 49, 3) := by decide +kernel
theorem dL_isSound_65 : decode cL_isSound 65 = .ok (.iconst 1, 1) := by decide +kernel
theorem dL_isSound_66 : decode cL_isSound 66 = .ok (.if_icmp .ne 5, 3) := by decide +kernel
theorem dL_isSound_69 : decode cL_isSound 69 = .ok (.iconst 0, 1) := by decide +kernel
theorem dL_isSound_70 : decode cL_isSound 70 = .ok (.ireturn, 1) := by decide +kernel
theorem dL_isSound_71 : decode cL_isSound 71 = .ok (.iconst 0, 1) := by decide +kernel
theorem dL_isSound_72 : decode cL_isSound 72 = .ok (.istore_n 2, 1) := by decide +kernel
theorem dL_isSound_73 : decode cL_isSound 73 = .ok (.iload_n 2, 1) := by decide +kernel
theorem dL_isSound_74 : decode cL_isSound 74 = .ok (.iconst 5, 1) := by decide +kernel
theorem dL_isSound_75 : decode cL_isSound 75 = .ok (.if_icmp .ge 26, 3) := by decide +kernel
theorem dL_isSound_78 : decode cL_isSound 78 = .ok (.aload_n 0, 1) := by decide +kernel
theorem dL_isSound_79 : decode cL_isSound 79 = .ok (.iload_n 2, 1) := by decide +kernel
theorem dL_isSound_80 : decode cL_isSound 80 = .ok (.bipush 11, 2) := by decide +kernel
theorem dL_isSound_82 : decode cL_isSound 82 = .ok (.invokevirtual 49, 3) := by decide +kernel
theorem dL_isSound_85 : decode cL_isSound 85 = .ok (.iload_n 1, 1) := by decide +kernel
theorem dL_isSound_86 : decode cL_isSound 86 = .ok (.ishr, 1) := by decide +kernel
theorem dL_isSound_87 : decode cL_isSound 87 = .ok (.iconst 1, 1) := by decide +kernel
theorem dL_isSound_88 : decode cL_isSound 88 = .ok (.iand, 1) := by decide +kernel
theorem dL_isSound_89 : decode cL_isSound 89 = .ok (.iconst 1, 1) := by decide +kernel
theorem dL_isSound_90 : decode cL_isSound 90 = .ok (.if_icmp .ne 5, 3) := by decide +kernel
theorem dL_isSound_93 : decode cL_isSound 93 = .ok (.iconst 0, 1) := by decide +kernel
theorem dL_isSound_94 : decode cL_isSound 94 = .ok (.ireturn, 1) := by decide +kernel
theorem dL_isSound_95 : decode cL_isSound 95 = .ok (.iinc 2 1, 3) := by decide +kernel
theorem dL_isSound_98 : decode cL_isSound 98 = .ok (.goto (-25), 3) := by decide +kernel
theorem dL_isSound_101 : decode cL_isSound 101 = .ok (.iinc 1 1, 3) := by decide +kernel
theorem dL_isSound_104 : decode cL_isSound 104 = .ok (.goto (-102), 3) := by decide +kernel
theorem dL_isSound_107 : decode cL_isSound 107 = .ok (.iconst 0, 1) := by decide +kernel
theorem dL_isSound_108 : decode cL_isSound 108 = .ok (.istore_n 1, 1) := by decide +kernel
theorem dL_isSound_109 : decode cL_isSound 109 = .ok (.iload_n 1, 1) := by decide +kernel
theorem dL_isSound_110 : decode cL_isSound 110 = .ok (.iconst 5, 1) := by decide +kernel
theorem dL_isSound_111 : decode cL_isSound 111 = .ok (.if_icmp .ge 33, 3) := by decide +kernel
theorem dL_isSound_114 : decode cL_isSound 114 = .ok (.aload_n 0, 1) := by decide +kernel
theorem dL_isSound_115 : decode cL_isSound 115 = .ok (.iload_n 1, 1) := by decide +kernel
theorem dL_isSound_116 : decode cL_isSound 116 = .ok (.bipush 7, 2) := by decide +kernel
theorem dL_isSound_118 : decode cL_isSound 118 = .ok (.invokevirtual 49, 3) := by decide +kernel
theorem dL_isSound_121 : decode cL_isSound 121 = .ok (.ifCond .lt 15, 3) := by decide +kernel
theorem dL_isSound_124 : decode cL_isSound 124 = .ok (.aload_n 0, 1) := by decide +kernel
theorem dL_isSound_125 : decode cL_isSound 125 = .ok (.iload_n 1, 1) := by decide +kernel
theorem dL_isSound_126 : decode cL_isSound 126 = .ok (.bipush 7, 2) := by decide +kernel
theorem dL_isSound_128 : decode cL_isSound 128 = .ok (.invokevirtual 49, 3) := by decide +kernel
theorem dL_isSound_131 : decode cL_isSound 131 = .ok (.bipush 100, 2) := by decide +kernel
theorem dL_isSound_133 : decode cL_isSound 133 = .ok (.if_icmp .le 5, 3) := by decide +kernel
theorem dL_isSound_136 : decode cL_isSound 136 = .ok (.iconst 0, 1) := by decide +kernel
theorem dL_isSound_137 : decode cL_isSound 137 = .ok (.ireturn, 1) := by decide +kernel
theorem dL_isSound_138 : decode cL_isSound 138 = .ok (.iinc 1 1, 3) := by decide +kernel
theorem dL_isSound_141 : decode cL_isSound 141 = .ok (.goto (-32), 3) := by decide +kernel
theorem dL_isSound_144 : decode cL_isSound 144 = .ok (.iconst 1, 1) := by decide +kernel
theorem dL_isSound_145 : decode cL_isSound 145 = .ok (.ireturn, 1) := by decide +kernel
