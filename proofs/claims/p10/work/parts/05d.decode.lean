theorem dX14_floorValue_66 : decode cX14_floorValue 66 = .ok (.aload_n 0, 1) := by decide +kernel
theorem dX14_floorValue_67 : decode cX14_floorValue 67 = .ok (.getfield 165, 3) := by decide +kernel
theorem dX14_floorValue_70 : decode cX14_floorValue 70 = .ok (.iload_n 3, 1) := by decide +kernel
theorem dX14_floorValue_71 : decode cX14_floorValue 71 = .ok (.baload, 1) := by decide +kernel
theorem dX14_floorValue_72 : decode cX14_floorValue 72 = .ok (.ifCond .ne 5, 3) := by decide +kernel
theorem dX14_floorValue_75 : decode cX14_floorValue 75 = .ok (.lconst 0, 1) := by decide +kernel
theorem dX14_floorValue_76 : decode cX14_floorValue 76 = .ok (.lreturn, 1) := by decide +kernel
theorem dX14_floorValue_77 : decode cX14_floorValue 77 = .ok (.aload_n 0, 1) := by decide +kernel
theorem dX14_floorValue_78 : decode cX14_floorValue 78 = .ok (.aload_n 0, 1) := by decide +kernel
theorem dX14_floorValue_79 : decode cX14_floorValue 79 = .ok (.getfield 127, 3) := by decide +kernel
theorem dX14_floorValue_82 : decode cX14_floorValue 82 = .ok (.aload_n 0, 1) := by decide +kernel
theorem dX14_floorValue_83 : decode cX14_floorValue 83 = .ok (.getfield 85, 3) := by decide +kernel
theorem dX14_floorValue_86 : decode cX14_floorValue 86 = .ok (.sipush 128, 3) := by decide +kernel
theorem dX14_floorValue_89 : decode cX14_floorValue 89 = .ok (.aload_n 0, 1) := by decide +kernel
theorem dX14_floorValue_90 : decode cX14_floorValue 90 = .ok (.getfield 127, 3) := by decide +kernel
theorem dX14_floorValue_93 : decode cX14_floorValue 93 = .ok (.imul, 1) := by decide +kernel
theorem dX14_floorValue_94 : decode cX14_floorValue 94 = .ok (.bipush 8, 2) := by decide +kernel
theorem dX14_floorValue_96 : decode cX14_floorValue 96 = .ok (.iload_n 2, 1) := by decide +kernel
theorem dX14_floorValue_97 : decode cX14_floorValue 97 = .ok (.imul, 1) := by decide +kernel
theorem dX14_floorValue_98 : decode cX14_floorValue 98 = .ok (.iadd, 1) := by decide +kernel
theorem dX14_floorValue_99 : decode cX14_floorValue 99 = .ok (.iload_n 3, 1) := by decide +kernel
theorem dX14_floorValue_100 : decode cX14_floorValue 100 = .ok (.iadd, 1) := by decide +kernel
theorem dX14_floorValue_101 : decode cX14_floorValue 101 = .ok (.iaload, 1) := by decide +kernel
theorem dX14_floorValue_102 : decode cX14_floorValue 102 = .ok (.invokevirtual 374, 3) := by decide +kernel
theorem dX14_floorValue_105 : decode cX14_floorValue 105 = .ok (.istore 5, 2) := by decide +kernel
theorem dX14_floorValue_107 : decode cX14_floorValue 107 = .ok (.aload_n 0, 1) := by decide +kernel
theorem dX14_floorValue_108 : decode cX14_floorValue 108 = .ok (.iload 5, 2) := by decide +kernel
theorem dX14_floorValue_110 : decode cX14_floorValue 110 = .ok (.aload_n 0, 1) := by decide +kernel
theorem dX14_floorValue_111 : decode cX14_floorValue 111 = .ok (.getfield 175, 3) := by decide +kernel
theorem dX14_floorValue_114 : decode cX14_floorValue 114 = .ok (.iload_n 3, 1) := by decide +kernel
theorem dX14_floorValue_115 : decode cX14_floorValue 115 = .ok (.laload, 1) := by decide +kernel
theorem dX14_floorValue_116 : decode cX14_floorValue 116 = .ok (.invokevirtual 433, 3) := by decide +kernel
theorem dX14_floorValue_119 : decode cX14_floorValue 119 = .ok (.lstore 6, 2) := by decide +kernel
theorem dX14_floorValue_121 : decode cX14_floorValue 121 = .ok (.aload_n 0, 1) := by decide +kernel
theorem dX14_floorValue_122 : decode cX14_floorValue 122 = .ok (.iload 5, 2) := by decide +kernel
theorem dX14_floorValue_124 : decode cX14_floorValue 124 = .ok (.invokevirtual 437, 3) := by decide +kernel
theorem dX14_floorValue_127 : decode cX14_floorValue 127 = .ok (.i2l, 1) := by decide +kernel
theorem dX14_floorValue_128 : decode cX14_floorValue 128 = .ok (.lstore 8, 2) := by decide +kernel
theorem dX14_floorValue_130 : decode cX14_floorValue 130 = .ok (.lload 6, 2) := by decide +kernel
theorem dX14_floorValue_132 : decode cX14_floorValue 132 = .ok (.lload 8, 2) := by decide +kernel
theorem dX14_floorValue_134 : decode cX14_floorValue 134 = .ok (.ldiv, 1) := by decide +kernel
theorem dX14_floorValue_135 : decode cX14_floorValue 135 = .ok (.lstore 10, 2) := by decide +kernel
theorem dX14_floorValue_137 : decode cX14_floorValue 137 = .ok (.lload 10, 2) := by decide +kernel
theorem dX14_floorValue_139 : decode cX14_floorValue 139 = .ok (.lload 8, 2) := by decide +kernel
theorem dX14_floorValue_141 : decode cX14_floorValue 141 = .ok (.lmul, 1) := by decide +kernel
theorem dX14_floorValue_142 : decode cX14_floorValue 142 = .ok (.lload 6, 2) := by decide +kernel
theorem dX14_floorValue_144 : decode cX14_floorValue 144 = .ok (.lcmp, 1) := by decide +kernel
theorem dX14_floorValue_145 : decode cX14_floorValue 145 = .ok (.ifCond .le 10, 3) := by decide +kernel
theorem dX14_floorValue_148 : decode cX14_floorValue 148 = .ok (.lload 10, 2) := by decide +kernel
theorem dX14_floorValue_150 : decode cX14_floorValue 150 = .ok (.lconst 1, 1) := by decide +kernel
theorem dX14_floorValue_151 : decode cX14_floorValue 151 = .ok (.lsub, 1) := by decide +kernel
theorem dX14_floorValue_152 : decode cX14_floorValue 152 = .ok (.goto 5, 3) := by decide +kernel
theorem dX14_floorValue_155 : decode cX14_floorValue 155 = .ok (.lload 10, 2) := by decide +kernel
theorem dX14_floorValue_157 : decode cX14_floorValue 157 = .ok (.lreturn, 1) := by decide +kernel
theorem dX14_job_0 : decode cX14_job 0 = .ok (.aload_n 0, 1) := by decide +kernel
theorem dX14_job_1 : decode cX14_job 1 = .ok (.iconst 0, 1) := by decide +kernel
theorem dX14_job_2 : decode cX14_job 2 = .ok (.putfield 181, 3) := by decide +kernel
theorem dX14_job_5 : decode cX14_job 5 = .ok (.aload_n 0, 1) := by decide +kernel
theorem dX14_job_6 : decode cX14_job 6 = .ok (.getfield 400, 3) := by decide +kernel
theorem dX14_job_9 : decode cX14_job 9 = .ok (.ifCond .eq 21, 3) := by decide +kernel
theorem dX14_job_12 : decode cX14_job 12 = .ok (.iload_n 1, 1) := by decide +kernel
theorem dX14_job_13 : decode cX14_job 13 = .ok (.iconst 1, 1) := by decide +kernel
theorem dX14_job_14 : decode cX14_job 14 = .ok (.if_icmp .lt 16, 3) := by decide +kernel
theorem dX14_job_17 : decode cX14_job 17 = .ok (.iload_n 1, 1) := by decide +kernel
theorem dX14_job_18 : decode cX14_job 18 = .ok (.aload_n 0, 1) := by decide +kernel
theorem dX14_job_19 : decode cX14_job 19 = .ok (.getfield 28, 3) := by decide +kernel
theorem dX14_job_22 : decode cX14_job 22 = .ok (.aload_n 0, 1) := by decide +kernel
theorem dX14_job_23 : decode cX14_job 23 = .ok (.getfield 127, 3) := by decide +kernel
theorem dX14_job_26 : decode cX14_job 26 = .ok (.iaload, 1) := by decide +kernel
theorem dX14_job_27 : decode cX14_job 27 = .ok (.if_icmp .le 5, 3) := by decide +kernel
theorem dX14_job_30 : decode cX14_job 30 = .ok (.iconst (-1), 1) := by decide +kernel
theorem dX14_job_31 : decode cX14_job 31 = .ok (.ireturn, 1) := by decide +kernel
theorem dX14_job_32 : decode cX14_job 32 = .ok (.lload_n 2, 1) := by decide +kernel
theorem dX14_job_33 : decode cX14_job 33 = .ok (.lconst 0, 1) := by decide +kernel
theorem dX14_job_34 : decode cX14_job 34 = .ok (.lcmp, 1) := by decide +kernel
theorem dX14_job_35 : decode cX14_job 35 = .ok (.ifCond .lt 11, 3) := by decide +kernel
theorem dX14_job_38 : decode cX14_job 38 = .ok (.lload_n 2, 1) := by decide +kernel
theorem dX14_job_39 : decode cX14_job 39 = .ok (.ldc2_w 456, 3) := by decide +kernel
theorem dX14_job_42 : decode cX14_job 42 = .ok (.lcmp, 1) := by decide +kernel
theorem dX14_job_43 : decode cX14_job 43 = .ok (.ifCond .le 6, 3) := by decide +kernel
theorem dX14_job_46 : decode cX14_job 46 = .ok (.bipush (-2), 2) := by decide +kernel
theorem dX14_job_48 : decode cX14_job 48 = .ok (.ireturn, 1) := by decide +kernel
theorem dX14_job_49 : decode cX14_job 49 = .ok (.iload_n 1, 1) := by decide +kernel
theorem dX14_job_50 : decode cX14_job 50 = .ok (.iconst 1, 1) := by decide +kernel
theorem dX14_job_51 : decode cX14_job 51 = .ok (.isub, 1) := by decide +kernel
theorem dX14_job_52 : decode cX14_job 52 = .ok (.istore 4, 2) := by decide +kernel
theorem dX14_job_54 : decode cX14_job 54 = .ok (.aload_n 0, 1) := by decide +kernel
theorem dX14_job_55 : decode cX14_job 55 = .ok (.iconst 0, 1) := by decide +kernel
theorem dX14_job_56 : decode cX14_job 56 = .ok (.putfield 453, 3) := by decide +kernel
theorem dX14_job_59 : decode cX14_job 59 = .ok (.iconst 0, 1) := by decide +kernel
theorem dX14_job_60 : decode cX14_job 60 = .ok (.istore 5, 2) := by decide +kernel
theorem dX14_job_62 : decode cX14_job 62 = .ok (.lload_n 2, 1) := by decide +kernel
theorem dX14_job_63 : decode cX14_job 63 = .ok (.lstore 6, 2) := by decide +kernel
theorem dX14_job_65 : decode cX14_job 65 = .ok (.iconst 0, 1) := by decide +kernel
theorem dX14_job_66 : decode cX14_job 66 = .ok (.istore 8, 2) := by decide +kernel
theorem dX14_job_68 : decode cX14_job 68 = .ok (.iload 8, 2) := by decide +kernel
theorem dX14_job_70 : decode cX14_job 70 = .ok (.aload_n 0, 1) := by decide +kernel
theorem dX14_job_71 : decode cX14_job 71 = .ok (.getfield 112, 3) := by decide +kernel
theorem dX14_job_74 : decode cX14_job 74 = .ok (.iconst 4, 1) := by decide +kernel
theorem dX14_job_75 : decode cX14_job 75 = .ok (.aload_n 0, 1) := by decide +kernel
theorem dX14_job_76 : decode cX14_job 76 = .ok (.getfield 127, 3) := by decide +kernel
theorem dX14_job_79 : decode cX14_job 79 = .ok (.imul, 1) := by decide +kernel
theorem dX14_job_80 : decode cX14_job 80 = .ok (.iload 4, 2) := by decide +kernel
theorem dX14_job_82 : decode cX14_job 82 = .ok (.iadd, 1) := by decide +kernel
theorem dX14_job_83 : decode cX14_job 83 = .ok (.iaload, 1) := by decide +kernel
theorem dX14_job_84 : decode cX14_job 84 = .ok (.if_icmp .ge 501, 3) := by decide +kernel
theorem dX14_job_87 : decode cX14_job 87 = .ok (.bipush 100, 2) := by decide +kernel
theorem dX14_job_89 : decode cX14_job 89 = .ok (.iload 4, 2) := by decide +kernel
theorem dX14_job_91 : decode cX14_job 91 = .ok (.imul, 1) := by decide +kernel
theorem dX14_job_92 : decode cX14_job 92 = .ok (.iload 8, 2) := by decide +kernel
theorem dX14_job_94 : decode cX14_job 94 = .ok (.iadd, 1) := by decide +kernel
theorem dX14_job_95 : decode cX14_job 95 = .ok (.istore 9, 2) := by decide +kernel
theorem dX14_job_97 : decode cX14_job 97 = .ok (.aload_n 0, 1) := by decide +kernel
theorem dX14_job_98 : decode cX14_job 98 = .ok (.getfield 115, 3) := by decide +kernel
theorem dX14_job_101 : decode cX14_job 101 = .ok (.sipush 400, 3) := by decide +kernel
theorem dX14_job_104 : decode cX14_job 104 = .ok (.aload_n 0, 1) := by decide +kernel
theorem dX14_job_105 : decode cX14_job 105 = .ok (.getfield 127, 3) := by decide +kernel
theorem dX14_job_108 : decode cX14_job 108 = .ok (.imul, 1) := by decide +kernel
theorem dX14_job_109 : decode cX14_job 109 = .ok (.iload 9, 2) := by decide +kernel
theorem dX14_job_111 : decode cX14_job 111 = .ok (.iadd, 1) := by decide +kernel
theorem dX14_job_112 : decode cX14_job 112 = .ok (.iaload, 1) := by decide +kernel
theorem dX14_job_113 : decode cX14_job 113 = .ok (.istore 10, 2) := by decide +kernel
theorem dX14_job_115 : decode cX14_job 115 = .ok (.iload 10, 2) := by decide +kernel
theorem dX14_job_117 : decode cX14_job 117 = .ok (.bipush 25, 2) := by decide +kernel
theorem dX14_job_119 : decode cX14_job 119 = .ok (.if_icmp .ne 24, 3) := by decide +kernel
theorem dX14_job_122 : decode cX14_job 122 = .ok (.aload_n 0, 1) := by decide +kernel
theorem dX14_job_123 : decode cX14_job 123 = .ok (.getfield 118, 3) := by decide +kernel
theorem dX14_job_126 : decode cX14_job 126 = .ok (.sipush 400, 3) := by decide +kernel
theorem dX14_job_129 : decode cX14_job 129 = .ok (.aload_n 0, 1) := by decide +kernel
theorem dX14_job_130 : decode cX14_job 130 = .ok (.getfield 127, 3) := by decide +kernel
theorem dX14_job_133 : decode cX14_job 133 = .ok (.imul, 1) := by decide +kernel
theorem dX14_job_134 : decode cX14_job 134 = .ok (.iload 9, 2) := by decide +kernel
theorem dX14_job_136 : decode cX14_job 136 = .ok (.iadd, 1) := by decide +kernel
theorem dX14_job_137 : decode cX14_job 137 = .ok (.iaload, 1) := by decide +kernel
theorem dX14_job_138 : decode cX14_job 138 = .ok (.istore 8, 2) := by decide +kernel
theorem dX14_job_140 : decode cX14_job 140 = .ok (.goto (-72), 3) := by decide +kernel
theorem dX14_job_143 : decode cX14_job 143 = .ok (.lload 6, 2) := by decide +kernel
theorem dX14_job_145 : decode cX14_job 145 = .ok (.lconst 0, 1) := by decide +kernel
theorem dX14_job_146 : decode cX14_job 146 = .ok (.lcmp, 1) := by decide +kernel
theorem dX14_job_147 : decode cX14_job 147 = .ok (.ifCond .ne 5, 3) := by decide +kernel
theorem dX14_job_150 : decode cX14_job 150 = .ok (.iconst 0, 1) := by decide +kernel
theorem dX14_job_151 : decode cX14_job 151 = .ok (.ireturn, 1) := by decide +kernel
theorem dX14_job_152 : decode cX14_job 152 = .ok (.lload 6, 2) := by decide +kernel
theorem dX14_job_154 : decode cX14_job 154 = .ok (.lconst 1, 1) := by decide +kernel
theorem dX14_job_155 : decode cX14_job 155 = .ok (.lsub, 1) := by decide +kernel
theorem dX14_job_156 : decode cX14_job 156 = .ok (.lstore 6, 2) := by decide +kernel
theorem dX14_job_158 : decode cX14_job 158 = .ok (.iload 10, 2) := by decide +kernel
theorem dX14_job_160 : decode cX14_job 160 = .ok (.bipush 15, 2) := by decide +kernel
theorem dX14_job_162 : decode cX14_job 162 = .ok (.if_icmp .eq 10, 3) := by decide +kernel
theorem dX14_job_165 : decode cX14_job 165 = .ok (.iload 10, 2) := by decide +kernel
theorem dX14_job_167 : decode cX14_job 167 = .ok (.bipush 16, 2) := by decide +kernel
theorem dX14_job_169 : decode cX14_job 169 = .ok (.if_icmp .ne 7, 3) := by decide +kernel
theorem dX14_job_172 : decode cX14_job 172 = .ok (.iconst 0, 1) := by decide +kernel
theorem dX14_job_173 : decode cX14_job 173 = .ok (.goto 36, 3) := by decide +kernel
theorem dX14_job_176 : decode cX14_job 176 = .ok (.iload 10, 2) := by decide +kernel
theorem dX14_job_178 : decode cX14_job 178 = .ok (.bipush 17, 2) := by decide +kernel
theorem dX14_job_180 : decode cX14_job 180 = .ok (.if_icmp .eq 24, 3) := by decide +kernel
theorem dX14_job_183 : decode cX14_job 183 = .ok (.iload 10, 2) := by decide +kernel
theorem dX14_job_185 : decode cX14_job 185 = .ok (.bipush 18, 2) := by decide +kernel
theorem dX14_job_187 : decode cX14_job 187 = .ok (.if_icmp .eq 17, 3) := by decide +kernel
theorem dX14_job_190 : decode cX14_job 190 = .ok (.iload 10, 2) := by decide +kernel
theorem dX14_job_192 : decode cX14_job 192 = .ok (.bipush 19, 2) := by decide +kernel
theorem dX14_job_194 : decode cX14_job 194 = .ok (.if_icmp .eq 10, 3) := by decide +kernel
theorem dX14_job_197 : decode cX14_job 197 = .ok (.iload 10, 2) := by decide +kernel
theorem dX14_job_199 : decode cX14_job 199 = .ok (.bipush 21, 2) := by decide +kernel
theorem dX14_job_201 : decode cX14_job 201 = .ok (.if_icmp .ne 7, 3) := by decide +kernel
theorem dX14_job_204 : decode cX14_job 204 = .ok (.iconst 2, 1) := by decide +kernel
theorem dX14_job_205 : decode cX14_job 205 = .ok (.goto 4, 3) := by decide +kernel
theorem dX14_job_208 : decode cX14_job 208 = .ok (.iconst 1, 1) := by decide +kernel
theorem dX14_job_209 : decode cX14_job 209 = .ok (.istore 11, 2) := by decide +kernel
theorem dX14_job_211 : decode cX14_job 211 = .ok (.iload 10, 2) := by decide +kernel
theorem dX14_job_213 : decode cX14_job 213 = .ok (.bipush 15, 2) := by decide +kernel
theorem dX14_job_215 : decode cX14_job 215 = .ok (.if_icmp .eq 17, 3) := by decide +kernel
theorem dX14_job_218 : decode cX14_job 218 = .ok (.iload 10, 2) := by decide +kernel
theorem dX14_job_220 : decode cX14_job 220 = .ok (.bipush 16, 2) := by decide +kernel
theorem dX14_job_222 : decode cX14_job 222 = .ok (.if_icmp .eq 10, 3) := by decide +kernel
theorem dX14_job_225 : decode cX14_job 225 = .ok (.iload 10, 2) := by decide +kernel
theorem dX14_job_227 : decode cX14_job 227 = .ok (.bipush 20, 2) := by decide +kernel
theorem dX14_job_229 : decode cX14_job 229 = .ok (.if_icmp .ne 7, 3) := by decide +kernel
theorem dX14_job_232 : decode cX14_job 232 = .ok (.iconst 1, 1) := by decide +kernel
theorem dX14_job_233 : decode cX14_job 233 = .ok (.goto 4, 3) := by decide +kernel
theorem dX14_job_236 : decode cX14_job 236 = .ok (.iconst 0, 1) := by decide +kernel
theorem dX14_job_237 : decode cX14_job 237 = .ok (.istore 12, 2) := by decide +kernel
theorem dX14_job_239 : decode cX14_job 239 = .ok (.iload 5, 2) := by decide +kernel
theorem dX14_job_241 : decode cX14_job 241 = .ok (.iload 11, 2) := by decide +kernel
theorem dX14_job_243 : decode cX14_job 243 = .ok (.if_icmp .lt 15, 3) := by decide +kernel
theorem dX14_job_246 : decode cX14_job 246 = .ok (.iload 12, 2) := by decide +kernel
theorem dX14_job_248 : decode cX14_job 248 = .ok (.ifCond .eq 13, 3) := by decide +kernel
theorem dX14_job_251 : decode cX14_job 251 = .ok (.iload 5, 2) := by decide +kernel
theorem dX14_job_253 : decode cX14_job 253 = .ok (.bipush 16, 2) := by decide +kernel
theorem dX14_job_255 : decode cX14_job 255 = .ok (.if_icmp .ne 6, 3) := by decide +kernel
theorem dX14_job_258 : decode cX14_job 258 = .ok (.bipush (-3), 2) := by decide +kernel
theorem dX14_job_260 : decode cX14_job 260 = .ok (.ireturn, 1) := by decide +kernel
theorem dX14_job_261 : decode cX14_job 261 = .ok (.iload 5, 2) := by decide +kernel
theorem dX14_job_263 : decode cX14_job 263 = .ok (.ifCond .le 15, 3) := by decide +kernel
theorem dX14_job_266 : decode cX14_job 266 = .ok (.aload_n 0, 1) := by decide +kernel
theorem dX14_job_267 : decode cX14_job 267 = .ok (.getfield 178, 3) := by decide +kernel
theorem dX14_job_270 : decode cX14_job 270 = .ok (.iload 5, 2) := by decide +kernel
theorem dX14_job_272 : decode cX14_job 272 = .ok (.iconst 1, 1) := by decide +kernel
theorem dX14_job_273 : decode cX14_job 273 = .ok (.isub, 1) := by decide +kernel
theorem dX14_job_274 : decode cX14_job 274 = .ok (.laload, 1) := by decide +kernel
theorem dX14_job_275 : decode cX14_job 275 = .ok (.goto 4, 3) := by decide +kernel
theorem dX14_job_278 : decode cX14_job 278 = .ok (.lconst 0, 1) := by decide +kernel
theorem dX14_job_279 : decode cX14_job 279 = .ok (.lstore 13, 2) := by decide +kernel
theorem dX14_job_281 : decode cX14_job 281 = .ok (.iload 5, 2) := by decide +kernel
theorem dX14_job_283 : decode cX14_job 283 = .ok (.iconst 1, 1) := by decide +kernel
theorem dX14_job_284 : decode cX14_job 284 = .ok (.if_icmp .le 15, 3) := by decide +kernel
theorem dX14_job_287 : decode cX14_job 287 = .ok (.aload_n 0, 1) := by decide +kernel
theorem dX14_job_288 : decode cX14_job 288 = .ok (.getfield 178, 3) := by decide +kernel
theorem dX14_job_291 : decode cX14_job 291 = .ok (.iload 5, 2) := by decide +kernel
theorem dX14_job_293 : decode cX14_job 293 = .ok (.iconst 2, 1) := by decide +kernel
theorem dX14_job_294 : decode cX14_job 294 = .ok (.isub, 1) := by decide +kernel
theorem dX14_job_295 : decode cX14_job 295 = .ok (.laload, 1) := by decide +kernel
theorem dX14_job_296 : decode cX14_job 296 = .ok (.goto 4, 3) := by decide +kernel
theorem dX14_job_299 : decode cX14_job 299 = .ok (.lconst 0, 1) := by decide +kernel
theorem dX14_job_300 : decode cX14_job 300 = .ok (.lstore 15, 2) := by decide +kernel
theorem dX14_job_302 : decode cX14_job 302 = .ok (.iinc 8 1, 3) := by decide +kernel
theorem dX14_job_305 : decode cX14_job 305 = .ok (.iload 10, 2) := by decide +kernel
theorem dX14_job_307 : decode cX14_job 307 = .ok (.tableswitch 272 15 24 #[53, 83, 142, 142, 142, 102, 117, 272, 228, 192], 53) := by decide +kernel
theorem dX14_job_360 : decode cX14_job 360 = .ok (.aload_n 0, 1) := by decide +kernel
theorem dX14_job_361 : decode cX14_job 361 = .ok (.getfield 178, 3) := by decide +kernel
theorem dX14_job_364 : decode cX14_job 364 = .ok (.iload 5, 2) := by decide +kernel
theorem dX14_job_366 : decode cX14_job 366 = .ok (.aload_n 0, 1) := by decide +kernel
theorem dX14_job_367 : decode cX14_job 367 = .ok (.getfield 118, 3) := by decide +kernel
theorem dX14_job_370 : decode cX14_job 370 = .ok (.sipush 400, 3) := by decide +kernel
theorem dX14_job_373 : decode cX14_job 373 = .ok (.aload_n 0, 1) := by decide +kernel
theorem dX14_job_374 : decode cX14_job 374 = .ok (.getfield 127, 3) := by decide +kernel
theorem dX14_job_377 : decode cX14_job 377 = .ok (.imul, 1) := by decide +kernel
theorem dX14_job_378 : decode cX14_job 378 = .ok (.iload 9, 2) := by decide +kernel
theorem dX14_job_380 : decode cX14_job 380 = .ok (.iadd, 1) := by decide +kernel
theorem dX14_job_381 : decode cX14_job 381 = .ok (.iaload, 1) := by decide +kernel
theorem dX14_job_382 : decode cX14_job 382 = .ok (.i2l, 1) := by decide +kernel
theorem dX14_job_383 : decode cX14_job 383 = .ok (.lastore, 1) := by decide +kernel
theorem dX14_job_384 : decode cX14_job 384 = .ok (.iinc 5 1, 3) := by decide +kernel
theorem dX14_job_387 : decode cX14_job 387 = .ok (.goto 195, 3) := by decide +kernel
theorem dX14_job_390 : decode cX14_job 390 = .ok (.aload_n 0, 1) := by decide +kernel
theorem dX14_job_391 : decode cX14_job 391 = .ok (.getfield 178, 3) := by decide +kernel
theorem dX14_job_394 : decode cX14_job 394 = .ok (.iload 5, 2) := by decide +kernel
theorem dX14_job_396 : decode cX14_job 396 = .ok (.aload_n 0, 1) := by decide +kernel
theorem dX14_job_397 : decode cX14_job 397 = .ok (.iload 9, 2) := by decide +kernel
theorem dX14_job_399 : decode cX14_job 399 = .ok (.invokevirtual 458, 3) := by decide +kernel
theorem dX14_job_402 : decode cX14_job 402 = .ok (.lastore, 1) := by decide +kernel
theorem dX14_job_403 : decode cX14_job 403 = .ok (.iinc 5 1, 3) := by decide +kernel
theorem dX14_job_406 : decode cX14_job 406 = .ok (.goto 176, 3) := by decide +kernel
theorem dX14_job_409 : decode cX14_job 409 = .ok (.aload_n 0, 1) := by decide +kernel
theorem dX14_job_410 : decode cX14_job 410 = .ok (.getfield 178, 3) := by decide +kernel
theorem dX14_job_413 : decode cX14_job 413 = .ok (.iload 5, 2) := by decide +kernel
theorem dX14_job_415 : decode cX14_job 415 = .ok (.lload 13, 2) := by decide +kernel
theorem dX14_job_417 : decode cX14_job 417 = .ok (.lastore, 1) := by decide +kernel
theorem dX14_job_418 : decode cX14_job 418 = .ok (.iinc 5 1, 3) := by decide +kernel
theorem dX14_job_421 : decode cX14_job 421 = .ok (.goto 161, 3) := by decide +kernel
theorem dX14_job_424 : decode cX14_job 424 = .ok (.aload_n 0, 1) := by decide +kernel
theorem dX14_job_425 : decode cX14_job 425 = .ok (.getfield 178, 3) := by decide +kernel
theorem dX14_job_428 : decode cX14_job 428 = .ok (.iload 5, 2) := by decide +kernel
theorem dX14_job_430 : decode cX14_job 430 = .ok (.iconst 1, 1) := by decide +kernel
theorem dX14_job_431 : decode cX14_job 431 = .ok (.isub, 1) := by decide +kernel
theorem dX14_job_432 : decode cX14_job 432 = .ok (.lload 15, 2) := by decide +kernel
theorem dX14_job_434 : decode cX14_job 434 = .ok (.lastore, 1) := by decide +kernel
theorem dX14_job_435 : decode cX14_job 435 = .ok (.aload_n 0, 1) := by decide +kernel
theorem dX14_job_436 : decode cX14_job 436 = .ok (.getfield 178, 3) := by decide +kernel
theorem dX14_job_439 : decode cX14_job 439 = .ok (.iload 5, 2) := by decide +kernel
theorem dX14_job_441 : decode cX14_job 441 = .ok (.iconst 2, 1) := by decide +kernel
theorem dX14_job_442 : decode cX14_job 442 = .ok (.isub, 1) := by decide +kernel
theorem dX14_job_443 : decode cX14_job 443 = .ok (.lload 13, 2) := by decide +kernel
theorem dX14_job_445 : decode cX14_job 445 = .ok (.lastore, 1) := by decide +kernel
theorem dX14_job_446 : decode cX14_job 446 = .ok (.goto 136, 3) := by decide +kernel
theorem dX14_job_449 : decode cX14_job 449 = .ok (.iinc 5 (-1), 3) := by decide +kernel
theorem dX14_job_452 : decode cX14_job 452 = .ok (.aload_n 0, 1) := by decide +kernel
theorem dX14_job_453 : decode cX14_job 453 = .ok (.getfield 178, 3) := by decide +kernel
theorem dX14_job_456 : decode cX14_job 456 = .ok (.iload 5, 2) := by decide +kernel
theorem dX14_job_458 : decode cX14_job 458 = .ok (.iconst 1, 1) := by decide +kernel
theorem dX14_job_459 : decode cX14_job 459 = .ok (.isub, 1) := by decide +kernel
theorem dX14_job_460 : decode cX14_job 460 = .ok (.iload 10, 2) := by decide +kernel
theorem dX14_job_462 : decode cX14_job 462 = .ok (.bipush 17, 2) := by decide +kernel
theorem dX14_job_464 : decode cX14_job 464 = .ok (.if_icmp .ne 11, 3) := by decide +kernel
theorem dX14_job_467 : decode cX14_job 467 = .ok (.lload 15, 2) := by decide +kernel
theorem dX14_job_469 : decode cX14_job 469 = .ok (.lload 13, 2) := by decide +kernel
theorem dX14_job_471 : decode cX14_job 471 = .ok (.ladd, 1) := by decide +kernel
theorem dX14_job_472 : decode cX14_job 472 = .ok (.goto 23, 3) := by decide +kernel
theorem dX14_job_475 : decode cX14_job 475 = .ok (.iload 10, 2) := by decide +kernel
theorem dX14_job_477 : decode cX14_job 477 = .ok (.bipush 18, 2) := by decide +kernel
theorem dX14_job_479 : decode cX14_job 479 = .ok (.if_icmp .ne 11, 3) := by decide +kernel
theorem dX14_job_482 : decode cX14_job 482 = .ok (.lload 15, 2) := by decide +kernel
theorem dX14_job_484 : decode cX14_job 484 = .ok (.lload 13, 2) := by decide +kernel
theorem dX14_job_486 : decode cX14_job 486 = .ok (.lsub, 1) := by decide +kernel
theorem dX14_job_487 : decode cX14_job 487 = .ok (.goto 8, 3) := by decide +kernel
theorem dX14_job_490 : decode cX14_job 490 = .ok (.lload 15, 2) := by decide +kernel
theorem dX14_job_492 : decode cX14_job 492 = .ok (.lload 13, 2) := by decide +kernel
theorem dX14_job_494 : decode cX14_job 494 = .ok (.lmul, 1) := by decide +kernel
theorem dX14_job_495 : decode cX14_job 495 = .ok (.lastore, 1) := by decide +kernel
theorem dX14_job_496 : decode cX14_job 496 = .ok (.goto 86, 3) := by decide +kernel
theorem dX14_job_499 : decode cX14_job 499 = .ok (.iinc 5 (-1), 3) := by decide +kernel
theorem dX14_job_502 : decode cX14_job 502 = .ok (.lload 13, 2) := by decide +kernel
theorem dX14_job_504 : decode cX14_job 504 = .ok (.lconst 0, 1) := by decide +kernel
theorem dX14_job_505 : decode cX14_job 505 = .ok (.lcmp, 1) := by decide +kernel
theorem dX14_job_506 : decode cX14_job 506 = .ok (.ifCond .ne 22, 3) := by decide +kernel
theorem dX14_job_509 : decode cX14_job 509 = .ok (.aload_n 0, 1) := by decide +kernel
theorem dX14_job_510 : decode cX14_job 510 = .ok (.getfield 118, 3) := by decide +kernel
theorem dX14_job_513 : decode cX14_job 513 = .ok (.sipush 400, 3) := by decide +kernel
theorem dX14_job_516 : decode cX14_job 516 = .ok (.aload_n 0, 1) := by decide +kernel
theorem dX14_job_517 : decode cX14_job 517 = .ok (.getfield 127, 3) := by decide +kernel
theorem dX14_job_520 : decode cX14_job 520 = .ok (.imul, 1) := by decide +kernel
theorem dX14_job_521 : decode cX14_job 521 = .ok (.iload 9, 2) := by decide +kernel
theorem dX14_job_523 : decode cX14_job 523 = .ok (.iadd, 1) := by decide +kernel
theorem dX14_job_524 : decode cX14_job 524 = .ok (.iaload, 1) := by decide +kernel
theorem dX14_job_525 : decode cX14_job 525 = .ok (.goto 5, 3) := by decide +kernel
theorem dX14_job_528 : decode cX14_job 528 = .ok (.iload 8, 2) := by decide +kernel
theorem dX14_job_530 : decode cX14_job 530 = .ok (.istore 8, 2) := by decide +kernel
theorem dX14_job_532 : decode cX14_job 532 = .ok (.goto 50, 3) := by decide +kernel
theorem dX14_job_535 : decode cX14_job 535 = .ok (.aload_n 0, 1) := by decide +kernel
theorem dX14_job_536 : decode cX14_job 536 = .ok (.getfield 453, 3) := by decide +kernel
theorem dX14_job_539 : decode cX14_job 539 = .ok (.bipush 64, 2) := by decide +kernel
theorem dX14_job_541 : decode cX14_job 541 = .ok (.if_icmp .ne 6, 3) := by decide +kernel
theorem dX14_job_544 : decode cX14_job 544 = .ok (.bipush (-4), 2) := by decide +kernel
theorem dX14_job_546 : decode cX14_job 546 = .ok (.ireturn, 1) := by decide +kernel
theorem dX14_job_547 : decode cX14_job 547 = .ok (.aload_n 0, 1) := by decide +kernel
theorem dX14_job_548 : decode cX14_job 548 = .ok (.getfield 158, 3) := by decide +kernel
theorem dX14_job_551 : decode cX14_job 551 = .ok (.aload_n 0, 1) := by decide +kernel
theorem dX14_job_552 : decode cX14_job 552 = .ok (.getfield 453, 3) := by decide +kernel
theorem dX14_job_555 : decode cX14_job 555 = .ok (.lload 13, 2) := by decide +kernel
theorem dX14_job_557 : decode cX14_job 557 = .ok (.ldc2_w 423, 3) := by decide +kernel
theorem dX14_job_560 : decode cX14_job 560 = .ok (.land, 1) := by decide +kernel
theorem dX14_job_561 : decode cX14_job 561 = .ok (.l2i, 1) := by decide +kernel
theorem dX14_job_562 : decode cX14_job 562 = .ok (.iastore, 1) := by decide +kernel
theorem dX14_job_563 : decode cX14_job 563 = .ok (.aload_n 0, 1) := by decide +kernel
theorem dX14_job_564 : decode cX14_job 564 = .ok (.dup, 1) := by decide +kernel
theorem dX14_job_565 : decode cX14_job 565 = .ok (.getfield 453, 3) := by decide +kernel
theorem dX14_job_568 : decode cX14_job 568 = .ok (.iconst 1, 1) := by decide +kernel
theorem dX14_job_569 : decode cX14_job 569 = .ok (.iadd, 1) := by decide +kernel
theorem dX14_job_570 : decode cX14_job 570 = .ok (.putfield 453, 3) := by decide +kernel
theorem dX14_job_573 : decode cX14_job 573 = .ok (.iinc 5 (-1), 3) := by decide +kernel
theorem dX14_job_576 : decode cX14_job 576 = .ok (.goto 6, 3) := by decide +kernel
theorem dX14_job_579 : decode cX14_job 579 = .ok (.iinc 5 (-1), 3) := by decide +kernel
theorem dX14_job_582 : decode cX14_job 582 = .ok (.goto (-514), 3) := by decide +kernel
theorem dX14_job_585 : decode cX14_job 585 = .ok (.iconst 1, 1) := by decide +kernel
theorem dX14_job_586 : decode cX14_job 586 = .ok (.ireturn, 1) := by decide +kernel
theorem dX14_isNamed_0 : decode cX14_isNamed 0 = .ok (.iload_n 1, 1) := by decide +kernel
theorem dX14_isNamed_1 : decode cX14_isNamed 1 = .ok (.ifCond .eq 7, 3) := by decide +kernel
theorem dX14_isNamed_4 : decode cX14_isNamed 4 = .ok (.iload_n 2, 1) := by decide +kernel
theorem dX14_isNamed_5 : decode cX14_isNamed 5 = .ok (.ifCond .ne 14, 3) := by decide +kernel
theorem dX14_isNamed_8 : decode cX14_isNamed 8 = .ok (.iload_n 1, 1) := by decide +kernel
theorem dX14_isNamed_9 : decode cX14_isNamed 9 = .ok (.iload_n 2, 1) := by decide +kernel
theorem dX14_isNamed_10 : decode cX14_isNamed 10 = .ok (.if_icmp .ne 7, 3) := by decide +kernel
theorem dX14_isNamed_13 : decode cX14_isNamed 13 = .ok (.iconst 1, 1) := by decide +kernel
theorem dX14_isNamed_14 : decode cX14_isNamed 14 = .ok (.goto 4, 3) := by decide +kernel
theorem dX14_isNamed_17 : decode cX14_isNamed 17 = .ok (.iconst 0, 1) := by decide +kernel
theorem dX14_isNamed_18 : decode cX14_isNamed 18 = .ok (.ireturn, 1) := by decide +kernel
theorem dX14_isNamed_19 : decode cX14_isNamed 19 = .ok (.aload_n 0, 1) := by decide +kernel
theorem dX14_isNamed_20 : decode cX14_isNamed 20 = .ok (.getfield 31, 3) := by decide +kernel
theorem dX14_isNamed_23 : decode cX14_isNamed 23 = .ok (.sipush 1001, 3) := by decide +kernel
theorem dX14_isNamed_26 : decode cX14_isNamed 26 = .ok (.aload_n 0, 1) := by decide +kernel
theorem dX14_isNamed_27 : decode cX14_isNamed 27 = .ok (.getfield 127, 3) := by decide +kernel
theorem dX14_isNamed_30 : decode cX14_isNamed 30 = .ok (.imul, 1) := by decide +kernel
theorem dX14_isNamed_31 : decode cX14_isNamed 31 = .ok (.iload_n 1, 1) := by decide +kernel
theorem dX14_isNamed_32 : decode cX14_isNamed 32 = .ok (.iadd, 1) := by decide +kernel
theorem dX14_isNamed_33 : decode cX14_isNamed 33 = .ok (.iaload, 1) := by decide +kernel
theorem dX14_isNamed_34 : decode cX14_isNamed 34 = .ok (.aload_n 0, 1) := by decide +kernel
theorem dX14_isNamed_35 : decode cX14_isNamed 35 = .ok (.getfield 31, 3) := by decide +kernel
theorem dX14_isNamed_38 : decode cX14_isNamed 38 = .ok (.sipush 1001, 3) := by decide +kernel
theorem dX14_isNamed_41 : decode cX14_isNamed 41 = .ok (.aload_n 0, 1) := by decide +kernel
theorem dX14_isNamed_42 : decode cX14_isNamed 42 = .ok (.getfield 187, 3) := by decide +kernel
theorem dX14_isNamed_45 : decode cX14_isNamed 45 = .ok (.imul, 1) := by decide +kernel
theorem dX14_isNamed_46 : decode cX14_isNamed 46 = .ok (.iload_n 2, 1) := by decide +kernel
theorem dX14_isNamed_47 : decode cX14_isNamed 47 = .ok (.iadd, 1) := by decide +kernel
theorem dX14_isNamed_48 : decode cX14_isNamed 48 = .ok (.iaload, 1) := by decide +kernel
theorem dX14_isNamed_49 : decode cX14_isNamed 49 = .ok (.if_icmp .ne 7, 3) := by decide +kernel
theorem dX14_isNamed_52 : decode cX14_isNamed 52 = .ok (.iconst 1, 1) := by decide +kernel
theorem dX14_isNamed_53 : decode cX14_isNamed 53 = .ok (.goto 4, 3) := by decide +kernel
theorem dX14_isNamed_56 : decode cX14_isNamed 56 = .ok (.iconst 0, 1) := by decide +kernel
theorem dX14_isNamed_57 : decode cX14_isNamed 57 = .ok (.istore_n 3, 1) := by decide +kernel
theorem dX14_isNamed_58 : decode cX14_isNamed 58 = .ok (.iconst 0, 1) := by decide +kernel
theorem dX14_isNamed_59 : decode cX14_isNamed 59 = .ok (.istore 4, 2) := by decide +kernel
theorem dX14_isNamed_61 : decode cX14_isNamed 61 = .ok (.iload 4, 2) := by decide +kernel
theorem dX14_isNamed_63 : decode cX14_isNamed 63 = .ok (.aload_n 0, 1) := by decide +kernel
theorem dX14_isNamed_64 : decode cX14_isNamed 64 = .ok (.getfield 31, 3) := by decide +kernel
theorem dX14_isNamed_67 : decode cX14_isNamed 67 = .ok (.sipush 1001, 3) := by decide +kernel
theorem dX14_isNamed_70 : decode cX14_isNamed 70 = .ok (.aload_n 0, 1) := by decide +kernel
theorem dX14_isNamed_71 : decode cX14_isNamed 71 = .ok (.getfield 127, 3) := by decide +kernel
theorem dX14_isNamed_74 : decode cX14_isNamed 74 = .ok (.imul, 1) := by decide +kernel
theorem dX14_isNamed_75 : decode cX14_isNamed 75 = .ok (.iload_n 1, 1) := by decide +kernel
theorem dX14_isNamed_76 : decode cX14_isNamed 76 = .ok (.iadd, 1) := by decide +kernel
theorem dX14_isNamed_77 : decode cX14_isNamed 77 = .ok (.iaload, 1) := by decide +kernel
theorem dX14_isNamed_78 : decode cX14_isNamed 78 = .ok (.if_icmp .ge 64, 3) := by decide +kernel
theorem dX14_isNamed_81 : decode cX14_isNamed 81 = .ok (.iload_n 3, 1) := by decide +kernel
theorem dX14_isNamed_82 : decode cX14_isNamed 82 = .ok (.ifCond .eq 60, 3) := by decide +kernel
theorem dX14_isNamed_85 : decode cX14_isNamed 85 = .ok (.aload_n 0, 1) := by decide +kernel
theorem dX14_isNamed_86 : decode cX14_isNamed 86 = .ok (.getfield 34, 3) := by decide +kernel
theorem dX14_isNamed_89 : decode cX14_isNamed 89 = .ok (.sipush 12012, 3) := by decide +kernel
theorem dX14_isNamed_92 : decode cX14_isNamed 92 = .ok (.aload_n 0, 1) := by decide +kernel
theorem dX14_isNamed_93 : decode cX14_isNamed 93 = .ok (.getfield 127, 3) := by decide +kernel
theorem dX14_isNamed_96 : decode cX14_isNamed 96 = .ok (.imul, 1) := by decide +kernel
theorem dX14_isNamed_97 : decode cX14_isNamed 97 = .ok (.bipush 12, 2) := by decide +kernel
theorem dX14_isNamed_99 : decode cX14_isNamed 99 = .ok (.iload_n 1, 1) := by decide +kernel
theorem dX14_isNamed_100 : decode cX14_isNamed 100 = .ok (.imul, 1) := by decide +kernel
theorem dX14_isNamed_101 : decode cX14_isNamed 101 = .ok (.iadd, 1) := by decide +kernel
theorem dX14_isNamed_102 : decode cX14_isNamed 102 = .ok (.iload 4, 2) := by decide +kernel
theorem dX14_isNamed_104 : decode cX14_isNamed 104 = .ok (.iadd, 1) := by decide +kernel
theorem dX14_isNamed_105 : decode cX14_isNamed 105 = .ok (.iaload, 1) := by decide +kernel
theorem dX14_isNamed_106 : decode cX14_isNamed 106 = .ok (.aload_n 0, 1) := by decide +kernel
theorem dX14_isNamed_107 : decode cX14_isNamed 107 = .ok (.getfield 34, 3) := by decide +kernel
theorem dX14_isNamed_110 : decode cX14_isNamed 110 = .ok (.sipush 12012, 3) := by decide +kernel
theorem dX14_isNamed_113 : decode cX14_isNamed 113 = .ok (.aload_n 0, 1) := by decide +kernel
theorem dX14_isNamed_114 : decode cX14_isNamed 114 = .ok (.getfield 187, 3) := by decide +kernel
theorem dX14_isNamed_117 : decode cX14_isNamed 117 = .ok (.imul, 1) := by decide +kernel
theorem dX14_isNamed_118 : decode cX14_isNamed 118 = .ok (.bipush 12, 2) := by decide +kernel
theorem dX14_isNamed_120 : decode cX14_isNamed 120 = .ok (.iload_n 2, 1) := by decide +kernel
theorem dX14_isNamed_121 : decode cX14_isNamed 121 = .ok (.imul, 1) := by decide +kernel
theorem dX14_isNamed_122 : decode cX14_isNamed 122 = .ok (.iadd, 1) := by decide +kernel
theorem dX14_isNamed_123 : decode cX14_isNamed 123 = .ok (.iload 4, 2) := by decide +kernel
theorem dX14_isNamed_125 : decode cX14_isNamed 125 = .ok (.iadd, 1) := by decide +kernel
theorem dX14_isNamed_126 : decode cX14_isNamed 126 = .ok (.iaload, 1) := by decide +kernel
theorem dX14_isNamed_127 : decode cX14_isNamed 127 = .ok (.if_icmp .ne 7, 3) := by decide +kernel
theorem dX14_isNamed_130 : decode cX14_isNamed 130 = .ok (.iconst 1, 1) := by decide +kernel
theorem dX14_isNamed_131 : decode cX14_isNamed 131 = .ok (.goto 4, 3) := by decide +kernel
theorem dX14_isNamed_134 : decode cX14_isNamed 134 = .ok (.iconst 0, 1) := by decide +kernel
theorem dX14_isNamed_135 : decode cX14_isNamed 135 = .ok (.istore_n 3, 1) := by decide +kernel
theorem dX14_isNamed_136 : decode cX14_isNamed 136 = .ok (.iinc 4 1, 3) := by decide +kernel
theorem dX14_isNamed_139 : decode cX14_isNamed 139 = .ok (.goto (-78), 3) := by decide +kernel
theorem dX14_isNamed_142 : decode cX14_isNamed 142 = .ok (.iload_n 3, 1) := by decide +kernel
theorem dX14_isNamed_143 : decode cX14_isNamed 143 = .ok (.ireturn, 1) := by decide +kernel
theorem dX14_isCodingLike_0 : decode cX14_isCodingLike 0 = .ok (.aload_n 0, 1) := by decide +kernel
theorem dX14_isCodingLike_1 : decode cX14_isCodingLike 1 = .ok (.getfield 40, 3) := by decide +kernel
theorem dX14_isCodingLike_4 : decode cX14_isCodingLike 4 = .ok (.bipush 12, 2) := by decide +kernel
theorem dX14_isCodingLike_6 : decode cX14_isCodingLike 6 = .ok (.aload_n 0, 1) := by decide +kernel
theorem dX14_isCodingLike_7 : decode cX14_isCodingLike 7 = .ok (.getfield 127, 3) := by decide +kernel
theorem dX14_isCodingLike_10 : decode cX14_isCodingLike 10 = .ok (.imul, 1) := by decide +kernel
theorem dX14_isCodingLike_11 : decode cX14_isCodingLike 11 = .ok (.iload_n 1, 1) := by decide +kernel
theorem dX14_isCodingLike_12 : decode cX14_isCodingLike 12 = .ok (.iadd, 1) := by decide +kernel
theorem dX14_isCodingLike_13 : decode cX14_isCodingLike 13 = .ok (.iaload, 1) := by decide +kernel
theorem dX14_isCodingLike_14 : decode cX14_isCodingLike 14 = .ok (.aload_n 0, 1) := by decide +kernel
theorem dX14_isCodingLike_15 : decode cX14_isCodingLike 15 = .ok (.getfield 40, 3) := by decide +kernel
theorem dX14_isCodingLike_18 : decode cX14_isCodingLike 18 = .ok (.bipush 12, 2) := by decide +kernel
theorem dX14_isCodingLike_20 : decode cX14_isCodingLike 20 = .ok (.aload_n 0, 1) := by decide +kernel
theorem dX14_isCodingLike_21 : decode cX14_isCodingLike 21 = .ok (.getfield 187, 3) := by decide +kernel
theorem dX14_isCodingLike_24 : decode cX14_isCodingLike 24 = .ok (.imul, 1) := by decide +kernel
theorem dX14_isCodingLike_25 : decode cX14_isCodingLike 25 = .ok (.iload_n 2, 1) := by decide +kernel
theorem dX14_isCodingLike_26 : decode cX14_isCodingLike 26 = .ok (.iadd, 1) := by decide +kernel
theorem dX14_isCodingLike_27 : decode cX14_isCodingLike 27 = .ok (.iaload, 1) := by decide +kernel
theorem dX14_isCodingLike_28 : decode cX14_isCodingLike 28 = .ok (.if_icmp .ne 162, 3) := by decide +kernel
theorem dX14_isCodingLike_31 : decode cX14_isCodingLike 31 = .ok (.aload_n 0, 1) := by decide +kernel
theorem dX14_isCodingLike_32 : decode cX14_isCodingLike 32 = .ok (.getfield 43, 3) := by decide +kernel
theorem dX14_isCodingLike_35 : decode cX14_isCodingLike 35 = .ok (.bipush 12, 2) := by decide +kernel
theorem dX14_isCodingLike_37 : decode cX14_isCodingLike 37 = .ok (.aload_n 0, 1) := by decide +kernel
theorem dX14_isCodingLike_38 : decode cX14_isCodingLike 38 = .ok (.getfield 127, 3) := by decide +kernel
theorem dX14_isCodingLike_41 : decode cX14_isCodingLike 41 = .ok (.imul, 1) := by decide +kernel
theorem dX14_isCodingLike_42 : decode cX14_isCodingLike 42 = .ok (.iload_n 1, 1) := by decide +kernel
theorem dX14_isCodingLike_43 : decode cX14_isCodingLike 43 = .ok (.iadd, 1) := by decide +kernel
theorem dX14_isCodingLike_44 : decode cX14_isCodingLike 44 = .ok (.iaload, 1) := by decide +kernel
theorem dX14_isCodingLike_45 : decode cX14_isCodingLike 45 = .ok (.aload_n 0, 1) := by decide +kernel
theorem dX14_isCodingLike_46 : decode cX14_isCodingLike 46 = .ok (.getfield 43, 3) := by decide +kernel
theorem dX14_isCodingLike_49 : decode cX14_isCodingLike 49 = .ok (.bipush 12, 2) := by decide +kernel
theorem dX14_isCodingLike_51 : decode cX14_isCodingLike 51 = .ok (.aload_n 0, 1) := by decide +kernel
theorem dX14_isCodingLike_52 : decode cX14_isCodingLike 52 = .ok (.getfield 187, 3) := by decide +kernel
theorem dX14_isCodingLike_55 : decode cX14_isCodingLike 55 = .ok (.imul, 1) := by decide +kernel
theorem dX14_isCodingLike_56 : decode cX14_isCodingLike 56 = .ok (.iload_n 2, 1) := by decide +kernel
theorem dX14_isCodingLike_57 : decode cX14_isCodingLike 57 = .ok (.iadd, 1) := by decide +kernel
theorem dX14_isCodingLike_58 : decode cX14_isCodingLike 58 = .ok (.iaload, 1) := by decide +kernel
theorem dX14_isCodingLike_59 : decode cX14_isCodingLike 59 = .ok (.if_icmp .ne 131, 3) := by decide +kernel
theorem dX14_isCodingLike_62 : decode cX14_isCodingLike 62 = .ok (.aload_n 0, 1) := by decide +kernel
theorem dX14_isCodingLike_63 : decode cX14_isCodingLike 63 = .ok (.getfield 46, 3) := by decide +kernel
theorem dX14_isCodingLike_66 : decode cX14_isCodingLike 66 = .ok (.bipush 12, 2) := by decide +kernel
theorem dX14_isCodingLike_68 : decode cX14_isCodingLike 68 = .ok (.aload_n 0, 1) := by decide +kernel
theorem dX14_isCodingLike_69 : decode cX14_isCodingLike 69 = .ok (.getfield 127, 3) := by decide +kernel
theorem dX14_isCodingLike_72 : decode cX14_isCodingLike 72 = .ok (.imul, 1) := by decide +kernel
theorem dX14_isCodingLike_73 : decode cX14_isCodingLike 73 = .ok (.iload_n 1, 1) := by decide +kernel
theorem dX14_isCodingLike_74 : decode cX14_isCodingLike 74 = .ok (.iadd, 1) := by decide +kernel
theorem dX14_isCodingLike_75 : decode cX14_isCodingLike 75 = .ok (.iaload, 1) := by decide +kernel
theorem dX14_isCodingLike_76 : decode cX14_isCodingLike 76 = .ok (.aload_n 0, 1) := by decide +kernel
theorem dX14_isCodingLike_77 : decode cX14_isCodingLike 77 = .ok (.getfield 46, 3) := by decide +kernel
theorem dX14_isCodingLike_80 : decode cX14_isCodingLike 80 = .ok (.bipush 12, 2) := by decide +kernel
theorem dX14_isCodingLike_82 : decode cX14_isCodingLike 82 = .ok (.aload_n 0, 1) := by decide +kernel
theorem dX14_isCodingLike_83 : decode cX14_isCodingLike 83 = .ok (.getfield 187, 3) := by decide +kernel
theorem dX14_isCodingLike_86 : decode cX14_isCodingLike 86 = .ok (.imul, 1) := by decide +kernel
theorem dX14_isCodingLike_87 : decode cX14_isCodingLike 87 = .ok (.iload_n 2, 1) := by decide +kernel
theorem dX14_isCodingLike_88 : decode cX14_isCodingLike 88 = .ok (.iadd, 1) := by decide +kernel
theorem dX14_isCodingLike_89 : decode cX14_isCodingLike 89 = .ok (.iaload, 1) := by decide +kernel
theorem dX14_isCodingLike_90 : decode cX14_isCodingLike 90 = .ok (.if_icmp .ne 100, 3) := by decide +kernel
theorem dX14_isCodingLike_93 : decode cX14_isCodingLike 93 = .ok (.aload_n 0, 1) := by decide +kernel
theorem dX14_isCodingLike_94 : decode cX14_isCodingLike 94 = .ok (.getfield 49, 3) := by decide +kernel
theorem dX14_isCodingLike_97 : decode cX14_isCodingLike 97 = .ok (.bipush 12, 2) := by decide +kernel
theorem dX14_isCodingLike_99 : decode cX14_isCodingLike 99 = .ok (.aload_n 0, 1) := by decide +kernel
theorem dX14_isCodingLike_100 : decode cX14_isCodingLike 100 = .ok (.getfield 127, 3) := by decide +kernel
theorem dX14_isCodingLike_103 : decode cX14_isCodingLike 103 = .ok (.imul, 1) := by decide +kernel
theorem dX14_isCodingLike_104 : decode cX14_isCodingLike 104 = .ok (.iload_n 1, 1) := by decide +kernel
theorem dX14_isCodingLike_105 : decode cX14_isCodingLike 105 = .ok (.iadd, 1) := by decide +kernel
theorem dX14_isCodingLike_106 : decode cX14_isCodingLike 106 = .ok (.iaload, 1) := by decide +kernel
theorem dX14_isCodingLike_107 : decode cX14_isCodingLike 107 = .ok (.aload_n 0, 1) := by decide +kernel
theorem dX14_isCodingLike_108 : decode cX14_isCodingLike 108 = .ok (.getfield 49, 3) := by decide +kernel
theorem dX14_isCodingLike_111 : decode cX14_isCodingLike 111 = .ok (.bipush 12, 2) := by decide +kernel
theorem dX14_isCodingLike_113 : decode cX14_isCodingLike 113 = .ok (.aload_n 0, 1) := by decide +kernel
theorem dX14_isCodingLike_114 : decode cX14_isCodingLike 114 = .ok (.getfield 187, 3) := by decide +kernel
theorem dX14_isCodingLike_117 : decode cX14_isCodingLike 117 = .ok (.imul, 1) := by decide +kernel
theorem dX14_isCodingLike_118 : decode cX14_isCodingLike 118 = .ok (.iload_n 2, 1) := by decide +kernel
theorem dX14_isCodingLike_119 : decode cX14_isCodingLike 119 = .ok (.iadd, 1) := by decide +kernel
theorem dX14_isCodingLike_120 : decode cX14_isCodingLike 120 = .ok (.iaload, 1) := by decide +kernel
theorem dX14_isCodingLike_121 : decode cX14_isCodingLike 121 = .ok (.if_icmp .ne 69, 3) := by decide +kernel
theorem dX14_isCodingLike_124 : decode cX14_isCodingLike 124 = .ok (.aload_n 0, 1) := by decide +kernel
theorem dX14_isCodingLike_125 : decode cX14_isCodingLike 125 = .ok (.getfield 52, 3) := by decide +kernel
theorem dX14_isCodingLike_128 : decode cX14_isCodingLike 128 = .ok (.bipush 12, 2) := by decide +kernel
theorem dX14_isCodingLike_130 : decode cX14_isCodingLike 130 = .ok (.aload_n 0, 1) := by decide +kernel
theorem dX14_isCodingLike_131 : decode cX14_isCodingLike 131 = .ok (.getfield 127, 3) := by decide +kernel
theorem dX14_isCodingLike_134 : decode cX14_isCodingLike 134 = .ok (.imul, 1) := by decide +kernel
theorem dX14_isCodingLike_135 : decode cX14_isCodingLike 135 = .ok (.iload_n 1, 1) := by decide +kernel
theorem dX14_isCodingLike_136 : decode cX14_isCodingLike 136 = .ok (.iadd, 1) := by decide +kernel
theorem dX14_isCodingLike_137 : decode cX14_isCodingLike 137 = .ok (.iaload, 1) := by decide +kernel
theorem dX14_isCodingLike_138 : decode cX14_isCodingLike 138 = .ok (.aload_n 0, 1) := by decide +kernel
theorem dX14_isCodingLike_139 : decode cX14_isCodingLike 139 = .ok (.getfield 52, 3) := by decide +kernel
theorem dX14_isCodingLike_142 : decode cX14_isCodingLike 142 = .ok (.bipush 12, 2) := by decide +kernel
theorem dX14_isCodingLike_144 : decode cX14_isCodingLike 144 = .ok (.aload_n 0, 1) := by decide +kernel
theorem dX14_isCodingLike_145 : decode cX14_isCodingLike 145 = .ok (.getfield 187, 3) := by decide +kernel
theorem dX14_isCodingLike_148 : decode cX14_isCodingLike 148 = .ok (.imul, 1) := by decide +kernel
theorem dX14_isCodingLike_149 : decode cX14_isCodingLike 149 = .ok (.iload_n 2, 1) := by decide +kernel
theorem dX14_isCodingLike_150 : decode cX14_isCodingLike 150 = .ok (.iadd, 1) := by decide +kernel
theorem dX14_isCodingLike_151 : decode cX14_isCodingLike 151 = .ok (.iaload, 1) := by decide +kernel
theorem dX14_isCodingLike_152 : decode cX14_isCodingLike 152 = .ok (.if_icmp .ne 38, 3) := by decide +kernel
theorem dX14_isCodingLike_155 : decode cX14_isCodingLike 155 = .ok (.aload_n 0, 1) := by decide +kernel
theorem dX14_isCodingLike_156 : decode cX14_isCodingLike 156 = .ok (.getfield 55, 3) := by decide +kernel
theorem dX14_isCodingLike_159 : decode cX14_isCodingLike 159 = .ok (.bipush 12, 2) := by decide +kernel
theorem dX14_isCodingLike_161 : decode cX14_isCodingLike 161 = .ok (.aload_n 0, 1) := by decide +kernel
theorem dX14_isCodingLike_162 : decode cX14_isCodingLike 162 = .ok (.getfield 127, 3) := by decide +kernel
theorem dX14_isCodingLike_165 : decode cX14_isCodingLike 165 = .ok (.imul, 1) := by decide +kernel
theorem dX14_isCodingLike_166 : decode cX14_isCodingLike 166 = .ok (.iload_n 1, 1) := by decide +kernel
theorem dX14_isCodingLike_167 : decode cX14_isCodingLike 167 = .ok (.iadd, 1) := by decide +kernel
theorem dX14_isCodingLike_168 : decode cX14_isCodingLike 168 = .ok (.iaload, 1) := by decide +kernel
theorem dX14_isCodingLike_169 : decode cX14_isCodingLike 169 = .ok (.aload_n 0, 1) := by decide +kernel
theorem dX14_isCodingLike_170 : decode cX14_isCodingLike 170 = .ok (.getfield 55, 3) := by decide +kernel
theorem dX14_isCodingLike_173 : decode cX14_isCodingLike 173 = .ok (.bipush 12, 2) := by decide +kernel
theorem dX14_isCodingLike_175 : decode cX14_isCodingLike 175 = .ok (.aload_n 0, 1) := by decide +kernel
theorem dX14_isCodingLike_176 : decode cX14_isCodingLike 176 = .ok (.getfield 187, 3) := by decide +kernel
theorem dX14_isCodingLike_179 : decode cX14_isCodingLike 179 = .ok (.imul, 1) := by decide +kernel
theorem dX14_isCodingLike_180 : decode cX14_isCodingLike 180 = .ok (.iload_n 2, 1) := by decide +kernel
theorem dX14_isCodingLike_181 : decode cX14_isCodingLike 181 = .ok (.iadd, 1) := by decide +kernel
theorem dX14_isCodingLike_182 : decode cX14_isCodingLike 182 = .ok (.iaload, 1) := by decide +kernel
theorem dX14_isCodingLike_183 : decode cX14_isCodingLike 183 = .ok (.if_icmp .ne 7, 3) := by decide +kernel
theorem dX14_isCodingLike_186 : decode cX14_isCodingLike 186 = .ok (.iconst 1, 1) := by decide +kernel
theorem dX14_isCodingLike_187 : decode cX14_isCodingLike 187 = .ok (.goto 4, 3) := by decide +kernel
theorem dX14_isCodingLike_190 : decode cX14_isCodingLike 190 = .ok (.iconst 0, 1) := by decide +kernel
theorem dX14_isCodingLike_191 : decode cX14_isCodingLike 191 = .ok (.istore_n 3, 1) := by decide +kernel
theorem dX14_isCodingLike_192 : decode cX14_isCodingLike 192 = .ok (.iconst 0, 1) := by decide +kernel
theorem dX14_isCodingLike_193 : decode cX14_isCodingLike 193 = .ok (.istore 4, 2) := by decide +kernel
theorem dX14_isCodingLike_195 : decode cX14_isCodingLike 195 = .ok (.iload 4, 2) := by decide +kernel
theorem dX14_isCodingLike_197 : decode cX14_isCodingLike 197 = .ok (.aload_n 0, 1) := by decide +kernel
theorem dX14_isCodingLike_198 : decode cX14_isCodingLike 198 = .ok (.getfield 55, 3) := by decide +kernel
theorem dX14_isCodingLike_201 : decode cX14_isCodingLike 201 = .ok (.bipush 12, 2) := by decide +kernel
theorem dX14_isCodingLike_203 : decode cX14_isCodingLike 203 = .ok (.aload_n 0, 1) := by decide +kernel
theorem dX14_isCodingLike_204 : decode cX14_isCodingLike 204 = .ok (.getfield 127, 3) := by decide +kernel
theorem dX14_isCodingLike_207 : decode cX14_isCodingLike 207 = .ok (.imul, 1) := by decide +kernel
theorem dX14_isCodingLike_208 : decode cX14_isCodingLike 208 = .ok (.iload_n 1, 1) := by decide +kernel
theorem dX14_isCodingLike_209 : decode cX14_isCodingLike 209 = .ok (.iadd, 1) := by decide +kernel
theorem dX14_isCodingLike_210 : decode cX14_isCodingLike 210 = .ok (.iaload, 1) := by decide +kernel
theorem dX14_isCodingLike_211 : decode cX14_isCodingLike 211 = .ok (.if_icmp .ge 109, 3) := by decide +kernel
theorem dX14_isCodingLike_214 : decode cX14_isCodingLike 214 = .ok (.iload_n 3, 1) := by decide +kernel
theorem dX14_isCodingLike_215 : decode cX14_isCodingLike 215 = .ok (.ifCond .eq 105, 3) := by decide +kernel
theorem dX14_isCodingLike_218 : decode cX14_isCodingLike 218 = .ok (.aload_n 0, 1) := by decide +kernel
theorem dX14_isCodingLike_219 : decode cX14_isCodingLike 219 = .ok (.getfield 58, 3) := by decide +kernel
theorem dX14_isCodingLike_222 : decode cX14_isCodingLike 222 = .ok (.bipush 96, 2) := by decide +kernel
theorem dX14_isCodingLike_224 : decode cX14_isCodingLike 224 = .ok (.aload_n 0, 1) := by decide +kernel
theorem dX14_isCodingLike_225 : decode cX14_isCodingLike 225 = .ok (.getfield 127, 3) := by decide +kernel
theorem dX14_isCodingLike_228 : decode cX14_isCodingLike 228 = .ok (.imul, 1) := by decide +kernel
theorem dX14_isCodingLike_229 : decode cX14_isCodingLike 229 = .ok (.bipush 8, 2) := by decide +kernel
theorem dX14_isCodingLike_231 : decode cX14_isCodingLike 231 = .ok (.iload_n 1, 1) := by decide +kernel
theorem dX14_isCodingLike_232 : decode cX14_isCodingLike 232 = .ok (.imul, 1) := by decide +kernel
theorem dX14_isCodingLike_233 : decode cX14_isCodingLike 233 = .ok (.iadd, 1) := by decide +kernel
theorem dX14_isCodingLike_234 : decode cX14_isCodingLike 234 = .ok (.iload 4, 2) := by decide +kernel
theorem dX14_isCodingLike_236 : decode cX14_isCodingLike 236 = .ok (.iadd, 1) := by decide +kernel
theorem dX14_isCodingLike_237 : decode cX14_isCodingLike 237 = .ok (.iaload, 1) := by decide +kernel
theorem dX14_isCodingLike_238 : decode cX14_isCodingLike 238 = .ok (.aload_n 0, 1) := by decide +kernel
theorem dX14_isCodingLike_239 : decode cX14_isCodingLike 239 = .ok (.getfield 58, 3) := by decide +kernel
theorem dX14_isCodingLike_242 : decode cX14_isCodingLike 242 = .ok (.bipush 96, 2) := by decide +kernel
theorem dX14_isCodingLike_244 : decode cX14_isCodingLike 244 = .ok (.aload_n 0, 1) := by decide +kernel
theorem dX14_isCodingLike_245 : decode cX14_isCodingLike 245 = .ok (.getfield 187, 3) := by decide +kernel
theorem dX14_isCodingLike_248 : decode cX14_isCodingLike 248 = .ok (.imul, 1) := by decide +kernel
theorem dX14_isCodingLike_249 : decode cX14_isCodingLike 249 = .ok (.bipush 8, 2) := by decide +kernel
theorem dX14_isCodingLike_251 : decode cX14_isCodingLike 251 = .ok (.iload_n 2, 1) := by decide +kernel
theorem dX14_isCodingLike_252 : decode cX14_isCodingLike 252 = .ok (.imul, 1) := by decide +kernel
theorem dX14_isCodingLike_253 : decode cX14_isCodingLike 253 = .ok (.iadd, 1) := by decide +kernel
theorem dX14_isCodingLike_254 : decode cX14_isCodingLike 254 = .ok (.iload 4, 2) := by decide +kernel
theorem dX14_isCodingLike_256 : decode cX14_isCodingLike 256 = .ok (.iadd, 1) := by decide +kernel
theorem dX14_isCodingLike_257 : decode cX14_isCodingLike 257 = .ok (.iaload, 1) := by decide +kernel
theorem dX14_isCodingLike_258 : decode cX14_isCodingLike 258 = .ok (.if_icmp .ne 54, 3) := by decide +kernel
theorem dX14_isCodingLike_261 : decode cX14_isCodingLike 261 = .ok (.aload_n 0, 1) := by decide +kernel
theorem dX14_isCodingLike_262 : decode cX14_isCodingLike 262 = .ok (.aload_n 0, 1) := by decide +kernel
theorem dX14_isCodingLike_263 : decode cX14_isCodingLike 263 = .ok (.getfield 61, 3) := by decide +kernel
theorem dX14_isCodingLike_266 : decode cX14_isCodingLike 266 = .ok (.bipush 96, 2) := by decide +kernel
theorem dX14_isCodingLike_268 : decode cX14_isCodingLike 268 = .ok (.aload_n 0, 1) := by decide +kernel
theorem dX14_isCodingLike_269 : decode cX14_isCodingLike 269 = .ok (.getfield 127, 3) := by decide +kernel
theorem dX14_isCodingLike_272 : decode cX14_isCodingLike 272 = .ok (.imul, 1) := by decide +kernel
theorem dX14_isCodingLike_273 : decode cX14_isCodingLike 273 = .ok (.bipush 8, 2) := by decide +kernel
theorem dX14_isCodingLike_275 : decode cX14_isCodingLike 275 = .ok (.iload_n 1, 1) := by decide +kernel
theorem dX14_isCodingLike_276 : decode cX14_isCodingLike 276 = .ok (.imul, 1) := by decide +kernel
theorem dX14_isCodingLike_277 : decode cX14_isCodingLike 277 = .ok (.iadd, 1) := by decide +kernel
theorem dX14_isCodingLike_278 : decode cX14_isCodingLike 278 = .ok (.iload 4, 2) := by decide +kernel
theorem dX14_isCodingLike_280 : decode cX14_isCodingLike 280 = .ok (.iadd, 1) := by decide +kernel
theorem dX14_isCodingLike_281 : decode cX14_isCodingLike 281 = .ok (.iaload, 1) := by decide +kernel
theorem dX14_isCodingLike_282 : decode cX14_isCodingLike 282 = .ok (.aload_n 0, 1) := by decide +kernel
theorem dX14_isCodingLike_283 : decode cX14_isCodingLike 283 = .ok (.getfield 61, 3) := by decide +kernel
theorem dX14_isCodingLike_286 : decode cX14_isCodingLike 286 = .ok (.bipush 96, 2) := by decide +kernel
theorem dX14_isCodingLike_288 : decode cX14_isCodingLike 288 = .ok (.aload_n 0, 1) := by decide +kernel
theorem dX14_isCodingLike_289 : decode cX14_isCodingLike 289 = .ok (.getfield 187, 3) := by decide +kernel
theorem dX14_isCodingLike_292 : decode cX14_isCodingLike 292 = .ok (.imul, 1) := by decide +kernel
theorem dX14_isCodingLike_293 : decode cX14_isCodingLike 293 = .ok (.bipush 8, 2) := by decide +kernel
theorem dX14_isCodingLike_295 : decode cX14_isCodingLike 295 = .ok (.iload_n 2, 1) := by decide +kernel
theorem dX14_isCodingLike_296 : decode cX14_isCodingLike 296 = .ok (.imul, 1) := by decide +kernel
theorem dX14_isCodingLike_297 : decode cX14_isCodingLike 297 = .ok (.iadd, 1) := by decide +kernel
theorem dX14_isCodingLike_298 : decode cX14_isCodingLike 298 = .ok (.iload 4, 2) := by decide +kernel
theorem dX14_isCodingLike_300 : decode cX14_isCodingLike 300 = .ok (.iadd, 1) := by decide +kernel
theorem dX14_isCodingLike_301 : decode cX14_isCodingLike 301 = .ok (.iaload, 1) := by decide +kernel
theorem dX14_isCodingLike_302 : decode cX14_isCodingLike 302 = .ok (.invokevirtual 462, 3) := by decide +kernel
theorem dX14_isCodingLike_305 : decode cX14_isCodingLike 305 = .ok (.ifCond .eq 7, 3) := by decide +kernel
theorem dX14_isCodingLike_308 : decode cX14_isCodingLike 308 = .ok (.iconst 1, 1) := by decide +kernel
theorem dX14_isCodingLike_309 : decode cX14_isCodingLike 309 = .ok (.goto 4, 3) := by decide +kernel
theorem dX14_isCodingLike_312 : decode cX14_isCodingLike 312 = .ok (.iconst 0, 1) := by decide +kernel
theorem dX14_isCodingLike_313 : decode cX14_isCodingLike 313 = .ok (.istore_n 3, 1) := by decide +kernel
theorem dX14_isCodingLike_314 : decode cX14_isCodingLike 314 = .ok (.iinc 4 1, 3) := by decide +kernel
theorem dX14_isCodingLike_317 : decode cX14_isCodingLike 317 = .ok (.goto (-122), 3) := by decide +kernel
theorem dX14_isCodingLike_320 : decode cX14_isCodingLike 320 = .ok (.iload_n 3, 1) := by decide +kernel
theorem dX14_isCodingLike_321 : decode cX14_isCodingLike 321 = .ok (.ireturn, 1) := by decide +kernel
theorem dX14_isLike_0 : decode cX14_isLike 0 = .ok (.aload_n 0, 1) := by decide +kernel
theorem dX14_isLike_1 : decode cX14_isLike 1 = .ok (.aload_n 0, 1) := by decide +kernel
theorem dX14_isLike_2 : decode cX14_isLike 2 = .ok (.getfield 70, 3) := by decide +kernel
theorem dX14_isLike_5 : decode cX14_isLike 5 = .ok (.bipush 16, 2) := by decide +kernel
theorem dX14_isLike_7 : decode cX14_isLike 7 = .ok (.aload_n 0, 1) := by decide +kernel
theorem dX14_isLike_8 : decode cX14_isLike 8 = .ok (.getfield 127, 3) := by decide +kernel
theorem dX14_isLike_11 : decode cX14_isLike 11 = .ok (.imul, 1) := by decide +kernel
theorem dX14_isLike_12 : decode cX14_isLike 12 = .ok (.iload_n 1, 1) := by decide +kernel
theorem dX14_isLike_13 : decode cX14_isLike 13 = .ok (.iadd, 1) := by decide +kernel
theorem dX14_isLike_14 : decode cX14_isLike 14 = .ok (.iaload, 1) := by decide +kernel
theorem dX14_isLike_15 : decode cX14_isLike 15 = .ok (.aload_n 0, 1) := by decide +kernel
theorem dX14_isLike_16 : decode cX14_isLike 16 = .ok (.getfield 70, 3) := by decide +kernel
theorem dX14_isLike_19 : decode cX14_isLike 19 = .ok (.bipush 16, 2) := by decide +kernel
theorem dX14_isLike_21 : decode cX14_isLike 21 = .ok (.aload_n 0, 1) := by decide +kernel
theorem dX14_isLike_22 : decode cX14_isLike 22 = .ok (.getfield 187, 3) := by decide +kernel
theorem dX14_isLike_25 : decode cX14_isLike 25 = .ok (.imul, 1) := by decide +kernel
theorem dX14_isLike_26 : decode cX14_isLike 26 = .ok (.iload_n 2, 1) := by decide +kernel
theorem dX14_isLike_27 : decode cX14_isLike 27 = .ok (.iadd, 1) := by decide +kernel
theorem dX14_isLike_28 : decode cX14_isLike 28 = .ok (.iaload, 1) := by decide +kernel
theorem dX14_isLike_29 : decode cX14_isLike 29 = .ok (.invokevirtual 462, 3) := by decide +kernel
theorem dX14_isLike_32 : decode cX14_isLike 32 = .ok (.ifCond .eq 130, 3) := by decide +kernel
theorem dX14_isLike_35 : decode cX14_isLike 35 = .ok (.aload_n 0, 1) := by decide +kernel
theorem dX14_isLike_36 : decode cX14_isLike 36 = .ok (.getfield 73, 3) := by decide +kernel
theorem dX14_isLike_39 : decode cX14_isLike 39 = .ok (.bipush 16, 2) := by decide +kernel
theorem dX14_isLike_41 : decode cX14_isLike 41 = .ok (.aload_n 0, 1) := by decide +kernel
theorem dX14_isLike_42 : decode cX14_isLike 42 = .ok (.getfield 127, 3) := by decide +kernel
theorem dX14_isLike_45 : decode cX14_isLike 45 = .ok (.imul, 1) := by decide +kernel
theorem dX14_isLike_46 : decode cX14_isLike 46 = .ok (.iload_n 1, 1) := by decide +kernel
theorem dX14_isLike_47 : decode cX14_isLike 47 = .ok (.iadd, 1) := by decide +kernel
theorem dX14_isLike_48 : decode cX14_isLike 48 = .ok (.iaload, 1) := by decide +kernel
theorem dX14_isLike_49 : decode cX14_isLike 49 = .ok (.aload_n 0, 1) := by decide +kernel
theorem dX14_isLike_50 : decode cX14_isLike 50 = .ok (.getfield 73, 3) := by decide +kernel
theorem dX14_isLike_53 : decode cX14_isLike 53 = .ok (.bipush 16, 2) := by decide +kernel
theorem dX14_isLike_55 : decode cX14_isLike 55 = .ok (.aload_n 0, 1) := by decide +kernel
theorem dX14_isLike_56 : decode cX14_isLike 56 = .ok (.getfield 187, 3) := by decide +kernel
theorem dX14_isLike_59 : decode cX14_isLike 59 = .ok (.imul, 1) := by decide +kernel
theorem dX14_isLike_60 : decode cX14_isLike 60 = .ok (.iload_n 2, 1) := by decide +kernel
theorem dX14_isLike_61 : decode cX14_isLike 61 = .ok (.iadd, 1) := by decide +kernel
theorem dX14_isLike_62 : decode cX14_isLike 62 = .ok (.iaload, 1) := by decide +kernel
theorem dX14_isLike_63 : decode cX14_isLike 63 = .ok (.if_icmp .ne 99, 3) := by decide +kernel
theorem dX14_isLike_66 : decode cX14_isLike 66 = .ok (.aload_n 0, 1) := by decide +kernel
theorem dX14_isLike_67 : decode cX14_isLike 67 = .ok (.aload_n 0, 1) := by decide +kernel
theorem dX14_isLike_68 : decode cX14_isLike 68 = .ok (.getfield 64, 3) := by decide +kernel
theorem dX14_isLike_71 : decode cX14_isLike 71 = .ok (.bipush 6, 2) := by decide +kernel
theorem dX14_isLike_73 : decode cX14_isLike 73 = .ok (.aload_n 0, 1) := by decide +kernel
theorem dX14_isLike_74 : decode cX14_isLike 74 = .ok (.getfield 127, 3) := by decide +kernel
theorem dX14_isLike_77 : decode cX14_isLike 77 = .ok (.imul, 1) := by decide +kernel
theorem dX14_isLike_78 : decode cX14_isLike 78 = .ok (.aload_n 0, 1) := by decide +kernel
theorem dX14_isLike_79 : decode cX14_isLike 79 = .ok (.getfield 76, 3) := by decide +kernel
theorem dX14_isLike_82 : decode cX14_isLike 82 = .ok (.bipush 16, 2) := by decide +kernel
theorem dX14_isLike_84 : decode cX14_isLike 84 = .ok (.aload_n 0, 1) := by decide +kernel
theorem dX14_isLike_85 : decode cX14_isLike 85 = .ok (.getfield 127, 3) := by decide +kernel
theorem dX14_isLike_88 : decode cX14_isLike 88 = .ok (.imul, 1) := by decide +kernel
theorem dX14_isLike_89 : decode cX14_isLike 89 = .ok (.iload_n 1, 1) := by decide +kernel
theorem dX14_isLike_90 : decode cX14_isLike 90 = .ok (.iadd, 1) := by decide +kernel
theorem dX14_isLike_91 : decode cX14_isLike 91 = .ok (.iaload, 1) := by decide +kernel
theorem dX14_isLike_92 : decode cX14_isLike 92 = .ok (.iadd, 1) := by decide +kernel
theorem dX14_isLike_93 : decode cX14_isLike 93 = .ok (.iaload, 1) := by decide +kernel
theorem dX14_isLike_94 : decode cX14_isLike 94 = .ok (.aload_n 0, 1) := by decide +kernel
theorem dX14_isLike_95 : decode cX14_isLike 95 = .ok (.getfield 64, 3) := by decide +kernel
theorem dX14_isLike_98 : decode cX14_isLike 98 = .ok (.bipush 6, 2) := by decide +kernel
theorem dX14_isLike_100 : decode cX14_isLike 100 = .ok (.aload_n 0, 1) := by decide +kernel
theorem dX14_isLike_101 : decode cX14_isLike 101 = .ok (.getfield 187, 3) := by decide +kernel
theorem dX14_isLike_104 : decode cX14_isLike 104 = .ok (.imul, 1) := by decide +kernel
theorem dX14_isLike_105 : decode cX14_isLike 105 = .ok (.aload_n 0, 1) := by decide +kernel
theorem dX14_isLike_106 : decode cX14_isLike 106 = .ok (.getfield 76, 3) := by decide +kernel
theorem dX14_isLike_109 : decode cX14_isLike 109 = .ok (.bipush 16, 2) := by decide +kernel
theorem dX14_isLike_111 : decode cX14_isLike 111 = .ok (.aload_n 0, 1) := by decide +kernel
theorem dX14_isLike_112 : decode cX14_isLike 112 = .ok (.getfield 187, 3) := by decide +kernel
theorem dX14_isLike_115 : decode cX14_isLike 115 = .ok (.imul, 1) := by decide +kernel
theorem dX14_isLike_116 : decode cX14_isLike 116 = .ok (.iload_n 2, 1) := by decide +kernel
theorem dX14_isLike_117 : decode cX14_isLike 117 = .ok (.iadd, 1) := by decide +kernel
theorem dX14_isLike_118 : decode cX14_isLike 118 = .ok (.iaload, 1) := by decide +kernel
theorem dX14_isLike_119 : decode cX14_isLike 119 = .ok (.iadd, 1) := by decide +kernel
theorem dX14_isLike_120 : decode cX14_isLike 120 = .ok (.iaload, 1) := by decide +kernel
theorem dX14_isLike_121 : decode cX14_isLike 121 = .ok (.invokevirtual 462, 3) := by decide +kernel
theorem dX14_isLike_124 : decode cX14_isLike 124 = .ok (.ifCond .eq 38, 3) := by decide +kernel
theorem dX14_isLike_127 : decode cX14_isLike 127 = .ok (.aload_n 0, 1) := by decide +kernel
theorem dX14_isLike_128 : decode cX14_isLike 128 = .ok (.getfield 79, 3) := by decide +kernel
theorem dX14_isLike_131 : decode cX14_isLike 131 = .ok (.bipush 16, 2) := by decide +kernel
theorem dX14_isLike_133 : decode cX14_isLike 133 = .ok (.aload_n 0, 1) := by decide +kernel
theorem dX14_isLike_134 : decode cX14_isLike 134 = .ok (.getfield 127, 3) := by decide +kernel
theorem dX14_isLike_137 : decode cX14_isLike 137 = .ok (.imul, 1) := by decide +kernel
theorem dX14_isLike_138 : decode cX14_isLike 138 = .ok (.iload_n 1, 1) := by decide +kernel
theorem dX14_isLike_139 : decode cX14_isLike 139 = .ok (.iadd, 1) := by decide +kernel
theorem dX14_isLike_140 : decode cX14_isLike 140 = .ok (.iaload, 1) := by decide +kernel
theorem dX14_isLike_141 : decode cX14_isLike 141 = .ok (.aload_n 0, 1) := by decide +kernel
theorem dX14_isLike_142 : decode cX14_isLike 142 = .ok (.getfield 79, 3) := by decide +kernel
theorem dX14_isLike_145 : decode cX14_isLike 145 = .ok (.bipush 16, 2) := by decide +kernel
theorem dX14_isLike_147 : decode cX14_isLike 147 = .ok (.aload_n 0, 1) := by decide +kernel
theorem dX14_isLike_148 : decode cX14_isLike 148 = .ok (.getfield 187, 3) := by decide +kernel
theorem dX14_isLike_151 : decode cX14_isLike 151 = .ok (.imul, 1) := by decide +kernel
theorem dX14_isLike_152 : decode cX14_isLike 152 = .ok (.iload_n 2, 1) := by decide +kernel
theorem dX14_isLike_153 : decode cX14_isLike 153 = .ok (.iadd, 1) := by decide +kernel
theorem dX14_isLike_154 : decode cX14_isLike 154 = .ok (.iaload, 1) := by decide +kernel
theorem dX14_isLike_155 : decode cX14_isLike 155 = .ok (.if_icmp .ne 7, 3) := by decide +kernel
theorem dX14_isLike_158 : decode cX14_isLike 158 = .ok (.iconst 1, 1) := by decide +kernel
theorem dX14_isLike_159 : decode cX14_isLike 159 = .ok (.goto 4, 3) := by decide +kernel
theorem dX14_isLike_162 : decode cX14_isLike 162 = .ok (.iconst 0, 1) := by decide +kernel
theorem dX14_isLike_163 : decode cX14_isLike 163 = .ok (.istore_n 3, 1) := by decide +kernel
theorem dX14_isLike_164 : decode cX14_isLike 164 = .ok (.iconst 0, 1) := by decide +kernel
theorem dX14_isLike_165 : decode cX14_isLike 165 = .ok (.istore 4, 2) := by decide +kernel
theorem dX14_isLike_167 : decode cX14_isLike 167 = .ok (.iload 4, 2) := by decide +kernel
theorem dX14_isLike_169 : decode cX14_isLike 169 = .ok (.aload_n 0, 1) := by decide +kernel
theorem dX14_isLike_170 : decode cX14_isLike 170 = .ok (.getfield 79, 3) := by decide +kernel
theorem dX14_isLike_173 : decode cX14_isLike 173 = .ok (.bipush 16, 2) := by decide +kernel
theorem dX14_isLike_175 : decode cX14_isLike 175 = .ok (.aload_n 0, 1) := by decide +kernel
theorem dX14_isLike_176 : decode cX14_isLike 176 = .ok (.getfield 127, 3) := by decide +kernel
theorem dX14_isLike_179 : decode cX14_isLike 179 = .ok (.imul, 1) := by decide +kernel
theorem dX14_isLike_180 : decode cX14_isLike 180 = .ok (.iload_n 1, 1) := by decide +kernel
theorem dX14_isLike_181 : decode cX14_isLike 181 = .ok (.iadd, 1) := by decide +kernel
theorem dX14_isLike_182 : decode cX14_isLike 182 = .ok (.iaload, 1) := by decide +kernel
theorem dX14_isLike_183 : decode cX14_isLike 183 = .ok (.if_icmp .ge 240, 3) := by decide +kernel
theorem dX14_isLike_186 : decode cX14_isLike 186 = .ok (.iload_n 3, 1) := by decide +kernel
theorem dX14_isLike_187 : decode cX14_isLike 187 = .ok (.ifCond .eq 236, 3) := by decide +kernel
theorem dX14_isLike_190 : decode cX14_isLike 190 = .ok (.bipush 8, 2) := by decide +kernel
theorem dX14_isLike_192 : decode cX14_isLike 192 = .ok (.iload_n 1, 1) := by decide +kernel
theorem dX14_isLike_193 : decode cX14_isLike 193 = .ok (.imul, 1) := by decide +kernel
theorem dX14_isLike_194 : decode cX14_isLike 194 = .ok (.iload 4, 2) := by decide +kernel
theorem dX14_isLike_196 : decode cX14_isLike 196 = .ok (.iadd, 1) := by decide +kernel
theorem dX14_isLike_197 : decode cX14_isLike 197 = .ok (.istore 5, 2) := by decide +kernel
theorem dX14_isLike_199 : decode cX14_isLike 199 = .ok (.bipush 8, 2) := by decide +kernel
theorem dX14_isLike_201 : decode cX14_isLike 201 = .ok (.iload_n 2, 1) := by decide +kernel
theorem dX14_isLike_202 : decode cX14_isLike 202 = .ok (.imul, 1) := by decide +kernel
theorem dX14_isLike_203 : decode cX14_isLike 203 = .ok (.iload 4, 2) := by decide +kernel
theorem dX14_isLike_205 : decode cX14_isLike 205 = .ok (.iadd, 1) := by decide +kernel
theorem dX14_isLike_206 : decode cX14_isLike 206 = .ok (.istore 6, 2) := by decide +kernel
theorem dX14_isLike_208 : decode cX14_isLike 208 = .ok (.aload_n 0, 1) := by decide +kernel
theorem dX14_isLike_209 : decode cX14_isLike 209 = .ok (.aload_n 0, 1) := by decide +kernel
theorem dX14_isLike_210 : decode cX14_isLike 210 = .ok (.getfield 82, 3) := by decide +kernel
theorem dX14_isLike_213 : decode cX14_isLike 213 = .ok (.sipush 128, 3) := by decide +kernel
theorem dX14_isLike_216 : decode cX14_isLike 216 = .ok (.aload_n 0, 1) := by decide +kernel
theorem dX14_isLike_217 : decode cX14_isLike 217 = .ok (.getfield 127, 3) := by decide +kernel
theorem dX14_isLike_220 : decode cX14_isLike 220 = .ok (.imul, 1) := by decide +kernel
theorem dX14_isLike_221 : decode cX14_isLike 221 = .ok (.iload 5, 2) := by decide +kernel
theorem dX14_isLike_223 : decode cX14_isLike 223 = .ok (.iadd, 1) := by decide +kernel
theorem dX14_isLike_224 : decode cX14_isLike 224 = .ok (.iaload, 1) := by decide +kernel
theorem dX14_isLike_225 : decode cX14_isLike 225 = .ok (.aload_n 0, 1) := by decide +kernel
theorem dX14_isLike_226 : decode cX14_isLike 226 = .ok (.getfield 82, 3) := by decide +kernel
theorem dX14_isLike_229 : decode cX14_isLike 229 = .ok (.sipush 128, 3) := by decide +kernel
theorem dX14_isLike_232 : decode cX14_isLike 232 = .ok (.aload_n 0, 1) := by decide +kernel
theorem dX14_isLike_233 : decode cX14_isLike 233 = .ok (.getfield 187, 3) := by decide +kernel
theorem dX14_isLike_236 : decode cX14_isLike 236 = .ok (.imul, 1) := by decide +kernel
theorem dX14_isLike_237 : decode cX14_isLike 237 = .ok (.iload 6, 2) := by decide +kernel
theorem dX14_isLike_239 : decode cX14_isLike 239 = .ok (.iadd, 1) := by decide +kernel
theorem dX14_isLike_240 : decode cX14_isLike 240 = .ok (.iaload, 1) := by decide +kernel
theorem dX14_isLike_241 : decode cX14_isLike 241 = .ok (.invokevirtual 462, 3) := by decide +kernel
theorem dX14_isLike_244 : decode cX14_isLike 244 = .ok (.ifCond .eq 171, 3) := by decide +kernel
theorem dX14_isLike_247 : decode cX14_isLike 247 = .ok (.aload_n 0, 1) := by decide +kernel
theorem dX14_isLike_248 : decode cX14_isLike 248 = .ok (.getfield 88, 3) := by decide +kernel
theorem dX14_isLike_251 : decode cX14_isLike 251 = .ok (.sipush 128, 3) := by decide +kernel
theorem dX14_isLike_254 : decode cX14_isLike 254 = .ok (.aload_n 0, 1) := by decide +kernel
theorem dX14_isLike_255 : decode cX14_isLike 255 = .ok (.getfield 127, 3) := by decide +kernel
theorem dX14_isLike_258 : decode cX14_isLike 258 = .ok (.imul, 1) := by decide +kernel
theorem dX14_isLike_259 : decode cX14_isLike 259 = .ok (.iload 5, 2) := by decide +kernel
theorem dX14_isLike_261 : decode cX14_isLike 261 = .ok (.iadd, 1) := by decide +kernel
theorem dX14_isLike_262 : decode cX14_isLike 262 = .ok (.iaload, 1) := by decide +kernel
theorem dX14_isLike_263 : decode cX14_isLike 263 = .ok (.aload_n 0, 1) := by decide +kernel
theorem dX14_isLike_264 : decode cX14_isLike 264 = .ok (.getfield 88, 3) := by decide +kernel
theorem dX14_isLike_267 : decode cX14_isLike 267 = .ok (.sipush 128, 3) := by decide +kernel
theorem dX14_isLike_270 : decode cX14_isLike 270 = .ok (.aload_n 0, 1) := by decide +kernel
theorem dX14_isLike_271 : decode cX14_isLike 271 = .ok (.getfield 187, 3) := by decide +kernel
theorem dX14_isLike_274 : decode cX14_isLike 274 = .ok (.imul, 1) := by decide +kernel
theorem dX14_isLike_275 : decode cX14_isLike 275 = .ok (.iload 6, 2) := by decide +kernel
theorem dX14_isLike_277 : decode cX14_isLike 277 = .ok (.iadd, 1) := by decide +kernel
theorem dX14_isLike_278 : decode cX14_isLike 278 = .ok (.iaload, 1) := by decide +kernel
theorem dX14_isLike_279 : decode cX14_isLike 279 = .ok (.if_icmp .ne 136, 3) := by decide +kernel
theorem dX14_isLike_282 : decode cX14_isLike 282 = .ok (.aload_n 0, 1) := by decide +kernel
theorem dX14_isLike_283 : decode cX14_isLike 283 = .ok (.aload_n 0, 1) := by decide +kernel
theorem dX14_isLike_284 : decode cX14_isLike 284 = .ok (.getfield 91, 3) := by decide +kernel
theorem dX14_isLike_287 : decode cX14_isLike 287 = .ok (.sipush 128, 3) := by decide +kernel
theorem dX14_isLike_290 : decode cX14_isLike 290 = .ok (.aload_n 0, 1) := by decide +kernel
theorem dX14_isLike_291 : decode cX14_isLike 291 = .ok (.getfield 127, 3) := by decide +kernel
theorem dX14_isLike_294 : decode cX14_isLike 294 = .ok (.imul, 1) := by decide +kernel
theorem dX14_isLike_295 : decode cX14_isLike 295 = .ok (.iload 5, 2) := by decide +kernel
theorem dX14_isLike_297 : decode cX14_isLike 297 = .ok (.iadd, 1) := by decide +kernel
theorem dX14_isLike_298 : decode cX14_isLike 298 = .ok (.iaload, 1) := by decide +kernel
theorem dX14_isLike_299 : decode cX14_isLike 299 = .ok (.aload_n 0, 1) := by decide +kernel
theorem dX14_isLike_300 : decode cX14_isLike 300 = .ok (.getfield 91, 3) := by decide +kernel
theorem dX14_isLike_303 : decode cX14_isLike 303 = .ok (.sipush 128, 3) := by decide +kernel
theorem dX14_isLike_306 : decode cX14_isLike 306 = .ok (.aload_n 0, 1) := by decide +kernel
theorem dX14_isLike_307 : decode cX14_isLike 307 = .ok (.getfield 187, 3) := by decide +kernel
theorem dX14_isLike_310 : decode cX14_isLike 310 = .ok (.imul, 1) := by decide +kernel
theorem dX14_isLike_311 : decode cX14_isLike 311 = .ok (.iload 6, 2) := by decide +kernel
theorem dX14_isLike_313 : decode cX14_isLike 313 = .ok (.iadd, 1) := by decide +kernel
theorem dX14_isLike_314 : decode cX14_isLike 314 = .ok (.iaload, 1) := by decide +kernel
theorem dX14_isLike_315 : decode cX14_isLike 315 = .ok (.invokevirtual 462, 3) := by decide +kernel
theorem dX14_isLike_318 : decode cX14_isLike 318 = .ok (.ifCond .eq 97, 3) := by decide +kernel
theorem dX14_isLike_321 : decode cX14_isLike 321 = .ok (.aload_n 0, 1) := by decide +kernel
theorem dX14_isLike_322 : decode cX14_isLike 322 = .ok (.getfield 94, 3) := by decide +kernel
theorem dX14_isLike_325 : decode cX14_isLike 325 = .ok (.sipush 128, 3) := by decide +kernel
theorem dX14_isLike_328 : decode cX14_isLike 328 = .ok (.aload_n 0, 1) := by decide +kernel
theorem dX14_isLike_329 : decode cX14_isLike 329 = .ok (.getfield 127, 3) := by decide +kernel
theorem dX14_isLike_332 : decode cX14_isLike 332 = .ok (.imul, 1) := by decide +kernel
theorem dX14_isLike_333 : decode cX14_isLike 333 = .ok (.iload 5, 2) := by decide +kernel
theorem dX14_isLike_335 : decode cX14_isLike 335 = .ok (.iadd, 1) := by decide +kernel
theorem dX14_isLike_336 : decode cX14_isLike 336 = .ok (.iaload, 1) := by decide +kernel
theorem dX14_isLike_337 : decode cX14_isLike 337 = .ok (.aload_n 0, 1) := by decide +kernel
theorem dX14_isLike_338 : decode cX14_isLike 338 = .ok (.getfield 94, 3) := by decide +kernel
theorem dX14_isLike_341 : decode cX14_isLike 341 = .ok (.sipush 128, 3) := by decide +kernel
theorem dX14_isLike_344 : decode cX14_isLike 344 = .ok (.aload_n 0, 1) := by decide +kernel
theorem dX14_isLike_345 : decode cX14_isLike 345 = .ok (.getfield 187, 3) := by decide +kernel
theorem dX14_isLike_348 : decode cX14_isLike 348 = .ok (.imul, 1) := by decide +kernel
theorem dX14_isLike_349 : decode cX14_isLike 349 = .ok (.iload 6, 2) := by decide +kernel
theorem dX14_isLike_351 : decode cX14_isLike 351 = .ok (.iadd, 1) := by decide +kernel
theorem dX14_isLike_352 : decode cX14_isLike 352 = .ok (.iaload, 1) := by decide +kernel
theorem dX14_isLike_353 : decode cX14_isLike 353 = .ok (.if_icmp .ne 62, 3) := by decide +kernel
theorem dX14_isLike_356 : decode cX14_isLike 356 = .ok (.aload_n 0, 1) := by decide +kernel
theorem dX14_isLike_357 : decode cX14_isLike 357 = .ok (.aload_n 0, 1) := by decide +kernel
theorem dX14_isLike_358 : decode cX14_isLike 358 = .ok (.aload_n 0, 1) := by decide +kernel
theorem dX14_isLike_359 : decode cX14_isLike 359 = .ok (.getfield 127, 3) := by decide +kernel
theorem dX14_isLike_362 : decode cX14_isLike 362 = .ok (.aload_n 0, 1) := by decide +kernel
theorem dX14_isLike_363 : decode cX14_isLike 363 = .ok (.getfield 85, 3) := by decide +kernel
theorem dX14_isLike_366 : decode cX14_isLike 366 = .ok (.sipush 128, 3) := by decide +kernel
theorem dX14_isLike_369 : decode cX14_isLike 369 = .ok (.aload_n 0, 1) := by decide +kernel
theorem dX14_isLike_370 : decode cX14_isLike 370 = .ok (.getfield 127, 3) := by decide +kernel
theorem dX14_isLike_373 : decode cX14_isLike 373 = .ok (.imul, 1) := by decide +kernel
theorem dX14_isLike_374 : decode cX14_isLike 374 = .ok (.iload 5, 2) := by decide +kernel
theorem dX14_isLike_376 : decode cX14_isLike 376 = .ok (.iadd, 1) := by decide +kernel
theorem dX14_isLike_377 : decode cX14_isLike 377 = .ok (.iaload, 1) := by decide +kernel
theorem dX14_isLike_378 : decode cX14_isLike 378 = .ok (.invokevirtual 374, 3) := by decide +kernel
theorem dX14_isLike_381 : decode cX14_isLike 381 = .ok (.aload_n 0, 1) := by decide +kernel
theorem dX14_isLike_382 : decode cX14_isLike 382 = .ok (.aload_n 0, 1) := by decide +kernel
theorem dX14_isLike_383 : decode cX14_isLike 383 = .ok (.getfield 187, 3) := by decide +kernel
theorem dX14_isLike_386 : decode cX14_isLike 386 = .ok (.aload_n 0, 1) := by decide +kernel
theorem dX14_isLike_387 : decode cX14_isLike 387 = .ok (.getfield 85, 3) := by decide +kernel
theorem dX14_isLike_390 : decode cX14_isLike 390 = .ok (.sipush 128, 3) := by decide +kernel
theorem dX14_isLike_393 : decode cX14_isLike 393 = .ok (.aload_n 0, 1) := by decide +kernel
theorem dX14_isLike_394 : decode cX14_isLike 394 = .ok (.getfield 187, 3) := by decide +kernel
theorem dX14_isLike_397 : decode cX14_isLike 397 = .ok (.imul, 1) := by decide +kernel
theorem dX14_isLike_398 : decode cX14_isLike 398 = .ok (.iload 6, 2) := by decide +kernel
theorem dX14_isLike_400 : decode cX14_isLike 400 = .ok (.iadd, 1) := by decide +kernel
theorem dX14_isLike_401 : decode cX14_isLike 401 = .ok (.iaload, 1) := by decide +kernel
theorem dX14_isLike_402 : decode cX14_isLike 402 = .ok (.invokevirtual 374, 3) := by decide +kernel
theorem dX14_isLike_405 : decode cX14_isLike 405 = .ok (.invokevirtual 465, 3) := by decide +kernel
theorem dX14_isLike_408 : decode cX14_isLike 408 = .ok (.ifCond .eq 7, 3) := by decide +kernel
theorem dX14_isLike_411 : decode cX14_isLike 411 = .ok (.iconst 1, 1) := by decide +kernel
theorem dX14_isLike_412 : decode cX14_isLike 412 = .ok (.goto 4, 3) := by decide +kernel
theorem dX14_isLike_415 : decode cX14_isLike 415 = .ok (.iconst 0, 1) := by decide +kernel
theorem dX14_isLike_416 : decode cX14_isLike 416 = .ok (.istore_n 3, 1) := by decide +kernel
theorem dX14_isLike_417 : decode cX14_isLike 417 = .ok (.iinc 4 1, 3) := by decide +kernel
theorem dX14_isLike_420 : decode cX14_isLike 420 = .ok (.goto (-253), 3) := by decide +kernel
theorem dX14_isLike_423 : decode cX14_isLike 423 = .ok (.iload_n 3, 1) := by decide +kernel
theorem dX14_isLike_424 : decode cX14_isLike 424 = .ok (.ireturn, 1) := by decide +kernel
theorem dX14_compare_0 : decode cX14_compare 0 = .ok (.aload_n 0, 1) := by decide +kernel
theorem dX14_compare_1 : decode cX14_compare 1 = .ok (.iconst 0, 1) := by decide +kernel
theorem dX14_compare_2 : decode cX14_compare 2 = .ok (.putfield 181, 3) := by decide +kernel
theorem dX14_compare_5 : decode cX14_compare 5 = .ok (.iload_n 1, 1) := by decide +kernel
theorem dX14_compare_6 : decode cX14_compare 6 = .ok (.iconst 1, 1) := by decide +kernel
theorem dX14_compare_7 : decode cX14_compare 7 = .ok (.if_icmp .lt 16, 3) := by decide +kernel
theorem dX14_compare_10 : decode cX14_compare 10 = .ok (.iload_n 1, 1) := by decide +kernel
theorem dX14_compare_11 : decode cX14_compare 11 = .ok (.iconst 4, 1) := by decide +kernel
theorem dX14_compare_12 : decode cX14_compare 12 = .ok (.if_icmp .gt 11, 3) := by decide +kernel
theorem dX14_compare_15 : decode cX14_compare 15 = .ok (.iload_n 1, 1) := by decide +kernel
theorem dX14_compare_16 : decode cX14_compare 16 = .ok (.aload_n 0, 1) := by decide +kernel
theorem dX14_compare_17 : decode cX14_compare 17 = .ok (.getfield 403, 3) := by decide +kernel
theorem dX14_compare_20 : decode cX14_compare 20 = .ok (.if_icmp .le 5, 3) := by decide +kernel
theorem dX14_compare_23 : decode cX14_compare 23 = .ok (.iconst (-1), 1) := by decide +kernel
theorem dX14_compare_24 : decode cX14_compare 24 = .ok (.ireturn, 1) := by decide +kernel
theorem dX14_compare_25 : decode cX14_compare 25 = .ok (.aload_n 0, 1) := by decide +kernel
theorem dX14_compare_26 : decode cX14_compare 26 = .ok (.aload_n 0, 1) := by decide +kernel
theorem dX14_compare_27 : decode cX14_compare 27 = .ok (.getfield 134, 3) := by decide +kernel
theorem dX14_compare_30 : decode cX14_compare 30 = .ok (.sipush 2000, 3) := by decide +kernel
theorem dX14_compare_33 : decode cX14_compare 33 = .ok (.iload_n 1, 1) := by decide +kernel
theorem dX14_compare_34 : decode cX14_compare 34 = .ok (.iconst 1, 1) := by decide +kernel
theorem dX14_compare_35 : decode cX14_compare 35 = .ok (.isub, 1) := by decide +kernel
theorem dX14_compare_36 : decode cX14_compare 36 = .ok (.imul, 1) := by decide +kernel
theorem dX14_compare_37 : decode cX14_compare 37 = .ok (.aload_n 0, 1) := by decide +kernel
theorem dX14_compare_38 : decode cX14_compare 38 = .ok (.getfield 131, 3) := by decide +kernel
theorem dX14_compare_41 : decode cX14_compare 41 = .ok (.iload_n 1, 1) := by decide +kernel
theorem dX14_compare_42 : decode cX14_compare 42 = .ok (.iconst 1, 1) := by decide +kernel
theorem dX14_compare_43 : decode cX14_compare 43 = .ok (.isub, 1) := by decide +kernel
theorem dX14_compare_44 : decode cX14_compare 44 = .ok (.iaload, 1) := by decide +kernel
theorem dX14_compare_45 : decode cX14_compare 45 = .ok (.invokevirtual 393, 3) := by decide +kernel
theorem dX14_compare_48 : decode cX14_compare 48 = .ok (.istore_n 2, 1) := by decide +kernel
theorem dX14_compare_49 : decode cX14_compare 49 = .ok (.iconst 0, 1) := by decide +kernel
theorem dX14_compare_50 : decode cX14_compare 50 = .ok (.istore_n 3, 1) := by decide +kernel
theorem dX14_compare_51 : decode cX14_compare 51 = .ok (.iconst 0, 1) := by decide +kernel
theorem dX14_compare_52 : decode cX14_compare 52 = .ok (.istore 4, 2) := by decide +kernel
theorem dX14_compare_54 : decode cX14_compare 54 = .ok (.iload 4, 2) := by decide +kernel
theorem dX14_compare_56 : decode cX14_compare 56 = .ok (.aload_n 0, 1) := by decide +kernel
theorem dX14_compare_57 : decode cX14_compare 57 = .ok (.getfield 19, 3) := by decide +kernel
theorem dX14_compare_60 : decode cX14_compare 60 = .ok (.aload_n 0, 1) := by decide +kernel
theorem dX14_compare_61 : decode cX14_compare 61 = .ok (.getfield 127, 3) := by decide +kernel
theorem dX14_compare_64 : decode cX14_compare 64 = .ok (.iaload, 1) := by decide +kernel
theorem dX14_compare_65 : decode cX14_compare 65 = .ok (.if_icmp .ge 71, 3) := by decide +kernel
theorem dX14_compare_68 : decode cX14_compare 68 = .ok (.iconst 0, 1) := by decide +kernel
theorem dX14_compare_69 : decode cX14_compare 69 = .ok (.istore 5, 2) := by decide +kernel
theorem dX14_compare_71 : decode cX14_compare 71 = .ok (.iconst 0, 1) := by decide +kernel
theorem dX14_compare_72 : decode cX14_compare 72 = .ok (.istore 6, 2) := by decide +kernel
theorem dX14_compare_74 : decode cX14_compare 74 = .ok (.iload 6, 2) := by decide +kernel
theorem dX14_compare_76 : decode cX14_compare 76 = .ok (.aload_n 0, 1) := by decide +kernel
theorem dX14_compare_77 : decode cX14_compare 77 = .ok (.getfield 19, 3) := by decide +kernel
theorem dX14_compare_80 : decode cX14_compare 80 = .ok (.aload_n 0, 1) := by decide +kernel
theorem dX14_compare_81 : decode cX14_compare 81 = .ok (.getfield 187, 3) := by decide +kernel
theorem dX14_compare_84 : decode cX14_compare 84 = .ok (.iaload, 1) := by decide +kernel
theorem dX14_compare_85 : decode cX14_compare 85 = .ok (.if_icmp .ge 32, 3) := by decide +kernel
theorem dX14_compare_88 : decode cX14_compare 88 = .ok (.iload 5, 2) := by decide +kernel
theorem dX14_compare_90 : decode cX14_compare 90 = .ok (.ifCond .ne 14, 3) := by decide +kernel
theorem dX14_compare_93 : decode cX14_compare 93 = .ok (.aload_n 0, 1) := by decide +kernel
theorem dX14_compare_94 : decode cX14_compare 94 = .ok (.iload 4, 2) := by decide +kernel
theorem dX14_compare_96 : decode cX14_compare 96 = .ok (.iload 6, 2) := by decide +kernel
theorem dX14_compare_98 : decode cX14_compare 98 = .ok (.invokevirtual 468, 3) := by decide +kernel
theorem dX14_compare_101 : decode cX14_compare 101 = .ok (.ifCond .eq 7, 3) := by decide +kernel
theorem dX14_compare_104 : decode cX14_compare 104 = .ok (.iconst 1, 1) := by decide +kernel
theorem dX14_compare_105 : decode cX14_compare 105 = .ok (.goto 4, 3) := by decide +kernel
theorem dX14_compare_108 : decode cX14_compare 108 = .ok (.iconst 0, 1) := by decide +kernel
theorem dX14_compare_109 : decode cX14_compare 109 = .ok (.istore 5, 2) := by decide +kernel
theorem dX14_compare_111 : decode cX14_compare 111 = .ok (.iinc 6 1, 3) := by decide +kernel
theorem dX14_compare_114 : decode cX14_compare 114 = .ok (.goto (-40), 3) := by decide +kernel
theorem dX14_compare_117 : decode cX14_compare 117 = .ok (.iload_n 3, 1) := by decide +kernel
theorem dX14_compare_118 : decode cX14_compare 118 = .ok (.iload 5, 2) := by decide +kernel
theorem dX14_compare_120 : decode cX14_compare 120 = .ok (.ifCond .eq 7, 3) := by decide +kernel
theorem dX14_compare_123 : decode cX14_compare 123 = .ok (.iconst 0, 1) := by decide +kernel
theorem dX14_compare_124 : decode cX14_compare 124 = .ok (.goto 4, 3) := by decide +kernel
theorem dX14_compare_127 : decode cX14_compare 127 = .ok (.iconst 1, 1) := by decide +kernel
theorem dX14_compare_128 : decode cX14_compare 128 = .ok (.iadd, 1) := by decide +kernel
theorem dX14_compare_129 : decode cX14_compare 129 = .ok (.istore_n 3, 1) := by decide +kernel
theorem dX14_compare_130 : decode cX14_compare 130 = .ok (.iinc 4 1, 3) := by decide +kernel
theorem dX14_compare_133 : decode cX14_compare 133 = .ok (.goto (-79), 3) := by decide +kernel
theorem dX14_compare_136 : decode cX14_compare 136 = .ok (.iload_n 3, 1) := by decide +kernel
theorem dX14_compare_137 : decode cX14_compare 137 = .ok (.ireturn, 1) := by decide +kernel
theorem dX14_code_0 : decode cX14_code 0 = .ok (.aload_n 0, 1) := by decide +kernel
theorem dX14_code_1 : decode cX14_code 1 = .ok (.iconst 0, 1) := by decide +kernel
theorem dX14_code_2 : decode cX14_code 2 = .ok (.putfield 181, 3) := by decide +kernel
theorem dX14_code_5 : decode cX14_code 5 = .ok (.iconst 0, 1) := by decide +kernel
theorem dX14_code_6 : decode cX14_code 6 = .ok (.istore_n 2, 1) := by decide +kernel
theorem dX14_code_7 : decode cX14_code 7 = .ok (.iload_n 2, 1) := by decide +kernel
theorem dX14_code_8 : decode cX14_code 8 = .ok (.aload_n 0, 1) := by decide +kernel
theorem dX14_code_9 : decode cX14_code 9 = .ok (.getfield 22, 3) := by decide +kernel
theorem dX14_code_12 : decode cX14_code 12 = .ok (.aload_n 0, 1) := by decide +kernel
theorem dX14_code_13 : decode cX14_code 13 = .ok (.getfield 127, 3) := by decide +kernel
theorem dX14_code_16 : decode cX14_code 16 = .ok (.iaload, 1) := by decide +kernel
theorem dX14_code_17 : decode cX14_code 17 = .ok (.if_icmp .ge 49, 3) := by decide +kernel
theorem dX14_code_20 : decode cX14_code 20 = .ok (.aload_n 0, 1) := by decide +kernel
theorem dX14_code_21 : decode cX14_code 21 = .ok (.getfield 400, 3) := by decide +kernel
theorem dX14_code_24 : decode cX14_code 24 = .ok (.ifCond .eq 42, 3) := by decide +kernel
theorem dX14_code_27 : decode cX14_code 27 = .ok (.aload_n 0, 1) := by decide +kernel
theorem dX14_code_28 : decode cX14_code 28 = .ok (.getfield 97, 3) := by decide +kernel
theorem dX14_code_31 : decode cX14_code 31 = .ok (.bipush 12, 2) := by decide +kernel
theorem dX14_code_33 : decode cX14_code 33 = .ok (.aload_n 0, 1) := by decide +kernel
theorem dX14_code_34 : decode cX14_code 34 = .ok (.getfield 127, 3) := by decide +kernel
theorem dX14_code_37 : decode cX14_code 37 = .ok (.imul, 1) := by decide +kernel
theorem dX14_code_38 : decode cX14_code 38 = .ok (.iload_n 2, 1) := by decide +kernel
theorem dX14_code_39 : decode cX14_code 39 = .ok (.iadd, 1) := by decide +kernel
theorem dX14_code_40 : decode cX14_code 40 = .ok (.iaload, 1) := by decide +kernel
theorem dX14_code_41 : decode cX14_code 41 = .ok (.iload_n 1, 1) := by decide +kernel
theorem dX14_code_42 : decode cX14_code 42 = .ok (.if_icmp .ne 18, 3) := by decide +kernel
theorem dX14_code_45 : decode cX14_code 45 = .ok (.aload_n 0, 1) := by decide +kernel
theorem dX14_code_46 : decode cX14_code 46 = .ok (.getfield 100, 3) := by decide +kernel
theorem dX14_code_49 : decode cX14_code 49 = .ok (.bipush 12, 2) := by decide +kernel
theorem dX14_code_51 : decode cX14_code 51 = .ok (.aload_n 0, 1) := by decide +kernel
theorem dX14_code_52 : decode cX14_code 52 = .ok (.getfield 127, 3) := by decide +kernel
theorem dX14_code_55 : decode cX14_code 55 = .ok (.imul, 1) := by decide +kernel
theorem dX14_code_56 : decode cX14_code 56 = .ok (.iload_n 2, 1) := by decide +kernel
theorem dX14_code_57 : decode cX14_code 57 = .ok (.iadd, 1) := by decide +kernel
theorem dX14_code_58 : decode cX14_code 58 = .ok (.iaload, 1) := by decide +kernel
theorem dX14_code_59 : decode cX14_code 59 = .ok (.ireturn, 1) := by decide +kernel
theorem dX14_code_60 : decode cX14_code 60 = .ok (.iinc 2 1, 3) := by decide +kernel
theorem dX14_code_63 : decode cX14_code 63 = .ok (.goto (-56), 3) := by decide +kernel
theorem dX14_code_66 : decode cX14_code 66 = .ok (.iconst 0, 1) := by decide +kernel
theorem dX14_code_67 : decode cX14_code 67 = .ok (.ireturn, 1) := by decide +kernel
theorem dJx00060_init_da8c8_0 : decode cJx00060_init_da8c8 0 = .ok (.aload_n 0, 1) := by decide +kernel
theorem dJx00060_init_da8c8_1 : decode cJx00060_init_da8c8 1 = .ok (.invokespecial 1, 3) := by decide +kernel
theorem dJx00060_init_da8c8_4 : decode cJx00060_init_da8c8 4 = .ok (.return_, 1) := by decide +kernel
theorem dJx29ce0_ordinal_8abf5_0 : decode cJx29ce0_ordinal_8abf5 0 = .ok (.aload_n 0, 1) := by decide +kernel
theorem dJx29ce0_ordinal_8abf5_1 : decode cJx29ce0_ordinal_8abf5 1 = .ok (.getfield 7, 3) := by decide +kernel
theorem dJx29ce0_ordinal_8abf5_4 : decode cJx29ce0_ordinal_8abf5 4 = .ok (.ireturn, 1) := by decide +kernel
theorem dJ9_floorDiv_f86c9_0 : decode cJ9_floorDiv_f86c9 0 = .ok (.lload_n 0, 1) := by decide +kernel
theorem dJ9_floorDiv_f86c9_1 : decode cJ9_floorDiv_f86c9 1 = .ok (.lload_n 2, 1) := by decide +kernel
theorem dJ9_floorDiv_f86c9_2 : decode cJ9_floorDiv_f86c9 2 = .ok (.ldiv, 1) := by decide +kernel
theorem dJ9_floorDiv_f86c9_3 : decode cJ9_floorDiv_f86c9 3 = .ok (.lstore 4, 2) := by decide +kernel
theorem dJ9_floorDiv_f86c9_5 : decode cJ9_floorDiv_f86c9 5 = .ok (.lload_n 0, 1) := by decide +kernel
theorem dJ9_floorDiv_f86c9_6 : decode cJ9_floorDiv_f86c9 6 = .ok (.lload_n 2, 1) := by decide +kernel
theorem dJ9_floorDiv_f86c9_7 : decode cJ9_floorDiv_f86c9 7 = .ok (.lxor, 1) := by decide +kernel
theorem dJ9_floorDiv_f86c9_8 : decode cJ9_floorDiv_f86c9 8 = .ok (.lconst 0, 1) := by decide +kernel
theorem dJ9_floorDiv_f86c9_9 : decode cJ9_floorDiv_f86c9 9 = .ok (.lcmp, 1) := by decide +kernel
theorem dJ9_floorDiv_f86c9_10 : decode cJ9_floorDiv_f86c9 10 = .ok (.ifCond .ge 17, 3) := by decide +kernel
theorem dJ9_floorDiv_f86c9_13 : decode cJ9_floorDiv_f86c9 13 = .ok (.lload 4, 2) := by decide +kernel
theorem dJ9_floorDiv_f86c9_15 : decode cJ9_floorDiv_f86c9 15 = .ok (.lload_n 2, 1) := by decide +kernel
theorem dJ9_floorDiv_f86c9_16 : decode cJ9_floorDiv_f86c9 16 = .ok (.lmul, 1) := by decide +kernel
theorem dJ9_floorDiv_f86c9_17 : decode cJ9_floorDiv_f86c9 17 = .ok (.lload_n 0, 1) := by decide +kernel
theorem dJ9_floorDiv_f86c9_18 : decode cJ9_floorDiv_f86c9 18 = .ok (.lcmp, 1) := by decide +kernel
theorem dJ9_floorDiv_f86c9_19 : decode cJ9_floorDiv_f86c9 19 = .ok (.ifCond .eq 8, 3) := by decide +kernel
theorem dJ9_floorDiv_f86c9_22 : decode cJ9_floorDiv_f86c9 22 = .ok (.lload 4, 2) := by decide +kernel
theorem dJ9_floorDiv_f86c9_24 : decode cJ9_floorDiv_f86c9 24 = .ok (.lconst 1, 1) := by decide +kernel
theorem dJ9_floorDiv_f86c9_25 : decode cJ9_floorDiv_f86c9 25 = .ok (.lsub, 1) := by decide +kernel
theorem dJ9_floorDiv_f86c9_26 : decode cJ9_floorDiv_f86c9 26 = .ok (.lreturn, 1) := by decide +kernel
theorem dJ9_floorDiv_f86c9_27 : decode cJ9_floorDiv_f86c9 27 = .ok (.lload 4, 2) := by decide +kernel
theorem dJ9_floorDiv_f86c9_29 : decode cJ9_floorDiv_f86c9 29 = .ok (.lreturn, 1) := by decide +kernel
theorem dJ9_abs_067f4_0 : decode cJ9_abs_067f4 0 = .ok (.lload_n 0, 1) := by decide +kernel
theorem dJ9_abs_067f4_1 : decode cJ9_abs_067f4 1 = .ok (.lconst 0, 1) := by decide +kernel
theorem dJ9_abs_067f4_2 : decode cJ9_abs_067f4 2 = .ok (.lcmp, 1) := by decide +kernel
theorem dJ9_abs_067f4_3 : decode cJ9_abs_067f4 3 = .ok (.ifCond .ge 8, 3) := by decide +kernel
theorem dJ9_abs_067f4_6 : decode cJ9_abs_067f4 6 = .ok (.lload_n 0, 1) := by decide +kernel
theorem dJ9_abs_067f4_7 : decode cJ9_abs_067f4 7 = .ok (.lneg, 1) := by decide +kernel
theorem dJ9_abs_067f4_8 : decode cJ9_abs_067f4 8 = .ok (.goto 4, 3) := by decide +kernel
theorem dJ9_abs_067f4_11 : decode cJ9_abs_067f4 11 = .ok (.lload_n 0, 1) := by decide +kernel
theorem dJ9_abs_067f4_12 : decode cJ9_abs_067f4 12 = .ok (.lreturn, 1) := by decide +kernel
theorem dJ9_max_7cf53_0 : decode cJ9_max_7cf53 0 = .ok (.iload_n 0, 1) := by decide +kernel
theorem dJ9_max_7cf53_1 : decode cJ9_max_7cf53 1 = .ok (.iload_n 1, 1) := by decide +kernel
theorem dJ9_max_7cf53_2 : decode cJ9_max_7cf53 2 = .ok (.if_icmp .lt 7, 3) := by decide +kernel
theorem dJ9_max_7cf53_5 : decode cJ9_max_7cf53 5 = .ok (.iload_n 0, 1) := by decide +kernel
theorem dJ9_max_7cf53_6 : decode cJ9_max_7cf53 6 = .ok (.goto 4, 3) := by decide +kernel
theorem dJ9_max_7cf53_9 : decode cJ9_max_7cf53 9 = .ok (.iload_n 1, 1) := by decide +kernel
theorem dJ9_max_7cf53_10 : decode cJ9_max_7cf53 10 = .ok (.ireturn, 1) := by decide +kernel
theorem dJ9_max_f86c9_0 : decode cJ9_max_f86c9 0 = .ok (.lload_n 0, 1) := by decide +kernel
theorem dJ9_max_f86c9_1 : decode cJ9_max_f86c9 1 = .ok (.lload_n 2, 1) := by decide +kernel
theorem dJ9_max_f86c9_2 : decode cJ9_max_f86c9 2 = .ok (.lcmp, 1) := by decide +kernel
theorem dJ9_max_f86c9_3 : decode cJ9_max_f86c9 3 = .ok (.ifCond .lt 7, 3) := by decide +kernel
theorem dJ9_max_f86c9_6 : decode cJ9_max_f86c9 6 = .ok (.lload_n 0, 1) := by decide +kernel
theorem dJ9_max_f86c9_7 : decode cJ9_max_f86c9 7 = .ok (.goto 4, 3) := by decide +kernel
theorem dJ9_max_f86c9_10 : decode cJ9_max_f86c9 10 = .ok (.lload_n 2, 1) := by decide +kernel
theorem dJ9_max_f86c9_11 : decode cJ9_max_f86c9 11 = .ok (.lreturn, 1) := by decide +kernel
theorem dJ9_min_7cf53_0 : decode cJ9_min_7cf53 0 = .ok (.iload_n 0, 1) := by decide +kernel
theorem dJ9_min_7cf53_1 : decode cJ9_min_7cf53 1 = .ok (.iload_n 1, 1) := by decide +kernel
theorem dJ9_min_7cf53_2 : decode cJ9_min_7cf53 2 = .ok (.if_icmp .gt 7, 3) := by decide +kernel
theorem dJ9_min_7cf53_5 : decode cJ9_min_7cf53 5 = .ok (.iload_n 0, 1) := by decide +kernel
theorem dJ9_min_7cf53_6 : decode cJ9_min_7cf53 6 = .ok (.goto 4, 3) := by decide +kernel
theorem dJ9_min_7cf53_9 : decode cJ9_min_7cf53 9 = .ok (.iload_n 1, 1) := by decide +kernel
theorem dJ9_min_7cf53_10 : decode cJ9_min_7cf53 10 = .ok (.ireturn, 1) := by decide +kernel
theorem dJ9_min_f86c9_0 : decode cJ9_min_f86c9 0 = .ok (.lload_n 0, 1) := by decide +kernel
theorem dJ9_min_f86c9_1 : decode cJ9_min_f86c9 1 = .ok (.lload_n 2, 1) := by decide +kernel
theorem dJ9_min_f86c9_2 : decode cJ9_min_f86c9 2 = .ok (.lcmp, 1) := by decide +kernel
theorem dJ9_min_f86c9_3 : decode cJ9_min_f86c9 3 = .ok (.ifCond .gt 7, 3) := by decide +kernel
theorem dJ9_min_f86c9_6 : decode cJ9_min_f86c9 6 = .ok (.lload_n 0, 1) := by decide +kernel
theorem dJ9_min_f86c9_7 : decode cJ9_min_f86c9 7 = .ok (.goto 4, 3) := by decide +kernel
theorem dJ9_min_f86c9_10 : decode cJ9_min_f86c9 10 = .ok (.lload_n 2, 1) := by decide +kernel
theorem dJ9_min_f86c9_11 : decode cJ9_min_f86c9 11 = .ok (.lreturn, 1) := by decide +kernel
theorem dJ0_length_8abf5_0 : decode cJ0_length_8abf5 0 = .ok (.aload_n 0, 1) := by decide +kernel
theorem dJ0_length_8abf5_1 : decode cJ0_length_8abf5 1 = .ok (.getfield 9, 3) := by decide +kernel
theorem dJ0_length_8abf5_4 : decode cJ0_length_8abf5 4 = .ok (.arraylength, 1) := by decide +kernel
theorem dJ0_length_8abf5_5 : decode cJ0_length_8abf5 5 = .ok (.aload_n 0, 1) := by decide +kernel
theorem dJ0_length_8abf5_6 : decode cJ0_length_8abf5 6 = .ok (.invokevirtual 335, 3) := by decide +kernel
theorem dJ0_length_8abf5_9 : decode cJ0_length_8abf5 9 = .ok (.ishr, 1) := by decide +kernel
theorem dJ0_length_8abf5_10 : decode cJ0_length_8abf5 10 = .ok (.ireturn, 1) := by decide +kernel
theorem dJ0_charAt_5068e_0 : decode cJ0_charAt_5068e 0 = .ok (.aload_n 0, 1) := by decide +kernel
theorem dJ0_charAt_5068e_1 : decode cJ0_charAt_5068e 1 = .ok (.invokevirtual 492, 3) := by decide +kernel
theorem dJ0_charAt_5068e_4 : decode cJ0_charAt_5068e 4 = .ok (.ifCond .eq 12, 3) := by decide +kernel
theorem dJ0_charAt_5068e_7 : decode cJ0_charAt_5068e 7 = .ok (.aload_n 0, 1) := by decide +kernel
theorem dJ0_charAt_5068e_8 : decode cJ0_charAt_5068e 8 = .ok (.getfield 9, 3) := by decide +kernel
theorem dJ0_charAt_5068e_11 : decode cJ0_charAt_5068e 11 = .ok (.iload_n 1, 1) := by decide +kernel
theorem dJ0_charAt_5068e_12 : decode cJ0_charAt_5068e 12 = .ok (.invokestatic 495, 3) := by decide +kernel
theorem dJ0_charAt_5068e_15 : decode cJ0_charAt_5068e 15 = .ok (.ireturn, 1) := by decide +kernel
theorem dJ0_charAt_5068e_16 : decode cJ0_charAt_5068e 16 = .ok (.aload_n 0, 1) := by decide +kernel
theorem dJ0_charAt_5068e_17 : decode cJ0_charAt_5068e 17 = .ok (.getfield 9, 3) := by decide +kernel
theorem dJ0_charAt_5068e_20 : decode cJ0_charAt_5068e 20 = .ok (.iload_n 1, 1) := by decide +kernel
theorem dJ0_charAt_5068e_21 : decode cJ0_charAt_5068e 21 = .ok (.invokestatic 498, 3) := by decide +kernel
theorem dJ0_charAt_5068e_24 : decode cJ0_charAt_5068e 24 = .ok (.ireturn, 1) := by decide +kernel
theorem dJ0_coder_7d493_0 : decode cJ0_coder_7d493 0 = .ok (.getstatic 38, 3) := by decide +kernel
theorem dJ0_coder_7d493_3 : decode cJ0_coder_7d493 3 = .ok (.ifCond .eq 10, 3) := by decide +kernel
theorem dJ0_coder_7d493_6 : decode cJ0_coder_7d493 6 = .ok (.aload_n 0, 1) := by decide +kernel
theorem dJ0_coder_7d493_7 : decode cJ0_coder_7d493 7 = .ok (.getfield 15, 3) := by decide +kernel
theorem dJ0_coder_7d493_10 : decode cJ0_coder_7d493 10 = .ok (.goto 4, 3) := by decide +kernel
theorem dJ0_coder_7d493_13 : decode cJ0_coder_7d493 13 = .ok (.iconst 1, 1) := by decide +kernel
theorem dJ0_coder_7d493_14 : decode cJ0_coder_7d493 14 = .ok (.ireturn, 1) := by decide +kernel
theorem dJ0_isLatin1_aae02_0 : decode cJ0_isLatin1_aae02 0 = .ok (.getstatic 38, 3) := by decide +kernel
theorem dJ0_isLatin1_aae02_3 : decode cJ0_isLatin1_aae02 3 = .ok (.ifCond .eq 14, 3) := by decide +kernel
theorem dJ0_isLatin1_aae02_6 : decode cJ0_isLatin1_aae02 6 = .ok (.aload_n 0, 1) := by decide +kernel
theorem dJ0_isLatin1_aae02_7 : decode cJ0_isLatin1_aae02 7 = .ok (.getfield 15, 3) := by decide +kernel
theorem dJ0_isLatin1_aae02_10 : decode cJ0_isLatin1_aae02 10 = .ok (.ifCond .ne 7, 3) := by decide +kernel
theorem dJ0_isLatin1_aae02_13 : decode cJ0_isLatin1_aae02 13 = .ok (.iconst 1, 1) := by decide +kernel
theorem dJ0_isLatin1_aae02_14 : decode cJ0_isLatin1_aae02 14 = .ok (.goto 4, 3) := by decide +kernel
theorem dJ0_isLatin1_aae02_17 : decode cJ0_isLatin1_aae02 17 = .ok (.iconst 0, 1) := by decide +kernel
theorem dJ0_isLatin1_aae02_18 : decode cJ0_isLatin1_aae02 18 = .ok (.ireturn, 1) := by decide +kernel
theorem dJ0_checkIndex_df160_0 : decode cJ0_checkIndex_df160 0 = .ok (.iload_n 0, 1) := by decide +kernel
theorem dJ0_checkIndex_df160_1 : decode cJ0_checkIndex_df160 1 = .ok (.iload_n 1, 1) := by decide +kernel
theorem dJ0_checkIndex_df160_2 : decode cJ0_checkIndex_df160 2 = .ok (.getstatic 1053, 3) := by decide +kernel
theorem dJ0_checkIndex_df160_5 : decode cJ0_checkIndex_df160 5 = .ok (.invokestatic 1059, 3) := by decide +kernel
theorem dJ0_checkIndex_df160_8 : decode cJ0_checkIndex_df160 8 = .ok (.pop, 1) := by decide +kernel
theorem dJ0_checkIndex_df160_9 : decode cJ0_checkIndex_df160 9 = .ok (.return_, 1) := by decide +kernel
theorem dJ1_charAt_3b067_0 : decode cJ1_charAt_3b067 0 = .ok (.iload_n 1, 1) := by decide +kernel
theorem dJ1_charAt_3b067_1 : decode cJ1_charAt_3b067 1 = .ok (.aload_n 0, 1) := by decide +kernel
theorem dJ1_charAt_3b067_2 : decode cJ1_charAt_3b067 2 = .ok (.arraylength, 1) := by decide +kernel
theorem dJ1_charAt_3b067_3 : decode cJ1_charAt_3b067 3 = .ok (.invokestatic 9, 3) := by decide +kernel
theorem dJ1_charAt_3b067_6 : decode cJ1_charAt_3b067 6 = .ok (.aload_n 0, 1) := by decide +kernel
theorem dJ1_charAt_3b067_7 : decode cJ1_charAt_3b067 7 = .ok (.iload_n 1, 1) := by decide +kernel
theorem dJ1_charAt_3b067_8 : decode cJ1_charAt_3b067 8 = .ok (.baload, 1) := by decide +kernel
theorem dJ1_charAt_3b067_9 : decode cJ1_charAt_3b067 9 = .ok (.sipush 255, 3) := by decide +kernel
theorem dJ1_charAt_3b067_12 : decode cJ1_charAt_3b067 12 = .ok (.iand, 1) := by decide +kernel
theorem dJ1_charAt_3b067_13 : decode cJ1_charAt_3b067 13 = .ok (.i2c, 1) := by decide +kernel
theorem dJ1_charAt_3b067_14 : decode cJ1_charAt_3b067 14 = .ok (.ireturn, 1) := by decide +kernel
theorem dJ2_getChar_3b067_0 : decode cJ2_getChar_3b067 0 = .ok (.getstatic 44, 3) := by decide +kernel
theorem dJ2_getChar_3b067_3 : decode cJ2_getChar_3b067 3 = .ok (.ifCond .ne 25, 3) := by decide +kernel
theorem dJ2_getChar_3b067_6 : decode cJ2_getChar_3b067 6 = .ok (.iload_n 1, 1) := by decide +kernel
theorem dJ2_getChar_3b067_7 : decode cJ2_getChar_3b067 7 = .ok (.ifCond .lt 11, 3) := by decide +kernel
theorem dJ2_getChar_3b067_10 : decode cJ2_getChar_3b067 10 = .ok (.iload_n 1, 1) := by decide +kernel
theorem dJ2_getChar_3b067_11 : decode cJ2_getChar_3b067 11 = .ok (.aload_n 0, 1) := by decide +kernel
theorem dJ2_getChar_3b067_12 : decode cJ2_getChar_3b067 12 = .ok (.invokestatic 48, 3) := by decide +kernel
theorem dJ2_getChar_3b067_15 : decode cJ2_getChar_3b067 15 = .ok (.if_icmp .lt 13, 3) := by decide +kernel
theorem dJ2_getChar_3b067_18 : decode cJ2_getChar_3b067 18 = .ok (.new 52, 3) := by decide +kernel
theorem dJ2_getChar_3b067_21 : decode cJ2_getChar_3b067 21 = .ok (.dup, 1) := by decide +kernel
theorem dJ2_getChar_3b067_22 : decode cJ2_getChar_3b067 22 = .ok (.ldc 54, 2) := by decide +kernel
theorem dJ2_getChar_3b067_24 : decode cJ2_getChar_3b067 24 = .ok (.invokespecial 56, 3) := by decide +kernel
theorem dJ2_getChar_3b067_27 : decode cJ2_getChar_3b067 27 = .ok (.athrow, 1) := by decide +kernel
theorem dJ2_getChar_3b067_28 : decode cJ2_getChar_3b067 28 = .ok (.iload_n 1, 1) := by decide +kernel
theorem dJ2_getChar_3b067_29 : decode cJ2_getChar_3b067 29 = .ok (.iconst 1, 1) := by decide +kernel
theorem dJ2_getChar_3b067_30 : decode cJ2_getChar_3b067 30 = .ok (.ishl, 1) := by decide +kernel
theorem dJ2_getChar_3b067_31 : decode cJ2_getChar_3b067 31 = .ok (.istore_n 1, 1) := by decide +kernel
theorem dJ2_getChar_3b067_32 : decode cJ2_getChar_3b067 32 = .ok (.aload_n 0, 1) := by decide +kernel
theorem dJ2_getChar_3b067_33 : decode cJ2_getChar_3b067 33 = .ok (.iload_n 1, 1) := by decide +kernel
theorem dJ2_getChar_3b067_34 : decode cJ2_getChar_3b067 34 = .ok (.iinc 1 1, 3) := by decide +kernel
theorem dJ2_getChar_3b067_37 : decode cJ2_getChar_3b067 37 = .ok (.baload, 1) := by decide +kernel
theorem dJ2_getChar_3b067_38 : decode cJ2_getChar_3b067 38 = .ok (.sipush 255, 3) := by decide +kernel
theorem dJ2_getChar_3b067_41 : decode cJ2_getChar_3b067 41 = .ok (.iand, 1) := by decide +kernel
theorem dJ2_getChar_3b067_42 : decode cJ2_getChar_3b067 42 = .ok (.getstatic 59, 3) := by decide +kernel
theorem dJ2_getChar_3b067_45 : decode cJ2_getChar_3b067 45 = .ok (.ishl, 1) := by decide +kernel
theorem dJ2_getChar_3b067_46 : decode cJ2_getChar_3b067 46 = .ok (.aload_n 0, 1) := by decide +kernel
theorem dJ2_getChar_3b067_47 : decode cJ2_getChar_3b067 47 = .ok (.iload_n 1, 1) := by decide +kernel
theorem dJ2_getChar_3b067_48 : decode cJ2_getChar_3b067 48 = .ok (.baload, 1) := by decide +kernel
theorem dJ2_getChar_3b067_49 : decode cJ2_getChar_3b067 49 = .ok (.sipush 255, 3) := by decide +kernel
theorem dJ2_getChar_3b067_52 : decode cJ2_getChar_3b067 52 = .ok (.iand, 1) := by decide +kernel
theorem dJ2_getChar_3b067_53 : decode cJ2_getChar_3b067 53 = .ok (.getstatic 63, 3) := by decide +kernel
theorem dJ2_getChar_3b067_56 : decode cJ2_getChar_3b067 56 = .ok (.ishl, 1) := by decide +kernel
theorem dJ2_getChar_3b067_57 : decode cJ2_getChar_3b067 57 = .ok (.ior, 1) := by decide +kernel
theorem dJ2_getChar_3b067_58 : decode cJ2_getChar_3b067 58 = .ok (.i2c, 1) := by decide +kernel
theorem dJ2_getChar_3b067_59 : decode cJ2_getChar_3b067 59 = .ok (.ireturn, 1) := by decide +kernel
theorem dJ2_length_9d52b_0 : decode cJ2_length_9d52b 0 = .ok (.aload_n 0, 1) := by decide +kernel
theorem dJ2_length_9d52b_1 : decode cJ2_length_9d52b 1 = .ok (.arraylength, 1) := by decide +kernel
theorem dJ2_length_9d52b_2 : decode cJ2_length_9d52b 2 = .ok (.iconst 1, 1) := by decide +kernel
theorem dJ2_length_9d52b_3 : decode cJ2_length_9d52b 3 = .ok (.ishr, 1) := by decide +kernel
theorem dJ2_length_9d52b_4 : decode cJ2_length_9d52b 4 = .ok (.ireturn, 1) := by decide +kernel
theorem dJ2_charAt_3b067_0 : decode cJ2_charAt_3b067 0 = .ok (.iload_n 1, 1) := by decide +kernel
theorem dJ2_charAt_3b067_1 : decode cJ2_charAt_3b067 1 = .ok (.aload_n 0, 1) := by decide +kernel
theorem dJ2_charAt_3b067_2 : decode cJ2_charAt_3b067 2 = .ok (.invokestatic 67, 3) := by decide +kernel
theorem dJ2_charAt_3b067_5 : decode cJ2_charAt_3b067 5 = .ok (.aload_n 0, 1) := by decide +kernel
theorem dJ2_charAt_3b067_6 : decode cJ2_charAt_3b067 6 = .ok (.iload_n 1, 1) := by decide +kernel
theorem dJ2_charAt_3b067_7 : decode cJ2_charAt_3b067 7 = .ok (.invokestatic 71, 3) := by decide +kernel
theorem dJ2_charAt_3b067_10 : decode cJ2_charAt_3b067 10 = .ok (.ireturn, 1) := by decide +kernel
theorem dJ2_checkIndex_2214a_0 : decode cJ2_checkIndex_2214a 0 = .ok (.iload_n 0, 1) := by decide +kernel
theorem dJ2_checkIndex_2214a_1 : decode cJ2_checkIndex_2214a 1 = .ok (.aload_n 1, 1) := by decide +kernel
theorem dJ2_checkIndex_2214a_2 : decode cJ2_checkIndex_2214a 2 = .ok (.invokestatic 48, 3) := by decide +kernel
theorem dJ2_checkIndex_2214a_5 : decode cJ2_checkIndex_2214a 5 = .ok (.invokestatic 414, 3) := by decide +kernel
theorem dJ2_checkIndex_2214a_8 : decode cJ2_checkIndex_2214a 8 = .ok (.return_, 1) := by decide +kernel
theorem dJxa1e45_init_da8c8_0 : decode cJxa1e45_init_da8c8 0 = .ok (.aload_n 0, 1) := by decide +kernel
theorem dJxa1e45_init_da8c8_1 : decode cJxa1e45_init_da8c8 1 = .ok (.invokespecial 1, 3) := by decide +kernel
theorem dJxa1e45_init_da8c8_4 : decode cJxa1e45_init_da8c8 4 = .ok (.return_, 1) := by decide +kernel
theorem dJxc12de_init_da8c8_0 : decode cJxc12de_init_da8c8 0 = .ok (.aload_n 0, 1) := by decide +kernel
theorem dJxc12de_init_da8c8_1 : decode cJxc12de_init_da8c8 1 = .ok (.invokespecial 1, 3) := by decide +kernel
theorem dJxc12de_init_da8c8_4 : decode cJxc12de_init_da8c8 4 = .ok (.aload_n 0, 1) := by decide +kernel
theorem dJxc12de_init_da8c8_5 : decode cJxc12de_init_da8c8 5 = .ok (.iconst 0, 1) := by decide +kernel
theorem dJxc12de_init_da8c8_6 : decode cJxc12de_init_da8c8 6 = .ok (.putfield 7, 3) := by decide +kernel
theorem dJxc12de_init_da8c8_9 : decode cJxc12de_init_da8c8 9 = .ok (.return_, 1) := by decide +kernel
theorem dJx4a65c_init_da8c8_0 : decode cJx4a65c_init_da8c8 0 = .ok (.aload_n 0, 1) := by decide +kernel
theorem dJx4a65c_init_da8c8_1 : decode cJx4a65c_init_da8c8 1 = .ok (.invokespecial 1, 3) := by decide +kernel
theorem dJx4a65c_init_da8c8_4 : decode cJx4a65c_init_da8c8 4 = .ok (.aload_n 0, 1) := by decide +kernel
theorem dJx4a65c_init_da8c8_5 : decode cJx4a65c_init_da8c8 5 = .ok (.getstatic 39, 3) := by decide +kernel
theorem dJx4a65c_init_da8c8_8 : decode cJx4a65c_init_da8c8 8 = .ok (.putfield 9, 3) := by decide +kernel
theorem dJx4a65c_init_da8c8_11 : decode cJx4a65c_init_da8c8 11 = .ok (.return_, 1) := by decide +kernel
theorem dJx4a65c_grow_92f84_0 : decode cJx4a65c_grow_92f84 0 = .ok (.aload_n 0, 1) := by decide +kernel
theorem dJx4a65c_grow_92f84_1 : decode cJx4a65c_grow_92f84 1 = .ok (.getfield 9, 3) := by decide +kernel
theorem dJx4a65c_grow_92f84_4 : decode cJx4a65c_grow_92f84 4 = .ok (.arraylength, 1) := by decide +kernel
theorem dJx4a65c_grow_92f84_5 : decode cJx4a65c_grow_92f84 5 = .ok (.istore_n 2, 1) := by decide +kernel
theorem dJx4a65c_grow_92f84_6 : decode cJx4a65c_grow_92f84 6 = .ok (.iload_n 2, 1) := by decide +kernel
theorem dJx4a65c_grow_92f84_7 : decode cJx4a65c_grow_92f84 7 = .ok (.ifCond .gt 13, 3) := by decide +kernel
theorem dJx4a65c_grow_92f84_10 : decode cJx4a65c_grow_92f84 10 = .ok (.aload_n 0, 1) := by decide +kernel
theorem dJx4a65c_grow_92f84_11 : decode cJx4a65c_grow_92f84 11 = .ok (.getfield 9, 3) := by decide +kernel
theorem dJx4a65c_grow_92f84_14 : decode cJx4a65c_grow_92f84 14 = .ok (.getstatic 39, 3) := by decide +kernel
theorem dJx4a65c_grow_92f84_17 : decode cJx4a65c_grow_92f84 17 = .ok (.if_acmp .eq 28, 3) := by decide +kernel
theorem dJx4a65c_grow_92f84_20 : decode cJx4a65c_grow_92f84 20 = .ok (.iload_n 2, 1) := by decide +kernel
theorem dJx4a65c_grow_92f84_21 : decode cJx4a65c_grow_92f84 21 = .ok (.iload_n 1, 1) := by decide +kernel
theorem dJx4a65c_grow_92f84_22 : decode cJx4a65c_grow_92f84 22 = .ok (.iload_n 2, 1) := by decide +kernel
theorem dJx4a65c_grow_92f84_23 : decode cJx4a65c_grow_92f84 23 = .ok (.isub, 1) := by decide +kernel
theorem dJx4a65c_grow_92f84_24 : decode cJx4a65c_grow_92f84 24 = .ok (.iload_n 2, 1) := by decide +kernel
theorem dJx4a65c_grow_92f84_25 : decode cJx4a65c_grow_92f84 25 = .ok (.iconst 1, 1) := by decide +kernel
theorem dJx4a65c_grow_92f84_26 : decode cJx4a65c_grow_92f84 26 = .ok (.ishr, 1) := by decide +kernel
theorem dJx4a65c_grow_92f84_27 : decode cJx4a65c_grow_92f84 27 = .ok (.invokestatic 73, 3) := by decide +kernel
theorem dJx4a65c_grow_92f84_30 : decode cJx4a65c_grow_92f84 30 = .ok (.istore_n 3, 1) := by decide +kernel
theorem dJx4a65c_grow_92f84_31 : decode cJx4a65c_grow_92f84 31 = .ok (.aload_n 0, 1) := by decide +kernel
theorem dJx4a65c_grow_92f84_32 : decode cJx4a65c_grow_92f84 32 = .ok (.aload_n 0, 1) := by decide +kernel
theorem dJx4a65c_grow_92f84_33 : decode cJx4a65c_grow_92f84 33 = .ok (.getfield 9, 3) := by decide +kernel
theorem dJx4a65c_grow_92f84_36 : decode cJx4a65c_grow_92f84 36 = .ok (.iload_n 3, 1) := by decide +kernel
theorem dJx4a65c_grow_92f84_37 : decode cJx4a65c_grow_92f84 37 = .ok (.invokestatic 66, 3) := by decide +kernel
theorem dJx4a65c_grow_92f84_40 : decode cJx4a65c_grow_92f84 40 = .ok (.dup_x1, 1) := by decide +kernel
theorem dJx4a65c_grow_92f84_41 : decode cJx4a65c_grow_92f84 41 = .ok (.putfield 9, 3) := by decide +kernel
theorem dJx4a65c_grow_92f84_44 : decode cJx4a65c_grow_92f84 44 = .ok (.areturn, 1) := by decide +kernel
theorem dJx4a65c_grow_92f84_45 : decode cJx4a65c_grow_92f84 45 = .ok (.aload_n 0, 1) := by decide +kernel
theorem dJx4a65c_grow_92f84_46 : decode cJx4a65c_grow_92f84 46 = .ok (.bipush 10, 2) := by decide +kernel
theorem dJx4a65c_grow_92f84_48 : decode cJx4a65c_grow_92f84 48 = .ok (.iload_n 1, 1) := by decide +kernel
theorem dJx4a65c_grow_92f84_49 : decode cJx4a65c_grow_92f84 49 = .ok (.invokestatic 79, 3) := by decide +kernel
theorem dJx4a65c_grow_92f84_52 : decode cJx4a65c_grow_92f84 52 = .ok (.anewarray 7, 3) := by decide +kernel
theorem dJx4a65c_grow_92f84_55 : decode cJx4a65c_grow_92f84 55 = .ok (.dup_x1, 1) := by decide +kernel
theorem dJx4a65c_grow_92f84_56 : decode cJx4a65c_grow_92f84 56 = .ok (.putfield 9, 3) := by decide +kernel
theorem dJx4a65c_grow_92f84_59 : decode cJx4a65c_grow_92f84 59 = .ok (.areturn, 1) := by decide +kernel
theorem dJx4a65c_grow_d5877_0 : decode cJx4a65c_grow_d5877 0 = .ok (.aload_n 0, 1) := by decide +kernel
theorem dJx4a65c_grow_d5877_1 : decode cJx4a65c_grow_d5877 1 = .ok (.aload_n 0, 1) := by decide +kernel
theorem dJx4a65c_grow_d5877_2 : decode cJx4a65c_grow_d5877 2 = .ok (.getfield 48, 3) := by decide +kernel
theorem dJx4a65c_grow_d5877_5 : decode cJx4a65c_grow_d5877 5 = .ok (.iconst 1, 1) := by decide +kernel
theorem dJx4a65c_grow_d5877_6 : decode cJx4a65c_grow_d5877 6 = .ok (.iadd, 1) := by decide +kernel
theorem dJx4a65c_grow_d5877_7 : decode cJx4a65c_grow_d5877 7 = .ok (.invokevirtual 69, 3) := by decide +kernel
theorem dJx4a65c_grow_d5877_10 : decode cJx4a65c_grow_d5877 10 = .ok (.areturn, 1) := by decide +kernel
theorem dJx4a65c_size_8abf5_0 : decode cJx4a65c_size_8abf5 0 = .ok (.aload_n 0, 1) := by decide +kernel
theorem dJx4a65c_size_8abf5_1 : decode cJx4a65c_size_8abf5 1 = .ok (.getfield 48, 3) := by decide +kernel
theorem dJx4a65c_size_8abf5_4 : decode cJx4a65c_size_8abf5 4 = .ok (.ireturn, 1) := by decide +kernel
theorem dJx4a65c_isEmpty_aae02_0 : decode cJx4a65c_isEmpty_aae02 0 = .ok (.aload_n 0, 1) := by decide +kernel
theorem dJx4a65c_isEmpty_aae02_1 : decode cJx4a65c_isEmpty_aae02 1 = .ok (.getfield 48, 3) := by decide +kernel
theorem dJx4a65c_isEmpty_aae02_4 : decode cJx4a65c_isEmpty_aae02 4 = .ok (.ifCond .ne 7, 3) := by decide +kernel
theorem dJx4a65c_isEmpty_aae02_7 : decode cJx4a65c_isEmpty_aae02 7 = .ok (.iconst 1, 1) := by decide +kernel
theorem dJx4a65c_isEmpty_aae02_8 : decode cJx4a65c_isEmpty_aae02 8 = .ok (.goto 4, 3) := by decide +kernel
theorem dJx4a65c_isEmpty_aae02_11 : decode cJx4a65c_isEmpty_aae02 11 = .ok (.iconst 0, 1) := by decide +kernel
theorem dJx4a65c_isEmpty_aae02_12 : decode cJx4a65c_isEmpty_aae02 12 = .ok (.ireturn, 1) := by decide +kernel
theorem dJx4a65c_elementData_915e3_0 : decode cJx4a65c_elementData_915e3 0 = .ok (.aload_n 0, 1) := by decide +kernel
theorem dJx4a65c_elementData_915e3_1 : decode cJx4a65c_elementData_915e3 1 = .ok (.getfield 9, 3) := by decide +kernel
theorem dJx4a65c_elementData_915e3_4 : decode cJx4a65c_elementData_915e3 4 = .ok (.iload_n 1, 1) := by decide +kernel
theorem dJx4a65c_elementData_915e3_5 : decode cJx4a65c_elementData_915e3 5 = .ok (.aaload, 1) := by decide +kernel
theorem dJx4a65c_elementData_915e3_6 : decode cJx4a65c_elementData_915e3 6 = .ok (.areturn, 1) := by decide +kernel
theorem dJx4a65c_get_915e3_0 : decode cJx4a65c_get_915e3 0 = .ok (.iload_n 1, 1) := by decide +kernel
theorem dJx4a65c_get_915e3_1 : decode cJx4a65c_get_915e3 1 = .ok (.aload_n 0, 1) := by decide +kernel
theorem dJx4a65c_get_915e3_2 : decode cJx4a65c_get_915e3 2 = .ok (.getfield 48, 3) := by decide +kernel
theorem dJx4a65c_get_915e3_5 : decode cJx4a65c_get_915e3 5 = .ok (.invokestatic 118, 3) := by decide +kernel
theorem dJx4a65c_get_915e3_8 : decode cJx4a65c_get_915e3 8 = .ok (.pop, 1) := by decide +kernel
theorem dJx4a65c_get_915e3_9 : decode cJx4a65c_get_915e3 9 = .ok (.aload_n 0, 1) := by decide +kernel
theorem dJx4a65c_get_915e3_10 : decode cJx4a65c_get_915e3 10 = .ok (.iload_n 1, 1) := by decide +kernel
theorem dJx4a65c_get_915e3_11 : decode cJx4a65c_get_915e3 11 = .ok (.invokevirtual 123, 3) := by decide +kernel
theorem dJx4a65c_get_915e3_14 : decode cJx4a65c_get_915e3 14 = .ok (.areturn, 1) := by decide +kernel
theorem dJx4a65c_add_72be8_0 : decode cJx4a65c_add_72be8 0 = .ok (.iload_n 3, 1) := by decide +kernel
theorem dJx4a65c_add_72be8_1 : decode cJx4a65c_add_72be8 1 = .ok (.aload_n 2, 1) := by decide +kernel
theorem dJx4a65c_add_72be8_2 : decode cJx4a65c_add_72be8 2 = .ok (.arraylength, 1) := by decide +kernel
theorem dJx4a65c_add_72be8_3 : decode cJx4a65c_add_72be8 3 = .ok (.if_icmp .ne 8, 3) := by decide +kernel
theorem dJx4a65c_add_72be8_6 : decode cJx4a65c_add_72be8 6 = .ok (.aload_n 0, 1) := by decide +kernel
theorem dJx4a65c_add_72be8_7 : decode cJx4a65c_add_72be8 7 = .ok (.invokevirtual 129, 3) := by decide +kernel
theorem dJx4a65c_add_72be8_10 : decode cJx4a65c_add_72be8 10 = .ok (.astore_n 2, 1) := by decide +kernel
theorem dJx4a65c_add_72be8_11 : decode cJx4a65c_add_72be8 11 = .ok (.aload_n 2, 1) := by decide +kernel
theorem dJx4a65c_add_72be8_12 : decode cJx4a65c_add_72be8 12 = .ok (.iload_n 3, 1) := by decide +kernel
theorem dJx4a65c_add_72be8_13 : decode cJx4a65c_add_72be8 13 = .ok (.aload_n 1, 1) := by decide +kernel
theorem dJx4a65c_add_72be8_14 : decode cJx4a65c_add_72be8 14 = .ok (.aastore, 1) := by decide +kernel
theorem dJx4a65c_add_72be8_15 : decode cJx4a65c_add_72be8 15 = .ok (.aload_n 0, 1) := by decide +kernel
theorem dJx4a65c_add_72be8_16 : decode cJx4a65c_add_72be8 16 = .ok (.iload_n 3, 1) := by decide +kernel
theorem dJx4a65c_add_72be8_17 : decode cJx4a65c_add_72be8 17 = .ok (.iconst 1, 1) := by decide +kernel
theorem dJx4a65c_add_72be8_18 : decode cJx4a65c_add_72be8 18 = .ok (.iadd, 1) := by decide +kernel
theorem dJx4a65c_add_72be8_19 : decode cJx4a65c_add_72be8 19 = .ok (.putfield 48, 3) := by decide +kernel
theorem dJx4a65c_add_72be8_22 : decode cJx4a65c_add_72be8 22 = .ok (.return_, 1) := by decide +kernel
theorem dJx4a65c_add_9ea2d_0 : decode cJx4a65c_add_9ea2d 0 = .ok (.aload_n 0, 1) := by decide +kernel
theorem dJx4a65c_add_9ea2d_1 : decode cJx4a65c_add_9ea2d 1 = .ok (.dup, 1) := by decide +kernel
theorem dJx4a65c_add_9ea2d_2 : decode cJx4a65c_add_9ea2d 2 = .ok (.getfield 63, 3) := by decide +kernel
theorem dJx4a65c_add_9ea2d_5 : decode cJx4a65c_add_9ea2d 5 = .ok (.iconst 1, 1) := by decide +kernel
theorem dJx4a65c_add_9ea2d_6 : decode cJx4a65c_add_9ea2d 6 = .ok (.iadd, 1) := by decide +kernel
theorem dJx4a65c_add_9ea2d_7 : decode cJx4a65c_add_9ea2d 7 = .ok (.putfield 63, 3) := by decide +kernel
theorem dJx4a65c_add_9ea2d_10 : decode cJx4a65c_add_9ea2d 10 = .ok (.aload_n 0, 1) := by decide +kernel
theorem dJx4a65c_add_9ea2d_11 : decode cJx4a65c_add_9ea2d 11 = .ok (.aload_n 1, 1) := by decide +kernel
theorem dJx4a65c_add_9ea2d_12 : decode cJx4a65c_add_9ea2d 12 = .ok (.aload_n 0, 1) := by decide +kernel
theorem dJx4a65c_add_9ea2d_13 : decode cJx4a65c_add_9ea2d 13 = .ok (.getfield 9, 3) := by decide +kernel
theorem dJx4a65c_add_9ea2d_16 : decode cJx4a65c_add_9ea2d 16 = .ok (.aload_n 0, 1) := by decide +kernel
theorem dJx4a65c_add_9ea2d_17 : decode cJx4a65c_add_9ea2d 17 = .ok (.getfield 48, 3) := by decide +kernel
theorem dJx4a65c_add_9ea2d_20 : decode cJx4a65c_add_9ea2d 20 = .ok (.invokevirtual 131, 3) := by decide +kernel
theorem dJx4a65c_add_9ea2d_23 : decode cJx4a65c_add_9ea2d 23 = .ok (.iconst 1, 1) := by decide +kernel
theorem dJx4a65c_add_9ea2d_24 : decode cJx4a65c_add_9ea2d 24 = .ok (.ireturn, 1) := by decide +kernel
theorem dJ7_copyOf_1904c_0 : decode cJ7_copyOf_1904c 0 = .ok (.aload_n 0, 1) := by decide +kernel
theorem dJ7_copyOf_1904c_1 : decode cJ7_copyOf_1904c 1 = .ok (.iload_n 1, 1) := by decide +kernel
theorem dJ7_copyOf_1904c_2 : decode cJ7_copyOf_1904c 2 = .ok (.aload_n 0, 1) := by decide +kernel
theorem dJ7_copyOf_1904c_3 : decode cJ7_copyOf_1904c 3 = .ok (.invokevirtual 86, 3) := by decide +kernel
theorem dJ7_copyOf_1904c_6 : decode cJ7_copyOf_1904c 6 = .ok (.invokestatic 300, 3) := by decide +kernel
theorem dJ7_copyOf_1904c_9 : decode cJ7_copyOf_1904c 9 = .ok (.areturn, 1) := by decide +kernel
theorem dJ7_copyOf_6403c_0 : decode cJ7_copyOf_6403c 0 = .ok (.aload_n 2, 1) := by decide +kernel
theorem dJ7_copyOf_6403c_1 : decode cJ7_copyOf_6403c 1 = .ok (.ldc 110, 2) := by decide +kernel
theorem dJ7_copyOf_6403c_3 : decode cJ7_copyOf_6403c 3 = .ok (.if_acmp .ne 10, 3) := by decide +kernel
theorem dJ7_copyOf_6403c_6 : decode cJ7_copyOf_6403c 6 = .ok (.iload_n 1, 1) := by decide +kernel
theorem dJ7_copyOf_6403c_7 : decode cJ7_copyOf_6403c 7 = .ok (.anewarray 2, 3) := by decide +kernel
theorem dJ7_copyOf_6403c_10 : decode cJ7_copyOf_6403c 10 = .ok (.goto 14, 3) := by decide +kernel
theorem dJ7_copyOf_6403c_13 : decode cJ7_copyOf_6403c 13 = .ok (.aload_n 2, 1) := by decide +kernel
theorem dJ7_copyOf_6403c_14 : decode cJ7_copyOf_6403c 14 = .ok (.invokevirtual 90, 3) := by decide +kernel
theorem dJ7_copyOf_6403c_17 : decode cJ7_copyOf_6403c 17 = .ok (.iload_n 1, 1) := by decide +kernel
theorem dJ7_copyOf_6403c_18 : decode cJ7_copyOf_6403c 18 = .ok (.invokestatic 95, 3) := by decide +kernel
theorem dJ7_copyOf_6403c_21 : decode cJ7_copyOf_6403c 21 = .ok (.checkcast 110, 3) := by decide +kernel
theorem dJ7_copyOf_6403c_24 : decode cJ7_copyOf_6403c 24 = .ok (.astore_n 3, 1) := by decide +kernel
theorem dJ7_copyOf_6403c_25 : decode cJ7_copyOf_6403c 25 = .ok (.aload_n 0, 1) := by decide +kernel
theorem dJ7_copyOf_6403c_26 : decode cJ7_copyOf_6403c 26 = .ok (.iconst 0, 1) := by decide +kernel
theorem dJ7_copyOf_6403c_27 : decode cJ7_copyOf_6403c 27 = .ok (.aload_n 3, 1) := by decide +kernel
theorem dJ7_copyOf_6403c_28 : decode cJ7_copyOf_6403c 28 = .ok (.iconst 0, 1) := by decide +kernel
theorem dJ7_copyOf_6403c_29 : decode cJ7_copyOf_6403c 29 = .ok (.aload_n 0, 1) := by decide +kernel
theorem dJ7_copyOf_6403c_30 : decode cJ7_copyOf_6403c 30 = .ok (.arraylength, 1) := by decide +kernel
theorem dJ7_copyOf_6403c_31 : decode cJ7_copyOf_6403c 31 = .ok (.iload_n 1, 1) := by decide +kernel
theorem dJ7_copyOf_6403c_32 : decode cJ7_copyOf_6403c 32 = .ok (.invokestatic 304, 3) := by decide +kernel
theorem dJ7_copyOf_6403c_35 : decode cJ7_copyOf_6403c 35 = .ok (.invokestatic 150, 3) := by decide +kernel
theorem dJ7_copyOf_6403c_38 : decode cJ7_copyOf_6403c 38 = .ok (.aload_n 3, 1) := by decide +kernel
theorem dJ7_copyOf_6403c_39 : decode cJ7_copyOf_6403c 39 = .ok (.areturn, 1) := by decide +kernel
theorem dJ7_copyOf_c38d5_0 : decode cJ7_copyOf_c38d5 0 = .ok (.iload_n 1, 1) := by decide +kernel
theorem dJ7_copyOf_c38d5_1 : decode cJ7_copyOf_c38d5 1 = .ok (.aload_n 0, 1) := by decide +kernel
theorem dJ7_copyOf_c38d5_2 : decode cJ7_copyOf_c38d5 2 = .ok (.arraylength, 1) := by decide +kernel
theorem dJ7_copyOf_c38d5_3 : decode cJ7_copyOf_c38d5 3 = .ok (.if_icmp .ne 11, 3) := by decide +kernel
theorem dJ7_copyOf_c38d5_6 : decode cJ7_copyOf_c38d5 6 = .ok (.aload_n 0, 1) := by decide +kernel
theorem dJ7_copyOf_c38d5_7 : decode cJ7_copyOf_c38d5 7 = .ok (.invokevirtual 319, 3) := by decide +kernel
theorem dJ7_copyOf_c38d5_10 : decode cJ7_copyOf_c38d5 10 = .ok (.checkcast 320, 3) := by decide +kernel
theorem dJ7_copyOf_c38d5_13 : decode cJ7_copyOf_c38d5 13 = .ok (.areturn, 1) := by decide +kernel
theorem dJ7_copyOf_c38d5_14 : decode cJ7_copyOf_c38d5 14 = .ok (.iload_n 1, 1) := by decide +kernel
theorem dJ7_copyOf_c38d5_15 : decode cJ7_copyOf_c38d5 15 = .ok (.newarray .long, 2) := by decide +kernel
theorem dJ7_copyOf_c38d5_17 : decode cJ7_copyOf_c38d5 17 = .ok (.astore_n 2, 1) := by decide +kernel
theorem dJ7_copyOf_c38d5_18 : decode cJ7_copyOf_c38d5 18 = .ok (.aload_n 0, 1) := by decide +kernel
theorem dJ7_copyOf_c38d5_19 : decode cJ7_copyOf_c38d5 19 = .ok (.iconst 0, 1) := by decide +kernel
theorem dJ7_copyOf_c38d5_20 : decode cJ7_copyOf_c38d5 20 = .ok (.aload_n 2, 1) := by decide +kernel
theorem dJ7_copyOf_c38d5_21 : decode cJ7_copyOf_c38d5 21 = .ok (.iconst 0, 1) := by decide +kernel
theorem dJ7_copyOf_c38d5_22 : decode cJ7_copyOf_c38d5 22 = .ok (.aload_n 0, 1) := by decide +kernel
theorem dJ7_copyOf_c38d5_23 : decode cJ7_copyOf_c38d5 23 = .ok (.arraylength, 1) := by decide +kernel
theorem dJ7_copyOf_c38d5_24 : decode cJ7_copyOf_c38d5 24 = .ok (.iload_n 1, 1) := by decide +kernel
theorem dJ7_copyOf_c38d5_25 : decode cJ7_copyOf_c38d5 25 = .ok (.invokestatic 304, 3) := by decide +kernel
theorem dJ7_copyOf_c38d5_28 : decode cJ7_copyOf_c38d5 28 = .ok (.invokestatic 150, 3) := by decide +kernel
theorem dJ7_copyOf_c38d5_31 : decode cJ7_copyOf_c38d5 31 = .ok (.aload_n 2, 1) := by decide +kernel
theorem dJ7_copyOf_c38d5_32 : decode cJ7_copyOf_c38d5 32 = .ok (.areturn, 1) := by decide +kernel
theorem dJ15_checkIndex_7cf53_0 : decode cJ15_checkIndex_7cf53 0 = .ok (.iload_n 0, 1) := by decide +kernel
theorem dJ15_checkIndex_7cf53_1 : decode cJ15_checkIndex_7cf53 1 = .ok (.iload_n 1, 1) := by decide +kernel
theorem dJ15_checkIndex_7cf53_2 : decode cJ15_checkIndex_7cf53 2 = .ok (.aconst_null, 1) := by decide +kernel
theorem dJ15_checkIndex_7cf53_3 : decode cJ15_checkIndex_7cf53 3 = .ok (.invokestatic 105, 3) := by decide +kernel
theorem dJ15_checkIndex_7cf53_6 : decode cJ15_checkIndex_7cf53 6 = .ok (.ireturn, 1) := by decide +kernel
theorem dJ8_newLength_cabcc_0 : decode cJ8_newLength_cabcc 0 = .ok (.iload_n 0, 1) := by decide +kernel
theorem dJ8_newLength_cabcc_1 : decode cJ8_newLength_cabcc 1 = .ok (.iload_n 1, 1) := by decide +kernel
theorem dJ8_newLength_cabcc_2 : decode cJ8_newLength_cabcc 2 = .ok (.iload_n 2, 1) := by decide +kernel
theorem dJ8_newLength_cabcc_3 : decode cJ8_newLength_cabcc 3 = .ok (.invokestatic 194, 3) := by decide +kernel
theorem dJ8_newLength_cabcc_6 : decode cJ8_newLength_cabcc 6 = .ok (.iadd, 1) := by decide +kernel
theorem dJ8_newLength_cabcc_7 : decode cJ8_newLength_cabcc 7 = .ok (.istore_n 3, 1) := by decide +kernel
theorem dJ8_newLength_cabcc_8 : decode cJ8_newLength_cabcc 8 = .ok (.iconst 0, 1) := by decide +kernel
theorem dJ8_newLength_cabcc_9 : decode cJ8_newLength_cabcc 9 = .ok (.iload_n 3, 1) := by decide +kernel
theorem dJ8_newLength_cabcc_10 : decode cJ8_newLength_cabcc 10 = .ok (.if_icmp .ge 11, 3) := by decide +kernel
theorem dJ8_newLength_cabcc_13 : decode cJ8_newLength_cabcc 13 = .ok (.iload_n 3, 1) := by decide +kernel
theorem dJ8_newLength_cabcc_14 : decode cJ8_newLength_cabcc 14 = .ok (.ldc 200, 2) := by decide +kernel
theorem dJ8_newLength_cabcc_16 : decode cJ8_newLength_cabcc 16 = .ok (.if_icmp .gt 5, 3) := by decide +kernel
theorem dJ8_newLength_cabcc_19 : decode cJ8_newLength_cabcc 19 = .ok (.iload_n 3, 1) := by decide +kernel
theorem dJ8_newLength_cabcc_20 : decode cJ8_newLength_cabcc 20 = .ok (.ireturn, 1) := by decide +kernel
theorem dJ8_newLength_cabcc_21 : decode cJ8_newLength_cabcc 21 = .ok (.iload_n 0, 1) := by decide +kernel
theorem dJ8_newLength_cabcc_22 : decode cJ8_newLength_cabcc 22 = .ok (.iload_n 1, 1) := by decide +kernel
theorem dJ8_newLength_cabcc_23 : decode cJ8_newLength_cabcc 23 = .ok (.invokestatic 201, 3) := by decide +kernel
theorem dJ8_newLength_cabcc_26 : decode cJ8_newLength_cabcc 26 = .ok (.ireturn, 1) := by decide +kernel
theorem dJ8_hugeLength_7cf53_0 : decode cJ8_hugeLength_7cf53 0 = .ok (.iload_n 0, 1) := by decide +kernel
theorem dJ8_hugeLength_7cf53_1 : decode cJ8_hugeLength_7cf53 1 = .ok (.iload_n 1, 1) := by decide +kernel
theorem dJ8_hugeLength_7cf53_2 : decode cJ8_hugeLength_7cf53 2 = .ok (.iadd, 1) := by decide +kernel
theorem dJ8_hugeLength_7cf53_3 : decode cJ8_hugeLength_7cf53 3 = .ok (.istore_n 2, 1) := by decide +kernel
theorem dJ8_hugeLength_7cf53_4 : decode cJ8_hugeLength_7cf53 4 = .ok (.iload_n 2, 1) := by decide +kernel
theorem dJ8_hugeLength_7cf53_5 : decode cJ8_hugeLength_7cf53 5 = .ok (.ifCond .ge 44, 3) := by decide +kernel
theorem dJ8_hugeLength_7cf53_8 : decode cJ8_hugeLength_7cf53 8 = .ok (.new 204, 3) := by decide +kernel
theorem dJ8_hugeLength_7cf53_11 : decode cJ8_hugeLength_7cf53 11 = .ok (.dup, 1) := by decide +kernel
theorem dJ8_hugeLength_7cf53_12 : decode cJ8_hugeLength_7cf53 12 = .ok (.new 89, 3) := by decide +kernel
theorem dJ8_hugeLength_7cf53_15 : decode cJ8_hugeLength_7cf53 15 = .ok (.dup, 1) := by decide +kernel
theorem dJ8_hugeLength_7cf53_16 : decode cJ8_hugeLength_7cf53 16 = .ok (.invokespecial 91, 3) := by decide +kernel
theorem dJ8_hugeLength_7cf53_19 : decode cJ8_hugeLength_7cf53 19 = .ok (.ldc 206, 2) := by decide +kernel
theorem dJ8_hugeLength_7cf53_21 : decode cJ8_hugeLength_7cf53 21 = .ok (.invokevirtual 94, 3) := by decide +kernel
theorem dJ8_hugeLength_7cf53_24 : decode cJ8_hugeLength_7cf53 24 = .ok (.iload_n 0, 1) := by decide +kernel
theorem dJ8_hugeLength_7cf53_25 : decode cJ8_hugeLength_7cf53 25 = .ok (.invokevirtual 98, 3) := by decide +kernel
theorem dJ8_hugeLength_7cf53_28 : decode cJ8_hugeLength_7cf53 28 = .ok (.ldc 208, 2) := by decide +kernel
theorem dJ8_hugeLength_7cf53_30 : decode cJ8_hugeLength_7cf53 30 = .ok (.invokevirtual 94, 3) := by decide +kernel
theorem dJ8_hugeLength_7cf53_33 : decode cJ8_hugeLength_7cf53 33 = .ok (.iload_n 1, 1) := by decide +kernel
theorem dJ8_hugeLength_7cf53_34 : decode cJ8_hugeLength_7cf53 34 = .ok (.invokevirtual 98, 3) := by decide +kernel
theorem dJ8_hugeLength_7cf53_37 : decode cJ8_hugeLength_7cf53 37 = .ok (.ldc 210, 2) := by decide +kernel
theorem dJ8_hugeLength_7cf53_39 : decode cJ8_hugeLength_7cf53 39 = .ok (.invokevirtual 94, 3) := by decide +kernel
theorem dJ8_hugeLength_7cf53_42 : decode cJ8_hugeLength_7cf53 42 = .ok (.invokevirtual 101, 3) := by decide +kernel
theorem dJ8_hugeLength_7cf53_45 : decode cJ8_hugeLength_7cf53 45 = .ok (.invokespecial 212, 3) := by decide +kernel
theorem dJ8_hugeLength_7cf53_48 : decode cJ8_hugeLength_7cf53 48 = .ok (.athrow, 1) := by decide +kernel
theorem dJ8_hugeLength_7cf53_49 : decode cJ8_hugeLength_7cf53 49 = .ok (.iload_n 2, 1) := by decide +kernel
theorem dJ8_hugeLength_7cf53_50 : decode cJ8_hugeLength_7cf53 50 = .ok (.ldc 200, 2) := by decide +kernel
theorem dJ8_hugeLength_7cf53_52 : decode cJ8_hugeLength_7cf53 52 = .ok (.if_icmp .gt 6, 3) := by decide +kernel
theorem dJ8_hugeLength_7cf53_55 : decode cJ8_hugeLength_7cf53 55 = .ok (.ldc 200, 2) := by decide +kernel
theorem dJ8_hugeLength_7cf53_57 : decode cJ8_hugeLength_7cf53 57 = .ok (.ireturn, 1) := by decide +kernel
theorem dJ8_hugeLength_7cf53_58 : decode cJ8_hugeLength_7cf53 58 = .ok (.iload_n 2, 1) := by decide +kernel
theorem dJ8_hugeLength_7cf53_59 : decode cJ8_hugeLength_7cf53 59 = .ok (.ireturn, 1) := by decide +kernel
theorem dJ3_checkIndex_8e157_0 : decode cJ3_checkIndex_8e157 0 = .ok (.iload_n 0, 1) := by decide +kernel
theorem dJ3_checkIndex_8e157_1 : decode cJ3_checkIndex_8e157 1 = .ok (.ifCond .lt 8, 3) := by decide +kernel
theorem dJ3_checkIndex_8e157_4 : decode cJ3_checkIndex_8e157 4 = .ok (.iload_n 0, 1) := by decide +kernel
theorem dJ3_checkIndex_8e157_5 : decode cJ3_checkIndex_8e157 5 = .ok (.iload_n 1, 1) := by decide +kernel
theorem dJ3_checkIndex_8e157_6 : decode cJ3_checkIndex_8e157 6 = .ok (.if_icmp .lt 10, 3) := by decide +kernel
theorem dJ3_checkIndex_8e157_9 : decode cJ3_checkIndex_8e157 9 = .ok (.aload_n 2, 1) := by decide +kernel
theorem dJ3_checkIndex_8e157_10 : decode cJ3_checkIndex_8e157 10 = .ok (.iload_n 0, 1) := by decide +kernel
theorem dJ3_checkIndex_8e157_11 : decode cJ3_checkIndex_8e157 11 = .ok (.iload_n 1, 1) := by decide +kernel
theorem dJ3_checkIndex_8e157_12 : decode cJ3_checkIndex_8e157 12 = .ok (.invokestatic 95, 3) := by decide +kernel
theorem dJ3_checkIndex_8e157_15 : decode cJ3_checkIndex_8e157 15 = .ok (.athrow, 1) := by decide +kernel
theorem dJ3_checkIndex_8e157_16 : decode cJ3_checkIndex_8e157 16 = .ok (.iload_n 0, 1) := by decide +kernel
theorem dJ3_checkIndex_8e157_17 : decode cJ3_checkIndex_8e157 17 = .ok (.ireturn, 1) := by decide +kernel
theorem dL_out_0 : decode cL_out 0 = .ok (.aload_n 2, 1) := by decide +kernel
theorem dL_out_1 : decode cL_out 1 = .ok (.iconst 0, 1) := by decide +kernel
theorem dL_out_2 : decode cL_out 2 = .ok (.aload_n 0, 1) := by decide +kernel
theorem dL_out_3 : decode cL_out 3 = .ok (.iload_n 1, 1) := by decide +kernel
theorem dL_out_4 : decode cL_out 4 = .ok (.invokevirtual 7, 3) := by decide +kernel
theorem dL_out_7 : decode cL_out 7 = .ok (.i2l, 1) := by decide +kernel
theorem dL_out_8 : decode cL_out 8 = .ok (.lastore, 1) := by decide +kernel
theorem dL_out_9 : decode cL_out 9 = .ok (.goto 6, 3) := by decide +kernel
theorem dL_out_12 : decode cL_out 12 = .ok (.astore_n 3, 1) := by decide +kernel
theorem dL_out_13 : decode cL_out 13 = .ok (.iconst 1, 1) := by decide +kernel
theorem dL_out_14 : decode cL_out 14 = .ok (.ireturn, 1) := by decide +kernel
theorem dL_out_15 : decode cL_out 15 = .ok (.iconst 0, 1) := by decide +kernel
theorem dL_out_16 : decode cL_out 16 = .ok (.ireturn, 1) := by decide +kernel
theorem dL_law_0 : decode cL_law 0 = .ok (.new 8, 3) := by decide +kernel
theorem dL_law_3 : decode cL_law 3 = .ok (.dup, 1) := by decide +kernel
theorem dL_law_4 : decode cL_law 4 = .ok (.invokespecial 15, 3) := by decide +kernel
theorem dL_law_7 : decode cL_law 7 = .ok (.astore_n 1, 1) := by decide +kernel
theorem dL_law_8 : decode cL_law 8 = .ok (.new 16, 3) := by decide +kernel
theorem dL_law_11 : decode cL_law 11 = .ok (.dup, 1) := by decide +kernel
theorem dL_law_12 : decode cL_law 12 = .ok (.invokespecial 18, 3) := by decide +kernel
theorem dL_law_15 : decode cL_law 15 = .ok (.astore_n 2, 1) := by decide +kernel
theorem dL_law_16 : decode cL_law 16 = .ok (.iconst 1, 1) := by decide +kernel
theorem dL_law_17 : decode cL_law 17 = .ok (.newarray .long, 2) := by decide +kernel
theorem dL_law_19 : decode cL_law 19 = .ok (.astore_n 3, 1) := by decide +kernel
theorem dL_law_20 : decode cL_law 20 = .ok (.iconst 0, 1) := by decide +kernel
theorem dL_law_21 : decode cL_law 21 = .ok (.istore 4, 2) := by decide +kernel
theorem dL_law_23 : decode cL_law 23 = .ok (.iload 4, 2) := by decide +kernel
theorem dL_law_25 : decode cL_law 25 = .ok (.aload_n 0, 1) := by decide +kernel
theorem dL_law_26 : decode cL_law 26 = .ok (.arraylength, 1) := by decide +kernel
theorem dL_law_27 : decode cL_law 27 = .ok (.iconst 5, 1) := by decide +kernel
theorem dL_law_28 : decode cL_law 28 = .ok (.isub, 1) := by decide +kernel
theorem dL_law_29 : decode cL_law 29 = .ok (.if_icmp .gt 555, 3) := by decide +kernel
theorem dL_law_32 : decode cL_law 32 = .ok (.aload_n 0, 1) := by decide +kernel
theorem dL_law_33 : decode cL_law 33 = .ok (.iload 4, 2) := by decide +kernel
theorem dL_law_35 : decode cL_law 35 = .ok (.iaload, 1) := by decide +kernel
theorem dL_law_36 : decode cL_law 36 = .ok (.bipush 15, 2) := by decide +kernel
theorem dL_law_38 : decode cL_law 38 = .ok (.iand, 1) := by decide +kernel
theorem dL_law_39 : decode cL_law 39 = .ok (.tableswitch 539 0 12 #[65, 88, 101, 138, 187, 236, 261, 342, 370, 395, 464, 489, 514], 65) := by decide +kernel
theorem dL_law_104 : decode cL_law 104 = .ok (.aload_n 1, 1) := by decide +kernel
theorem dL_law_105 : decode cL_law 105 = .ok (.aload_n 0, 1) := by decide +kernel
theorem dL_law_106 : decode cL_law 106 = .ok (.iload 4, 2) := by decide +kernel
theorem dL_law_108 : decode cL_law 108 = .ok (.iconst 1, 1) := by decide +kernel
theorem dL_law_109 : decode cL_law 109 = .ok (.iadd, 1) := by decide +kernel
theorem dL_law_110 : decode cL_law 110 = .ok (.iaload, 1) := by decide +kernel
theorem dL_law_111 : decode cL_law 111 = .ok (.invokevirtual 19, 3) := by decide +kernel
theorem dL_law_114 : decode cL_law 114 = .ok (.aload_n 2, 1) := by decide +kernel
theorem dL_law_115 : decode cL_law 115 = .ok (.aload_n 0, 1) := by decide +kernel
theorem dL_law_116 : decode cL_law 116 = .ok (.iload 4, 2) := by decide +kernel
theorem dL_law_118 : decode cL_law 118 = .ok (.iconst 1, 1) := by decide +kernel
theorem dL_law_119 : decode cL_law 119 = .ok (.iadd, 1) := by decide +kernel
theorem dL_law_120 : decode cL_law 120 = .ok (.iaload, 1) := by decide +kernel
theorem dL_law_121 : decode cL_law 121 = .ok (.invokevirtual 23, 3) := by decide +kernel
theorem dL_law_124 : decode cL_law 124 = .ok (.goto 454, 3) := by decide +kernel
theorem dL_law_127 : decode cL_law 127 = .ok (.aload_n 1, 1) := by decide +kernel
theorem dL_law_128 : decode cL_law 128 = .ok (.invokevirtual 24, 3) := by decide +kernel
theorem dL_law_131 : decode cL_law 131 = .ok (.pop, 1) := by decide +kernel
theorem dL_law_132 : decode cL_law 132 = .ok (.aload_n 2, 1) := by decide +kernel
theorem dL_law_133 : decode cL_law 133 = .ok (.invokevirtual 28, 3) := by decide +kernel
theorem dL_law_136 : decode cL_law 136 = .ok (.pop, 1) := by decide +kernel
theorem dL_law_137 : decode cL_law 137 = .ok (.goto 441, 3) := by decide +kernel
theorem dL_law_140 : decode cL_law 140 = .ok (.aload_n 1, 1) := by decide +kernel
theorem dL_law_141 : decode cL_law 141 = .ok (.aload_n 0, 1) := by decide +kernel
theorem dL_law_142 : decode cL_law 142 = .ok (.iload 4, 2) := by decide +kernel
theorem dL_law_144 : decode cL_law 144 = .ok (.iconst 1, 1) := by decide +kernel
theorem dL_law_145 : decode cL_law 145 = .ok (.iadd, 1) := by decide +kernel
theorem dL_law_146 : decode cL_law 146 = .ok (.iaload, 1) := by decide +kernel
theorem dL_law_147 : decode cL_law 147 = .ok (.aload_n 0, 1) := by decide +kernel
theorem dL_law_148 : decode cL_law 148 = .ok (.iload 4, 2) := by decide +kernel
theorem dL_law_150 : decode cL_law 150 = .ok (.iconst 2, 1) := by decide +kernel
theorem dL_law_151 : decode cL_law 151 = .ok (.iadd, 1) := by decide +kernel
theorem dL_law_152 : decode cL_law 152 = .ok (.iaload, 1) := by decide +kernel
theorem dL_law_153 : decode cL_law 153 = .ok (.invokevirtual 29, 3) := by decide +kernel
theorem dL_law_156 : decode cL_law 156 = .ok (.pop, 1) := by decide +kernel
theorem dL_law_157 : decode cL_law 157 = .ok (.aload_n 2, 1) := by decide +kernel
theorem dL_law_158 : decode cL_law 158 = .ok (.aload_n 0, 1) := by decide +kernel
theorem dL_law_159 : decode cL_law 159 = .ok (.iload 4, 2) := by decide +kernel
theorem dL_law_161 : decode cL_law 161 = .ok (.iconst 1, 1) := by decide +kernel
theorem dL_law_162 : decode cL_law 162 = .ok (.iadd, 1) := by decide +kernel
theorem dL_law_163 : decode cL_law 163 = .ok (.iaload, 1) := by decide +kernel
theorem dL_law_164 : decode cL_law 164 = .ok (.aload_n 0, 1) := by decide +kernel
theorem dL_law_165 : decode cL_law 165 = .ok (.iload 4, 2) := by decide +kernel
theorem dL_law_167 : decode cL_law 167 = .ok (.iconst 2, 1) := by decide +kernel
theorem dL_law_168 : decode cL_law 168 = .ok (.iadd, 1) := by decide +kernel
theorem dL_law_169 : decode cL_law 169 = .ok (.iaload, 1) := by decide +kernel
theorem dL_law_170 : decode cL_law 170 = .ok (.invokevirtual 33, 3) := by decide +kernel
theorem dL_law_173 : decode cL_law 173 = .ok (.pop, 1) := by decide +kernel
theorem dL_law_174 : decode cL_law 174 = .ok (.goto 404, 3) := by decide +kernel
theorem dL_law_177 : decode cL_law 177 = .ok (.aload_n 1, 1) := by decide +kernel
theorem dL_law_178 : decode cL_law 178 = .ok (.aload_n 0, 1) := by decide +kernel
theorem dL_law_179 : decode cL_law 179 = .ok (.iload 4, 2) := by decide +kernel
theorem dL_law_181 : decode cL_law 181 = .ok (.iconst 1, 1) := by decide +kernel
theorem dL_law_182 : decode cL_law 182 = .ok (.iadd, 1) := by decide +kernel
theorem dL_law_183 : decode cL_law 183 = .ok (.iaload, 1) := by decide +kernel
theorem dL_law_184 : decode cL_law 184 = .ok (.aload_n 0, 1) := by decide +kernel
theorem dL_law_185 : decode cL_law 185 = .ok (.iload 4, 2) := by decide +kernel
theorem dL_law_187 : decode cL_law 187 = .ok (.iconst 2, 1) := by decide +kernel
theorem dL_law_188 : decode cL_law 188 = .ok (.iadd, 1) := by decide +kernel
theorem dL_law_189 : decode cL_law 189 = .ok (.iaload, 1) := by decide +kernel
theorem dL_law_190 : decode cL_law 190 = .ok (.aload_n 0, 1) := by decide +kernel
theorem dL_law_191 : decode cL_law 191 = .ok (.iload 4, 2) := by decide +kernel
theorem dL_law_193 : decode cL_law 193 = .ok (.iconst 3, 1) := by decide +kernel
theorem dL_law_194 : decode cL_law 194 = .ok (.iadd, 1) := by decide +kernel
theorem dL_law_195 : decode cL_law 195 = .ok (.iaload, 1) := by decide +kernel
theorem dL_law_196 : decode cL_law 196 = .ok (.invokevirtual 34, 3) := by decide +kernel
theorem dL_law_199 : decode cL_law 199 = .ok (.pop, 1) := by decide +kernel
theorem dL_law_200 : decode cL_law 200 = .ok (.aload_n 2, 1) := by decide +kernel
theorem dL_law_201 : decode cL_law 201 = .ok (.aload_n 0, 1) := by decide +kernel
theorem dL_law_202 : decode cL_law 202 = .ok (.iload 4, 2) := by decide +kernel
theorem dL_law_204 : decode cL_law 204 = .ok (.iconst 1, 1) := by decide +kernel
theorem dL_law_205 : decode cL_law 205 = .ok (.iadd, 1) := by decide +kernel
theorem dL_law_206 : decode cL_law 206 = .ok (.iaload, 1) := by decide +kernel
theorem dL_law_207 : decode cL_law 207 = .ok (.aload_n 0, 1) := by decide +kernel
theorem dL_law_208 : decode cL_law 208 = .ok (.iload 4, 2) := by decide +kernel
theorem dL_law_210 : decode cL_law 210 = .ok (.iconst 2, 1) := by decide +kernel
theorem dL_law_211 : decode cL_law 211 = .ok (.iadd, 1) := by decide +kernel
theorem dL_law_212 : decode cL_law 212 = .ok (.iaload, 1) := by decide +kernel
theorem dL_law_213 : decode cL_law 213 = .ok (.aload_n 0, 1) := by decide +kernel
theorem dL_law_214 : decode cL_law 214 = .ok (.iload 4, 2) := by decide +kernel
theorem dL_law_216 : decode cL_law 216 = .ok (.iconst 3, 1) := by decide +kernel
theorem dL_law_217 : decode cL_law 217 = .ok (.iadd, 1) := by decide +kernel
theorem dL_law_218 : decode cL_law 218 = .ok (.iaload, 1) := by decide +kernel
theorem dL_law_219 : decode cL_law 219 = .ok (.invokevirtual 38, 3) := by decide +kernel
theorem dL_law_222 : decode cL_law 222 = .ok (.pop, 1) := by decide +kernel
theorem dL_law_223 : decode cL_law 223 = .ok (.goto 355, 3) := by decide +kernel
theorem dL_law_226 : decode cL_law 226 = .ok (.aload_n 1, 1) := by decide +kernel
theorem dL_law_227 : decode cL_law 227 = .ok (.aload_n 0, 1) := by decide +kernel
theorem dL_law_228 : decode cL_law 228 = .ok (.iload 4, 2) := by decide +kernel
theorem dL_law_230 : decode cL_law 230 = .ok (.iconst 1, 1) := by decide +kernel
theorem dL_law_231 : decode cL_law 231 = .ok (.iadd, 1) := by decide +kernel
theorem dL_law_232 : decode cL_law 232 = .ok (.iaload, 1) := by decide +kernel
theorem dL_law_233 : decode cL_law 233 = .ok (.aload_n 0, 1) := by decide +kernel
theorem dL_law_234 : decode cL_law 234 = .ok (.iload 4, 2) := by decide +kernel
theorem dL_law_236 : decode cL_law 236 = .ok (.iconst 2, 1) := by decide +kernel
theorem dL_law_237 : decode cL_law 237 = .ok (.iadd, 1) := by decide +kernel
theorem dL_law_238 : decode cL_law 238 = .ok (.iaload, 1) := by decide +kernel
theorem dL_law_239 : decode cL_law 239 = .ok (.aload_n 0, 1) := by decide +kernel
theorem dL_law_240 : decode cL_law 240 = .ok (.iload 4, 2) := by decide +kernel
theorem dL_law_242 : decode cL_law 242 = .ok (.iconst 3, 1) := by decide +kernel
theorem dL_law_243 : decode cL_law 243 = .ok (.iadd, 1) := by decide +kernel
theorem dL_law_244 : decode cL_law 244 = .ok (.iaload, 1) := by decide +kernel
theorem dL_law_245 : decode cL_law 245 = .ok (.invokevirtual 39, 3) := by decide +kernel
theorem dL_law_248 : decode cL_law 248 = .ok (.pop2, 1) := by decide +kernel
theorem dL_law_249 : decode cL_law 249 = .ok (.aload_n 2, 1) := by decide +kernel
theorem dL_law_250 : decode cL_law 250 = .ok (.aload_n 0, 1) := by decide +kernel
theorem dL_law_251 : decode cL_law 251 = .ok (.iload 4, 2) := by decide +kernel
theorem dL_law_253 : decode cL_law 253 = .ok (.iconst 1, 1) := by decide +kernel
theorem dL_law_254 : decode cL_law 254 = .ok (.iadd, 1) := by decide +kernel
theorem dL_law_255 : decode cL_law 255 = .ok (.iaload, 1) := by decide +kernel
theorem dL_law_256 : decode cL_law 256 = .ok (.aload_n 0, 1) := by decide +kernel
theorem dL_law_257 : decode cL_law 257 = .ok (.iload 4, 2) := by decide +kernel
theorem dL_law_259 : decode cL_law 259 = .ok (.iconst 2, 1) := by decide +kernel
theorem dL_law_260 : decode cL_law 260 = .ok (.iadd, 1) := by decide +kernel
theorem dL_law_261 : decode cL_law 261 = .ok (.iaload, 1) := by decide +kernel
theorem dL_law_262 : decode cL_law 262 = .ok (.aload_n 0, 1) := by decide +kernel
theorem dL_law_263 : decode cL_law 263 = .ok (.iload 4, 2) := by decide +kernel
theorem dL_law_265 : decode cL_law 265 = .ok (.iconst 3, 1) := by decide +kernel
theorem dL_law_266 : decode cL_law 266 = .ok (.iadd, 1) := by decide +kernel
theorem dL_law_267 : decode cL_law 267 = .ok (.iaload, 1) := by decide +kernel
theorem dL_law_268 : decode cL_law 268 = .ok (.invokevirtual 43, 3) := by decide +kernel
theorem dL_law_271 : decode cL_law 271 = .ok (.pop2, 1) := by decide +kernel
theorem dL_law_272 : decode cL_law 272 = .ok (.goto 306, 3) := by decide +kernel
theorem dL_law_275 : decode cL_law 275 = .ok (.aload_n 1, 1) := by decide +kernel
theorem dL_law_276 : decode cL_law 276 = .ok (.aload_n 0, 1) := by decide +kernel
theorem dL_law_277 : decode cL_law 277 = .ok (.iload 4, 2) := by decide +kernel
theorem dL_law_279 : decode cL_law 279 = .ok (.iconst 1, 1) := by decide +kernel
theorem dL_law_280 : decode cL_law 280 = .ok (.iadd, 1) := by decide +kernel
theorem dL_law_281 : decode cL_law 281 = .ok (.iaload, 1) := by decide +kernel
theorem dL_law_282 : decode cL_law 282 = .ok (.i2b, 1) := by decide +kernel
theorem dL_law_283 : decode cL_law 283 = .ok (.invokevirtual 44, 3) := by decide +kernel
theorem dL_law_286 : decode cL_law 286 = .ok (.aload_n 2, 1) := by decide +kernel
theorem dL_law_287 : decode cL_law 287 = .ok (.aload_n 0, 1) := by decide +kernel
theorem dL_law_288 : decode cL_law 288 = .ok (.iload 4, 2) := by decide +kernel
theorem dL_law_290 : decode cL_law 290 = .ok (.iconst 1, 1) := by decide +kernel
theorem dL_law_291 : decode cL_law 291 = .ok (.iadd, 1) := by decide +kernel
theorem dL_law_292 : decode cL_law 292 = .ok (.iaload, 1) := by decide +kernel
theorem dL_law_293 : decode cL_law 293 = .ok (.i2b, 1) := by decide +kernel
theorem dL_law_294 : decode cL_law 294 = .ok (.invokevirtual 48, 3) := by decide +kernel
theorem dL_law_297 : decode cL_law 297 = .ok (.goto 281, 3) := by decide +kernel
theorem dL_law_300 : decode cL_law 300 = .ok (.aload_n 1, 1) := by decide +kernel
theorem dL_law_301 : decode cL_law 301 = .ok (.aload_n 0, 1) := by decide +kernel
theorem dL_law_302 : decode cL_law 302 = .ok (.iload 4, 2) := by decide +kernel
theorem dL_law_304 : decode cL_law 304 = .ok (.iconst 1, 1) := by decide +kernel
theorem dL_law_305 : decode cL_law 305 = .ok (.iadd, 1) := by decide +kernel
theorem dL_law_306 : decode cL_law 306 = .ok (.iaload, 1) := by decide +kernel
theorem dL_law_307 : decode cL_law 307 = .ok (.aload_n 0, 1) := by decide +kernel
theorem dL_law_308 : decode cL_law 308 = .ok (.iload 4, 2) := by decide +kernel
theorem dL_law_310 : decode cL_law 310 = .ok (.iconst 2, 1) := by decide +kernel
theorem dL_law_311 : decode cL_law 311 = .ok (.iadd, 1) := by decide +kernel
theorem dL_law_312 : decode cL_law 312 = .ok (.iaload, 1) := by decide +kernel
theorem dL_law_313 : decode cL_law 313 = .ok (.aload_n 0, 1) := by decide +kernel
theorem dL_law_314 : decode cL_law 314 = .ok (.iload 4, 2) := by decide +kernel
theorem dL_law_316 : decode cL_law 316 = .ok (.iconst 3, 1) := by decide +kernel
theorem dL_law_317 : decode cL_law 317 = .ok (.iadd, 1) := by decide +kernel
theorem dL_law_318 : decode cL_law 318 = .ok (.iaload, 1) := by decide +kernel
theorem dL_law_319 : decode cL_law 319 = .ok (.i2l, 1) := by decide +kernel
theorem dL_law_320 : decode cL_law 320 = .ok (.bipush 32, 2) := by decide +kernel
theorem dL_law_322 : decode cL_law 322 = .ok (.lshl, 1) := by decide +kernel
theorem dL_law_323 : decode cL_law 323 = .ok (.aload_n 0, 1) := by decide +kernel
theorem dL_law_324 : decode cL_law 324 = .ok (.iload 4, 2) := by decide +kernel
theorem dL_law_326 : decode cL_law 326 = .ok (.iconst 4, 1) := by decide +kernel
theorem dL_law_327 : decode cL_law 327 = .ok (.iadd, 1) := by decide +kernel
theorem dL_law_328 : decode cL_law 328 = .ok (.iaload, 1) := by decide +kernel
theorem dL_law_329 : decode cL_law 329 = .ok (.i2l, 1) := by decide +kernel
theorem dL_law_330 : decode cL_law 330 = .ok (.ldc2_w 49, 3) := by decide +kernel
theorem dL_law_333 : decode cL_law 333 = .ok (.land, 1) := by decide +kernel
theorem dL_law_334 : decode cL_law 334 = .ok (.lor, 1) := by decide +kernel
theorem dL_law_335 : decode cL_law 335 = .ok (.invokevirtual 51, 3) := by decide +kernel
theorem dL_law_338 : decode cL_law 338 = .ok (.pop, 1) := by decide +kernel
theorem dL_law_339 : decode cL_law 339 = .ok (.aload_n 2, 1) := by decide +kernel
theorem dL_law_340 : decode cL_law 340 = .ok (.aload_n 0, 1) := by decide +kernel
theorem dL_law_341 : decode cL_law 341 = .ok (.iload 4, 2) := by decide +kernel
theorem dL_law_343 : decode cL_law 343 = .ok (.iconst 1, 1) := by decide +kernel
theorem dL_law_344 : decode cL_law 344 = .ok (.iadd, 1) := by decide +kernel
theorem dL_law_345 : decode cL_law 345 = .ok (.iaload, 1) := by decide +kernel
theorem dL_law_346 : decode cL_law 346 = .ok (.aload_n 0, 1) := by decide +kernel
theorem dL_law_347 : decode cL_law 347 = .ok (.iload 4, 2) := by decide +kernel
theorem dL_law_349 : decode cL_law 349 = .ok (.iconst 2, 1) := by decide +kernel
theorem dL_law_350 : decode cL_law 350 = .ok (.iadd, 1) := by decide +kernel
theorem dL_law_351 : decode cL_law 351 = .ok (.iaload, 1) := by decide +kernel
theorem dL_law_352 : decode cL_law 352 = .ok (.aload_n 0, 1) := by decide +kernel
theorem dL_law_353 : decode cL_law 353 = .ok (.iload 4, 2) := by decide +kernel
theorem dL_law_355 : decode cL_law 355 = .ok (.iconst 3, 1) := by decide +kernel
theorem dL_law_356 : decode cL_law 356 = .ok (.iadd, 1) := by decide +kernel
theorem dL_law_357 : decode cL_law 357 = .ok (.iaload, 1) := by decide +kernel
theorem dL_law_358 : decode cL_law 358 = .ok (.i2l, 1) := by decide +kernel
theorem dL_law_359 : decode cL_law 359 = .ok (.bipush 32, 2) := by decide +kernel
theorem dL_law_361 : decode cL_law 361 = .ok (.lshl, 1) := by decide +kernel
theorem dL_law_362 : decode cL_law 362 = .ok (.aload_n 0, 1) := by decide +kernel
theorem dL_law_363 : decode cL_law 363 = .ok (.iload 4, 2) := by decide +kernel
theorem dL_law_365 : decode cL_law 365 = .ok (.iconst 4, 1) := by decide +kernel
theorem dL_law_366 : decode cL_law 366 = .ok (.iadd, 1) := by decide +kernel
theorem dL_law_367 : decode cL_law 367 = .ok (.iaload, 1) := by decide +kernel
theorem dL_law_368 : decode cL_law 368 = .ok (.i2l, 1) := by decide +kernel
theorem dL_law_369 : decode cL_law 369 = .ok (.ldc2_w 49, 3) := by decide +kernel
theorem dL_law_372 : decode cL_law 372 = .ok (.land, 1) := by decide +kernel
theorem dL_law_373 : decode cL_law 373 = .ok (.lor, 1) := by decide +kernel
theorem dL_law_374 : decode cL_law 374 = .ok (.invokevirtual 55, 3) := by decide +kernel
theorem dL_law_377 : decode cL_law 377 = .ok (.pop, 1) := by decide +kernel
theorem dL_law_378 : decode cL_law 378 = .ok (.goto 200, 3) := by decide +kernel
theorem dL_law_381 : decode cL_law 381 = .ok (.aload_n 1, 1) := by decide +kernel
theorem dL_law_382 : decode cL_law 382 = .ok (.aload_n 0, 1) := by decide +kernel
theorem dL_law_383 : decode cL_law 383 = .ok (.iload 4, 2) := by decide +kernel
theorem dL_law_385 : decode cL_law 385 = .ok (.iconst 1, 1) := by decide +kernel
theorem dL_law_386 : decode cL_law 386 = .ok (.iadd, 1) := by decide +kernel
theorem dL_law_387 : decode cL_law 387 = .ok (.iaload, 1) := by decide +kernel
theorem dL_law_388 : decode cL_law 388 = .ok (.aload_n 3, 1) := by decide +kernel
theorem dL_law_389 : decode cL_law 389 = .ok (.invokestatic 56, 3) := by decide +kernel
theorem dL_law_392 : decode cL_law 392 = .ok (.istore 5, 2) := by decide +kernel
theorem dL_law_394 : decode cL_law 394 = .ok (.aload_n 2, 1) := by decide +kernel
theorem dL_law_395 : decode cL_law 395 = .ok (.aload_n 0, 1) := by decide +kernel
theorem dL_law_396 : decode cL_law 396 = .ok (.iload 4, 2) := by decide +kernel
theorem dL_law_398 : decode cL_law 398 = .ok (.iconst 1, 1) := by decide +kernel
theorem dL_law_399 : decode cL_law 399 = .ok (.iadd, 1) := by decide +kernel
theorem dL_law_400 : decode cL_law 400 = .ok (.iaload, 1) := by decide +kernel
theorem dL_law_401 : decode cL_law 401 = .ok (.invokevirtual 61, 3) := by decide +kernel
theorem dL_law_404 : decode cL_law 404 = .ok (.istore 6, 2) := by decide +kernel
theorem dL_law_406 : decode cL_law 406 = .ok (.goto 172, 3) := by decide +kernel
theorem dL_law_409 : decode cL_law 409 = .ok (.aload_n 1, 1) := by decide +kernel
theorem dL_law_410 : decode cL_law 410 = .ok (.aload_n 0, 1) := by decide +kernel
theorem dL_law_411 : decode cL_law 411 = .ok (.iload 4, 2) := by decide +kernel
theorem dL_law_413 : decode cL_law 413 = .ok (.iconst 1, 1) := by decide +kernel
theorem dL_law_414 : decode cL_law 414 = .ok (.iadd, 1) := by decide +kernel
theorem dL_law_415 : decode cL_law 415 = .ok (.iaload, 1) := by decide +kernel
theorem dL_law_416 : decode cL_law 416 = .ok (.invokevirtual 62, 3) := by decide +kernel
theorem dL_law_419 : decode cL_law 419 = .ok (.aload_n 2, 1) := by decide +kernel
theorem dL_law_420 : decode cL_law 420 = .ok (.aload_n 0, 1) := by decide +kernel
theorem dL_law_421 : decode cL_law 421 = .ok (.iload 4, 2) := by decide +kernel
theorem dL_law_423 : decode cL_law 423 = .ok (.iconst 1, 1) := by decide +kernel
theorem dL_law_424 : decode cL_law 424 = .ok (.iadd, 1) := by decide +kernel
theorem dL_law_425 : decode cL_law 425 = .ok (.iaload, 1) := by decide +kernel
theorem dL_law_426 : decode cL_law 426 = .ok (.invokevirtual 66, 3) := by decide +kernel
theorem dL_law_429 : decode cL_law 429 = .ok (.if_icmp .eq 149, 3) := by decide +kernel
theorem dL_law_432 : decode cL_law 432 = .ok (.iconst 0, 1) := by decide +kernel
theorem dL_law_433 : decode cL_law 433 = .ok (.ireturn, 1) := by decide +kernel
theorem dL_law_434 : decode cL_law 434 = .ok (.aload_n 1, 1) := by decide +kernel
theorem dL_law_435 : decode cL_law 435 = .ok (.aload_n 0, 1) := by decide +kernel
theorem dL_law_436 : decode cL_law 436 = .ok (.iload 4, 2) := by decide +kernel
theorem dL_law_438 : decode cL_law 438 = .ok (.iconst 1, 1) := by decide +kernel
theorem dL_law_439 : decode cL_law 439 = .ok (.iadd, 1) := by decide +kernel
theorem dL_law_440 : decode cL_law 440 = .ok (.iaload, 1) := by decide +kernel
theorem dL_law_441 : decode cL_law 441 = .ok (.aload_n 0, 1) := by decide +kernel
theorem dL_law_442 : decode cL_law 442 = .ok (.iload 4, 2) := by decide +kernel
theorem dL_law_444 : decode cL_law 444 = .ok (.iconst 2, 1) := by decide +kernel
theorem dL_law_445 : decode cL_law 445 = .ok (.iadd, 1) := by decide +kernel
theorem dL_law_446 : decode cL_law 446 = .ok (.iaload, 1) := by decide +kernel
theorem dL_law_447 : decode cL_law 447 = .ok (.i2l, 1) := by decide +kernel
theorem dL_law_448 : decode cL_law 448 = .ok (.bipush 32, 2) := by decide +kernel
theorem dL_law_450 : decode cL_law 450 = .ok (.lshl, 1) := by decide +kernel
theorem dL_law_451 : decode cL_law 451 = .ok (.aload_n 0, 1) := by decide +kernel
theorem dL_law_452 : decode cL_law 452 = .ok (.iload 4, 2) := by decide +kernel
theorem dL_law_454 : decode cL_law 454 = .ok (.iconst 3, 1) := by decide +kernel
theorem dL_law_455 : decode cL_law 455 = .ok (.iadd, 1) := by decide +kernel
theorem dL_law_456 : decode cL_law 456 = .ok (.iaload, 1) := by decide +kernel
theorem dL_law_457 : decode cL_law 457 = .ok (.i2l, 1) := by decide +kernel
theorem dL_law_458 : decode cL_law 458 = .ok (.ldc2_w 49, 3) := by decide +kernel
theorem dL_law_461 : decode cL_law 461 = .ok (.land, 1) := by decide +kernel
theorem dL_law_462 : decode cL_law 462 = .ok (.lor, 1) := by decide +kernel
theorem dL_law_463 : decode cL_law 463 = .ok (.invokevirtual 67, 3) := by decide +kernel
theorem dL_law_466 : decode cL_law 466 = .ok (.pop, 1) := by decide +kernel
theorem dL_law_467 : decode cL_law 467 = .ok (.aload_n 2, 1) := by decide +kernel
theorem dL_law_468 : decode cL_law 468 = .ok (.aload_n 0, 1) := by decide +kernel
theorem dL_law_469 : decode cL_law 469 = .ok (.iload 4, 2) := by decide +kernel
theorem dL_law_471 : decode cL_law 471 = .ok (.iconst 1, 1) := by decide +kernel
theorem dL_law_472 : decode cL_law 472 = .ok (.iadd, 1) := by decide +kernel
theorem dL_law_473 : decode cL_law 473 = .ok (.iaload, 1) := by decide +kernel
theorem dL_law_474 : decode cL_law 474 = .ok (.aload_n 0, 1) := by decide +kernel
theorem dL_law_475 : decode cL_law 475 = .ok (.iload 4, 2) := by decide +kernel
theorem dL_law_477 : decode cL_law 477 = .ok (.iconst 2, 1) := by decide +kernel
theorem dL_law_478 : decode cL_law 478 = .ok (.iadd, 1) := by decide +kernel
theorem dL_law_479 : decode cL_law 479 = .ok (.iaload, 1) := by decide +kernel
theorem dL_law_480 : decode cL_law 480 = .ok (.i2l, 1) := by decide +kernel
theorem dL_law_481 : decode cL_law 481 = .ok (.bipush 32, 2) := by decide +kernel
theorem dL_law_483 : decode cL_law 483 = .ok (.lshl, 1) := by decide +kernel
theorem dL_law_484 : decode cL_law 484 = .ok (.aload_n 0, 1) := by decide +kernel
theorem dL_law_485 : decode cL_law 485 = .ok (.iload 4, 2) := by decide +kernel
theorem dL_law_487 : decode cL_law 487 = .ok (.iconst 3, 1) := by decide +kernel
theorem dL_law_488 : decode cL_law 488 = .ok (.iadd, 1) := by decide +kernel
theorem dL_law_489 : decode cL_law 489 = .ok (.iaload, 1) := by decide +kernel
theorem dL_law_490 : decode cL_law 490 = .ok (.i2l, 1) := by decide +kernel
theorem dL_law_491 : decode cL_law 491 = .ok (.ldc2_w 49, 3) := by decide +kernel
theorem dL_law_494 : decode cL_law 494 = .ok (.land, 1) := by decide +kernel
theorem dL_law_495 : decode cL_law 495 = .ok (.lor, 1) := by decide +kernel
theorem dL_law_496 : decode cL_law 496 = .ok (.invokevirtual 71, 3) := by decide +kernel
theorem dL_law_499 : decode cL_law 499 = .ok (.pop, 1) := by decide +kernel
theorem dL_law_500 : decode cL_law 500 = .ok (.goto 78, 3) := by decide +kernel
theorem dL_law_503 : decode cL_law 503 = .ok (.aload_n 1, 1) := by decide +kernel
theorem dL_law_504 : decode cL_law 504 = .ok (.aload_n 0, 1) := by decide +kernel
theorem dL_law_505 : decode cL_law 505 = .ok (.iload 4, 2) := by decide +kernel
theorem dL_law_507 : decode cL_law 507 = .ok (.iconst 1, 1) := by decide +kernel
theorem dL_law_508 : decode cL_law 508 = .ok (.iadd, 1) := by decide +kernel
theorem dL_law_509 : decode cL_law 509 = .ok (.iaload, 1) := by decide +kernel
theorem dL_law_510 : decode cL_law 510 = .ok (.invokevirtual 72, 3) := by decide +kernel
theorem dL_law_513 : decode cL_law 513 = .ok (.pop, 1) := by decide +kernel
theorem dL_law_514 : decode cL_law 514 = .ok (.aload_n 2, 1) := by decide +kernel
theorem dL_law_515 : decode cL_law 515 = .ok (.aload_n 0, 1) := by decide +kernel
theorem dL_law_516 : decode cL_law 516 = .ok (.iload 4, 2) := by decide +kernel
theorem dL_law_518 : decode cL_law 518 = .ok (.iconst 1, 1) := by decide +kernel
theorem dL_law_519 : decode cL_law 519 = .ok (.iadd, 1) := by decide +kernel
theorem dL_law_520 : decode cL_law 520 = .ok (.iaload, 1) := by decide +kernel
theorem dL_law_521 : decode cL_law 521 = .ok (.invokevirtual 75, 3) := by decide +kernel
theorem dL_law_524 : decode cL_law 524 = .ok (.pop, 1) := by decide +kernel
theorem dL_law_525 : decode cL_law 525 = .ok (.goto 53, 3) := by decide +kernel
theorem dL_law_528 : decode cL_law 528 = .ok (.aload_n 1, 1) := by decide +kernel
theorem dL_law_529 : decode cL_law 529 = .ok (.aload_n 0, 1) := by decide +kernel
theorem dL_law_530 : decode cL_law 530 = .ok (.iload 4, 2) := by decide +kernel
theorem dL_law_532 : decode cL_law 532 = .ok (.iconst 1, 1) := by decide +kernel
theorem dL_law_533 : decode cL_law 533 = .ok (.iadd, 1) := by decide +kernel
theorem dL_law_534 : decode cL_law 534 = .ok (.iaload, 1) := by decide +kernel
theorem dL_law_535 : decode cL_law 535 = .ok (.invokevirtual 76, 3) := by decide +kernel
theorem dL_law_538 : decode cL_law 538 = .ok (.pop, 1) := by decide +kernel
theorem dL_law_539 : decode cL_law 539 = .ok (.aload_n 2, 1) := by decide +kernel
theorem dL_law_540 : decode cL_law 540 = .ok (.aload_n 0, 1) := by decide +kernel
theorem dL_law_541 : decode cL_law 541 = .ok (.iload 4, 2) := by decide +kernel
theorem dL_law_543 : decode cL_law 543 = .ok (.iconst 1, 1) := by decide +kernel
theorem dL_law_544 : decode cL_law 544 = .ok (.iadd, 1) := by decide +kernel
theorem dL_law_545 : decode cL_law 545 = .ok (.iaload, 1) := by decide +kernel
theorem dL_law_546 : decode cL_law 546 = .ok (.invokevirtual 79, 3) := by decide +kernel
theorem dL_law_549 : decode cL_law 549 = .ok (.pop, 1) := by decide +kernel
theorem dL_law_550 : decode cL_law 550 = .ok (.goto 28, 3) := by decide +kernel
theorem dL_law_553 : decode cL_law 553 = .ok (.aload_n 1, 1) := by decide +kernel
theorem dL_law_554 : decode cL_law 554 = .ok (.aload_n 0, 1) := by decide +kernel
theorem dL_law_555 : decode cL_law 555 = .ok (.iload 4, 2) := by decide +kernel
theorem dL_law_557 : decode cL_law 557 = .ok (.iconst 1, 1) := by decide +kernel
theorem dL_law_558 : decode cL_law 558 = .ok (.iadd, 1) := by decide +kernel
theorem dL_law_559 : decode cL_law 559 = .ok (.iaload, 1) := by decide +kernel
theorem dL_law_560 : decode cL_law 560 = .ok (.invokevirtual 80, 3) := by decide +kernel
theorem dL_law_563 : decode cL_law 563 = .ok (.pop, 1) := by decide +kernel
theorem dL_law_564 : decode cL_law 564 = .ok (.aload_n 2, 1) := by decide +kernel
theorem dL_law_565 : decode cL_law 565 = .ok (.aload_n 0, 1) := by decide +kernel
theorem dL_law_566 : decode cL_law 566 = .ok (.iload 4, 2) := by decide +kernel
theorem dL_law_568 : decode cL_law 568 = .ok (.iconst 1, 1) := by decide +kernel
theorem dL_law_569 : decode cL_law 569 = .ok (.iadd, 1) := by decide +kernel
theorem dL_law_570 : decode cL_law 570 = .ok (.iaload, 1) := by decide +kernel
theorem dL_law_571 : decode cL_law 571 = .ok (.invokevirtual 83, 3) := by decide +kernel
theorem dL_law_574 : decode cL_law 574 = .ok (.pop, 1) := by decide +kernel
theorem dL_law_575 : decode cL_law 575 = .ok (.goto 3, 3) := by decide +kernel
theorem dL_law_578 : decode cL_law 578 = .ok (.iinc 4 5, 3) := by decide +kernel
theorem dL_law_581 : decode cL_law 581 = .ok (.goto (-558), 3) := by decide +kernel
theorem dL_law_584 : decode cL_law 584 = .ok (.iconst 1, 1) := by decide +kernel
theorem dL_law_585 : decode cL_law 585 = .ok (.ireturn, 1) := by decide +kernel
