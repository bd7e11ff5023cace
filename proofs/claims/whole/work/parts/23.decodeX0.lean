theorem dX0_init_0 : decode cX0_init 0 = .ok (.aload_n 0, 1) := by decide +kernel
theorem dX0_init_1 : decode cX0_init 1 = .ok (.invokespecial 3, 3) := by decide +kernel
theorem dX0_init_4 : decode cX0_init 4 = .ok (.aload_n 0, 1) := by decide +kernel
theorem dX0_init_5 : decode cX0_init 5 = .ok (.new 9, 3) := by decide +kernel
theorem dX0_init_8 : decode cX0_init 8 = .ok (.dup, 1) := by decide +kernel
theorem dX0_init_9 : decode cX0_init 9 = .ok (.invokespecial 11, 3) := by decide +kernel
theorem dX0_init_12 : decode cX0_init 12 = .ok (.putfield 12, 3) := by decide +kernel
theorem dX0_init_15 : decode cX0_init 15 = .ok (.aload_n 0, 1) := by decide +kernel
theorem dX0_init_16 : decode cX0_init 16 = .ok (.new 9, 3) := by decide +kernel
theorem dX0_init_19 : decode cX0_init 19 = .ok (.dup, 1) := by decide +kernel
theorem dX0_init_20 : decode cX0_init 20 = .ok (.invokespecial 11, 3) := by decide +kernel
theorem dX0_init_23 : decode cX0_init 23 = .ok (.putfield 18, 3) := by decide +kernel
theorem dX0_init_26 : decode cX0_init 26 = .ok (.aload_n 0, 1) := by decide +kernel
theorem dX0_init_27 : decode cX0_init 27 = .ok (.new 9, 3) := by decide +kernel
theorem dX0_init_30 : decode cX0_init 30 = .ok (.dup, 1) := by decide +kernel
theorem dX0_init_31 : decode cX0_init 31 = .ok (.invokespecial 11, 3) := by decide +kernel
theorem dX0_init_34 : decode cX0_init 34 = .ok (.putfield 21, 3) := by decide +kernel
theorem dX0_init_37 : decode cX0_init 37 = .ok (.aload_n 0, 1) := by decide +kernel
theorem dX0_init_38 : decode cX0_init 38 = .ok (.new 9, 3) := by decide +kernel
theorem dX0_init_41 : decode cX0_init 41 = .ok (.dup, 1) := by decide +kernel
theorem dX0_init_42 : decode cX0_init 42 = .ok (.invokespecial 11, 3) := by decide +kernel
theorem dX0_init_45 : decode cX0_init 45 = .ok (.putfield 24, 3) := by decide +kernel
theorem dX0_init_48 : decode cX0_init 48 = .ok (.aload_n 0, 1) := by decide +kernel
theorem dX0_init_49 : decode cX0_init 49 = .ok (.new 9, 3) := by decide +kernel
theorem dX0_init_52 : decode cX0_init 52 = .ok (.dup, 1) := by decide +kernel
theorem dX0_init_53 : decode cX0_init 53 = .ok (.invokespecial 11, 3) := by decide +kernel
theorem dX0_init_56 : decode cX0_init 56 = .ok (.putfield 27, 3) := by decide +kernel
theorem dX0_init_59 : decode cX0_init 59 = .ok (.aload_n 0, 1) := by decide +kernel
theorem dX0_init_60 : decode cX0_init 60 = .ok (.new 30, 3) := by decide +kernel
theorem dX0_init_63 : decode cX0_init 63 = .ok (.dup, 1) := by decide +kernel
theorem dX0_init_64 : decode cX0_init 64 = .ok (.invokespecial 32, 3) := by decide +kernel
theorem dX0_init_67 : decode cX0_init 67 = .ok (.putfield 33, 3) := by decide +kernel
theorem dX0_init_70 : decode cX0_init 70 = .ok (.aload_n 0, 1) := by decide +kernel
theorem dX0_init_71 : decode cX0_init 71 = .ok (.new 30, 3) := by decide +kernel
theorem dX0_init_74 : decode cX0_init 74 = .ok (.dup, 1) := by decide +kernel
theorem dX0_init_75 : decode cX0_init 75 = .ok (.invokespecial 32, 3) := by decide +kernel
theorem dX0_init_78 : decode cX0_init 78 = .ok (.putfield 37, 3) := by decide +kernel
theorem dX0_init_81 : decode cX0_init 81 = .ok (.aload_n 0, 1) := by decide +kernel
theorem dX0_init_82 : decode cX0_init 82 = .ok (.new 30, 3) := by decide +kernel
theorem dX0_init_85 : decode cX0_init 85 = .ok (.dup, 1) := by decide +kernel
theorem dX0_init_86 : decode cX0_init 86 = .ok (.invokespecial 32, 3) := by decide +kernel
theorem dX0_init_89 : decode cX0_init 89 = .ok (.putfield 40, 3) := by decide +kernel
theorem dX0_init_92 : decode cX0_init 92 = .ok (.aload_n 0, 1) := by decide +kernel
theorem dX0_init_93 : decode cX0_init 93 = .ok (.new 30, 3) := by decide +kernel
theorem dX0_init_96 : decode cX0_init 96 = .ok (.dup, 1) := by decide +kernel
theorem dX0_init_97 : decode cX0_init 97 = .ok (.invokespecial 32, 3) := by decide +kernel
theorem dX0_init_100 : decode cX0_init 100 = .ok (.putfield 43, 3) := by decide +kernel
theorem dX0_init_103 : decode cX0_init 103 = .ok (.aload_n 0, 1) := by decide +kernel
theorem dX0_init_104 : decode cX0_init 104 = .ok (.new 30, 3) := by decide +kernel
theorem dX0_init_107 : decode cX0_init 107 = .ok (.dup, 1) := by decide +kernel
theorem dX0_init_108 : decode cX0_init 108 = .ok (.invokespecial 32, 3) := by decide +kernel
theorem dX0_init_111 : decode cX0_init 111 = .ok (.putfield 46, 3) := by decide +kernel
theorem dX0_init_114 : decode cX0_init 114 = .ok (.aload_n 0, 1) := by decide +kernel
theorem dX0_init_115 : decode cX0_init 115 = .ok (.new 30, 3) := by decide +kernel
theorem dX0_init_118 : decode cX0_init 118 = .ok (.dup, 1) := by decide +kernel
theorem dX0_init_119 : decode cX0_init 119 = .ok (.invokespecial 32, 3) := by decide +kernel
theorem dX0_init_122 : decode cX0_init 122 = .ok (.putfield 49, 3) := by decide +kernel
theorem dX0_init_125 : decode cX0_init 125 = .ok (.aload_n 0, 1) := by decide +kernel
theorem dX0_init_126 : decode cX0_init 126 = .ok (.new 30, 3) := by decide +kernel
theorem dX0_init_129 : decode cX0_init 129 = .ok (.dup, 1) := by decide +kernel
theorem dX0_init_130 : decode cX0_init 130 = .ok (.invokespecial 32, 3) := by decide +kernel
theorem dX0_init_133 : decode cX0_init 133 = .ok (.putfield 52, 3) := by decide +kernel
theorem dX0_init_136 : decode cX0_init 136 = .ok (.aload_n 0, 1) := by decide +kernel
theorem dX0_init_137 : decode cX0_init 137 = .ok (.new 30, 3) := by decide +kernel
theorem dX0_init_140 : decode cX0_init 140 = .ok (.dup, 1) := by decide +kernel
theorem dX0_init_141 : decode cX0_init 141 = .ok (.invokespecial 32, 3) := by decide +kernel
theorem dX0_init_144 : decode cX0_init 144 = .ok (.putfield 55, 3) := by decide +kernel
theorem dX0_init_147 : decode cX0_init 147 = .ok (.aload_n 0, 1) := by decide +kernel
theorem dX0_init_148 : decode cX0_init 148 = .ok (.new 30, 3) := by decide +kernel
theorem dX0_init_151 : decode cX0_init 151 = .ok (.dup, 1) := by decide +kernel
theorem dX0_init_152 : decode cX0_init 152 = .ok (.invokespecial 32, 3) := by decide +kernel
theorem dX0_init_155 : decode cX0_init 155 = .ok (.putfield 58, 3) := by decide +kernel
theorem dX0_init_158 : decode cX0_init 158 = .ok (.aload_n 0, 1) := by decide +kernel
theorem dX0_init_159 : decode cX0_init 159 = .ok (.new 30, 3) := by decide +kernel
theorem dX0_init_162 : decode cX0_init 162 = .ok (.dup, 1) := by decide +kernel
theorem dX0_init_163 : decode cX0_init 163 = .ok (.invokespecial 32, 3) := by decide +kernel
theorem dX0_init_166 : decode cX0_init 166 = .ok (.putfield 61, 3) := by decide +kernel
theorem dX0_init_169 : decode cX0_init 169 = .ok (.return_, 1) := by decide +kernel
theorem dX0_find_0 : decode cX0_find 0 = .ok (.aload_n 1, 1) := by decide +kernel
theorem dX0_find_1 : decode cX0_find 1 = .ok (.invokevirtual 64, 3) := by decide +kernel
theorem dX0_find_4 : decode cX0_find 4 = .ok (.ifCond .ne 10, 3) := by decide +kernel
theorem dX0_find_7 : decode cX0_find 7 = .ok (.aload_n 2, 1) := by decide +kernel
theorem dX0_find_8 : decode cX0_find 8 = .ok (.invokevirtual 64, 3) := by decide +kernel
theorem dX0_find_11 : decode cX0_find 11 = .ok (.ifCond .eq 47, 3) := by decide +kernel
theorem dX0_find_14 : decode cX0_find 14 = .ok (.aload_n 0, 1) := by decide +kernel
theorem dX0_find_15 : decode cX0_find 15 = .ok (.getfield 12, 3) := by decide +kernel
theorem dX0_find_18 : decode cX0_find 18 = .ok (.aload_n 1, 1) := by decide +kernel
theorem dX0_find_19 : decode cX0_find 19 = .ok (.invokevirtual 64, 3) := by decide +kernel
theorem dX0_find_22 : decode cX0_find 22 = .ok (.ifCond .eq 7, 3) := by decide +kernel
theorem dX0_find_25 : decode cX0_find 25 = .ok (.aload_n 2, 1) := by decide +kernel
theorem dX0_find_26 : decode cX0_find 26 = .ok (.goto 4, 3) := by decide +kernel
theorem dX0_find_29 : decode cX0_find 29 = .ok (.aload_n 1, 1) := by decide +kernel
theorem dX0_find_30 : decode cX0_find 30 = .ok (.invokevirtual 68, 3) := by decide +kernel
theorem dX0_find_33 : decode cX0_find 33 = .ok (.aload_n 0, 1) := by decide +kernel
theorem dX0_find_34 : decode cX0_find 34 = .ok (.getfield 12, 3) := by decide +kernel
theorem dX0_find_37 : decode cX0_find 37 = .ok (.aload_n 0, 1) := by decide +kernel
theorem dX0_find_38 : decode cX0_find 38 = .ok (.getfield 12, 3) := by decide +kernel
theorem dX0_find_41 : decode cX0_find 41 = .ok (.invokevirtual 72, 3) := by decide +kernel
theorem dX0_find_44 : decode cX0_find 44 = .ok (.invokestatic 76, 3) := by decide +kernel
theorem dX0_find_47 : decode cX0_find 47 = .ok (.invokevirtual 80, 3) := by decide +kernel
theorem dX0_find_50 : decode cX0_find 50 = .ok (.aload_n 0, 1) := by decide +kernel
theorem dX0_find_51 : decode cX0_find 51 = .ok (.aload_n 1, 1) := by decide +kernel
theorem dX0_find_52 : decode cX0_find 52 = .ok (.aload_n 2, 1) := by decide +kernel
theorem dX0_find_53 : decode cX0_find 53 = .ok (.invokevirtual 84, 3) := by decide +kernel
theorem dX0_find_56 : decode cX0_find 56 = .ok (.pop, 1) := by decide +kernel
theorem dX0_find_57 : decode cX0_find 57 = .ok (.return_, 1) := by decide +kernel
theorem dX0_find_58 : decode cX0_find 58 = .ok (.aload_n 0, 1) := by decide +kernel
theorem dX0_find_59 : decode cX0_find 59 = .ok (.aload_n 1, 1) := by decide +kernel
theorem dX0_find_60 : decode cX0_find 60 = .ok (.aload_n 2, 1) := by decide +kernel
theorem dX0_find_61 : decode cX0_find 61 = .ok (.invokevirtual 88, 3) := by decide +kernel
theorem dX0_find_64 : decode cX0_find 64 = .ok (.aload_n 1, 1) := by decide +kernel
theorem dX0_find_65 : decode cX0_find 65 = .ok (.invokevirtual 92, 3) := by decide +kernel
theorem dX0_find_68 : decode cX0_find 68 = .ok (.aload_n 0, 1) := by decide +kernel
theorem dX0_find_69 : decode cX0_find 69 = .ok (.getfield 37, 3) := by decide +kernel
theorem dX0_find_72 : decode cX0_find 72 = .ok (.getfield 95, 3) := by decide +kernel
theorem dX0_find_75 : decode cX0_find 75 = .ok (.isub, 1) := by decide +kernel
theorem dX0_find_76 : decode cX0_find 76 = .ok (.aload_n 2, 1) := by decide +kernel
theorem dX0_find_77 : decode cX0_find 77 = .ok (.invokevirtual 92, 3) := by decide +kernel
theorem dX0_find_80 : decode cX0_find 80 = .ok (.aload_n 0, 1) := by decide +kernel
theorem dX0_find_81 : decode cX0_find 81 = .ok (.getfield 40, 3) := by decide +kernel
theorem dX0_find_84 : decode cX0_find 84 = .ok (.getfield 95, 3) := by decide +kernel
theorem dX0_find_87 : decode cX0_find 87 = .ok (.isub, 1) := by decide +kernel
theorem dX0_find_88 : decode cX0_find 88 = .ok (.invokestatic 99, 3) := by decide +kernel
theorem dX0_find_91 : decode cX0_find 91 = .ok (.istore_n 3, 1) := by decide +kernel
theorem dX0_find_92 : decode cX0_find 92 = .ok (.iload_n 3, 1) := by decide +kernel
theorem dX0_find_93 : decode cX0_find 93 = .ok (.aload_n 0, 1) := by decide +kernel
theorem dX0_find_94 : decode cX0_find 94 = .ok (.getfield 46, 3) := by decide +kernel
theorem dX0_find_97 : decode cX0_find 97 = .ok (.getfield 95, 3) := by decide +kernel
theorem dX0_find_100 : decode cX0_find 100 = .ok (.iadd, 1) := by decide +kernel
theorem dX0_find_101 : decode cX0_find 101 = .ok (.iconst 1, 1) := by decide +kernel
theorem dX0_find_102 : decode cX0_find 102 = .ok (.iadd, 1) := by decide +kernel
theorem dX0_find_103 : decode cX0_find 103 = .ok (.istore 4, 2) := by decide +kernel
theorem dX0_find_105 : decode cX0_find 105 = .ok (.aload_n 1, 1) := by decide +kernel
theorem dX0_find_106 : decode cX0_find 106 = .ok (.invokevirtual 105, 3) := by decide +kernel
theorem dX0_find_109 : decode cX0_find 109 = .ok (.aload_n 2, 1) := by decide +kernel
theorem dX0_find_110 : decode cX0_find 110 = .ok (.invokevirtual 105, 3) := by decide +kernel
theorem dX0_find_113 : decode cX0_find 113 = .ok (.invokestatic 99, 3) := by decide +kernel
theorem dX0_find_116 : decode cX0_find 116 = .ok (.istore 5, 2) := by decide +kernel
theorem dX0_find_118 : decode cX0_find 118 = .ok (.iconst 0, 1) := by decide +kernel
theorem dX0_find_119 : decode cX0_find 119 = .ok (.istore 6, 2) := by decide +kernel
theorem dX0_find_121 : decode cX0_find 121 = .ok (.iconst 0, 1) := by decide +kernel
theorem dX0_find_122 : decode cX0_find 122 = .ok (.istore 7, 2) := by decide +kernel
theorem dX0_find_124 : decode cX0_find 124 = .ok (.iload 7, 2) := by decide +kernel
theorem dX0_find_126 : decode cX0_find 126 = .ok (.sipush 32003, 3) := by decide +kernel
theorem dX0_find_129 : decode cX0_find 129 = .ok (.if_icmp .ge 151, 3) := by decide +kernel
theorem dX0_find_132 : decode cX0_find 132 = .ok (.iload 5, 2) := by decide +kernel
theorem dX0_find_134 : decode cX0_find 134 = .ok (.ifCond .le 146, 3) := by decide +kernel
theorem dX0_find_137 : decode cX0_find 137 = .ok (.aload_n 0, 1) := by decide +kernel
theorem dX0_find_138 : decode cX0_find 138 = .ok (.aload_n 1, 1) := by decide +kernel
theorem dX0_find_139 : decode cX0_find 139 = .ok (.aload_n 2, 1) := by decide +kernel
theorem dX0_find_140 : decode cX0_find 140 = .ok (.iload 7, 2) := by decide +kernel
theorem dX0_find_142 : decode cX0_find 142 = .ok (.invokevirtual 108, 3) := by decide +kernel
theorem dX0_find_145 : decode cX0_find 145 = .ok (.ifCond .eq 129, 3) := by decide +kernel
theorem dX0_find_148 : decode cX0_find 148 = .ok (.aload_n 0, 1) := by decide +kernel
theorem dX0_find_149 : decode cX0_find 149 = .ok (.getfield 52, 3) := by decide +kernel
theorem dX0_find_152 : decode cX0_find 152 = .ok (.getfield 95, 3) := by decide +kernel
theorem dX0_find_155 : decode cX0_find 155 = .ok (.iload 5, 2) := by decide +kernel
theorem dX0_find_157 : decode cX0_find 157 = .ok (.if_icmp .le 6, 3) := by decide +kernel
theorem dX0_find_160 : decode cX0_find 160 = .ok (.goto 114, 3) := by decide +kernel
theorem dX0_find_163 : decode cX0_find 163 = .ok (.aload_n 0, 1) := by decide +kernel
theorem dX0_find_164 : decode cX0_find 164 = .ok (.getfield 52, 3) := by decide +kernel
theorem dX0_find_167 : decode cX0_find 167 = .ok (.getfield 95, 3) := by decide +kernel
theorem dX0_find_170 : decode cX0_find 170 = .ok (.ifCond .ne 6, 3) := by decide +kernel
theorem dX0_find_173 : decode cX0_find 173 = .ok (.goto 107, 3) := by decide +kernel
theorem dX0_find_176 : decode cX0_find 176 = .ok (.aload_n 0, 1) := by decide +kernel
theorem dX0_find_177 : decode cX0_find 177 = .ok (.getfield 52, 3) := by decide +kernel
theorem dX0_find_180 : decode cX0_find 180 = .ok (.getfield 95, 3) := by decide +kernel
theorem dX0_find_183 : decode cX0_find 183 = .ok (.iload 5, 2) := by decide +kernel
theorem dX0_find_185 : decode cX0_find 185 = .ok (.if_icmp .lt 8, 3) := by decide +kernel
theorem dX0_find_188 : decode cX0_find 188 = .ok (.iload 6, 2) := by decide +kernel
theorem dX0_find_190 : decode cX0_find 190 = .ok (.ifCond .ne 38, 3) := by decide +kernel
theorem dX0_find_193 : decode cX0_find 193 = .ok (.aload_n 0, 1) := by decide +kernel
theorem dX0_find_194 : decode cX0_find 194 = .ok (.getfield 52, 3) := by decide +kernel
theorem dX0_find_197 : decode cX0_find 197 = .ok (.getfield 95, 3) := by decide +kernel
theorem dX0_find_200 : decode cX0_find 200 = .ok (.istore 5, 2) := by decide +kernel
theorem dX0_find_202 : decode cX0_find 202 = .ok (.iconst 0, 1) := by decide +kernel
theorem dX0_find_203 : decode cX0_find 203 = .ok (.istore 6, 2) := by decide +kernel
theorem dX0_find_205 : decode cX0_find 205 = .ok (.aload_n 0, 1) := by decide +kernel
theorem dX0_find_206 : decode cX0_find 206 = .ok (.getfield 24, 3) := by decide +kernel
theorem dX0_find_209 : decode cX0_find 209 = .ok (.invokevirtual 112, 3) := by decide +kernel
theorem dX0_find_212 : decode cX0_find 212 = .ok (.aload_n 0, 1) := by decide +kernel
theorem dX0_find_213 : decode cX0_find 213 = .ok (.getfield 49, 3) := by decide +kernel
theorem dX0_find_216 : decode cX0_find 216 = .ok (.invokevirtual 115, 3) := by decide +kernel
theorem dX0_find_219 : decode cX0_find 219 = .ok (.aload_n 0, 1) := by decide +kernel
theorem dX0_find_220 : decode cX0_find 220 = .ok (.getfield 49, 3) := by decide +kernel
theorem dX0_find_223 : decode cX0_find 223 = .ok (.iconst 0, 1) := by decide +kernel
theorem dX0_find_224 : decode cX0_find 224 = .ok (.iconst 1, 1) := by decide +kernel
theorem dX0_find_225 : decode cX0_find 225 = .ok (.invokevirtual 116, 3) := by decide +kernel
theorem dX0_find_228 : decode cX0_find 228 = .ok (.aload_n 0, 1) := by decide +kernel
theorem dX0_find_229 : decode cX0_find 229 = .ok (.iload 7, 2) := by decide +kernel
theorem dX0_find_231 : decode cX0_find 231 = .ok (.invokevirtual 120, 3) := by decide +kernel
theorem dX0_find_234 : decode cX0_find 234 = .ok (.istore 8, 2) := by decide +kernel
theorem dX0_find_236 : decode cX0_find 236 = .ok (.iinc 6 1, 3) := by decide +kernel
theorem dX0_find_239 : decode cX0_find 239 = .ok (.iload 8, 2) := by decide +kernel
theorem dX0_find_241 : decode cX0_find 241 = .ok (.ifCond .ne 10, 3) := by decide +kernel
theorem dX0_find_244 : decode cX0_find 244 = .ok (.iload 6, 2) := by decide +kernel
theorem dX0_find_246 : decode cX0_find 246 = .ok (.iload 4, 2) := by decide +kernel
theorem dX0_find_248 : decode cX0_find 248 = .ok (.if_icmp .lt 13, 3) := by decide +kernel
theorem dX0_find_251 : decode cX0_find 251 = .ok (.aload_n 0, 1) := by decide +kernel
theorem dX0_find_252 : decode cX0_find 252 = .ok (.aload_n 1, 1) := by decide +kernel
theorem dX0_find_253 : decode cX0_find 253 = .ok (.aload_n 2, 1) := by decide +kernel
theorem dX0_find_254 : decode cX0_find 254 = .ok (.invokevirtual 124, 3) := by decide +kernel
theorem dX0_find_257 : decode cX0_find 257 = .ok (.ifCond .eq 4, 3) := by decide +kernel
theorem dX0_find_260 : decode cX0_find 260 = .ok (.return_, 1) := by decide +kernel
theorem dX0_find_261 : decode cX0_find 261 = .ok (.iload 6, 2) := by decide +kernel
theorem dX0_find_263 : decode cX0_find 263 = .ok (.iload 4, 2) := by decide +kernel
theorem dX0_find_265 : decode cX0_find 265 = .ok (.if_icmp .lt 9, 3) := by decide +kernel
theorem dX0_find_268 : decode cX0_find 268 = .ok (.iinc 5 (-1), 3) := by decide +kernel
theorem dX0_find_271 : decode cX0_find 271 = .ok (.iconst 0, 1) := by decide +kernel
theorem dX0_find_272 : decode cX0_find 272 = .ok (.istore 6, 2) := by decide +kernel
theorem dX0_find_274 : decode cX0_find 274 = .ok (.iinc 7 1, 3) := by decide +kernel
theorem dX0_find_277 : decode cX0_find 277 = .ok (.goto (-153), 3) := by decide +kernel
theorem dX0_find_280 : decode cX0_find 280 = .ok (.aload_n 0, 1) := by decide +kernel
theorem dX0_find_281 : decode cX0_find 281 = .ok (.getfield 12, 3) := by decide +kernel
theorem dX0_find_284 : decode cX0_find 284 = .ok (.invokevirtual 112, 3) := by decide +kernel
theorem dX0_find_287 : decode cX0_find 287 = .ok (.aload_n 0, 1) := by decide +kernel
theorem dX0_find_288 : decode cX0_find 288 = .ok (.getfield 12, 3) := by decide +kernel
theorem dX0_find_291 : decode cX0_find 291 = .ok (.iconst 0, 1) := by decide +kernel
theorem dX0_find_292 : decode cX0_find 292 = .ok (.invokevirtual 127, 3) := by decide +kernel
theorem dX0_find_295 : decode cX0_find 295 = .ok (.aload_n 0, 1) := by decide +kernel
theorem dX0_find_296 : decode cX0_find 296 = .ok (.getfield 33, 3) := by decide +kernel
theorem dX0_find_299 : decode cX0_find 299 = .ok (.invokevirtual 131, 3) := by decide +kernel
theorem dX0_find_302 : decode cX0_find 302 = .ok (.aload_n 0, 1) := by decide +kernel
theorem dX0_find_303 : decode cX0_find 303 = .ok (.aload_n 1, 1) := by decide +kernel
theorem dX0_find_304 : decode cX0_find 304 = .ok (.aload_n 2, 1) := by decide +kernel
theorem dX0_find_305 : decode cX0_find 305 = .ok (.invokevirtual 84, 3) := by decide +kernel
theorem dX0_find_308 : decode cX0_find 308 = .ok (.pop, 1) := by decide +kernel
theorem dX0_find_309 : decode cX0_find 309 = .ok (.return_, 1) := by decide +kernel
theorem dX0_findContents_0 : decode cX0_findContents 0 = .ok (.aload_n 0, 1) := by decide +kernel
theorem dX0_findContents_1 : decode cX0_findContents 1 = .ok (.aload_n 1, 1) := by decide +kernel
theorem dX0_findContents_2 : decode cX0_findContents 2 = .ok (.aload_n 0, 1) := by decide +kernel
theorem dX0_findContents_3 : decode cX0_findContents 3 = .ok (.getfield 37, 3) := by decide +kernel
theorem dX0_findContents_6 : decode cX0_findContents 6 = .ok (.invokevirtual 134, 3) := by decide +kernel
theorem dX0_findContents_9 : decode cX0_findContents 9 = .ok (.aload_n 0, 1) := by decide +kernel
theorem dX0_findContents_10 : decode cX0_findContents 10 = .ok (.aload_n 2, 1) := by decide +kernel
theorem dX0_findContents_11 : decode cX0_findContents 11 = .ok (.aload_n 0, 1) := by decide +kernel
theorem dX0_findContents_12 : decode cX0_findContents 12 = .ok (.getfield 40, 3) := by decide +kernel
theorem dX0_findContents_15 : decode cX0_findContents 15 = .ok (.invokevirtual 134, 3) := by decide +kernel
theorem dX0_findContents_18 : decode cX0_findContents 18 = .ok (.aload_n 0, 1) := by decide +kernel
theorem dX0_findContents_19 : decode cX0_findContents 19 = .ok (.aload_n 1, 1) := by decide +kernel
theorem dX0_findContents_20 : decode cX0_findContents 20 = .ok (.aload_n 0, 1) := by decide +kernel
theorem dX0_findContents_21 : decode cX0_findContents 21 = .ok (.getfield 37, 3) := by decide +kernel
theorem dX0_findContents_24 : decode cX0_findContents 24 = .ok (.aload_n 0, 1) := by decide +kernel
theorem dX0_findContents_25 : decode cX0_findContents 25 = .ok (.getfield 46, 3) := by decide +kernel
theorem dX0_findContents_28 : decode cX0_findContents 28 = .ok (.invokevirtual 138, 3) := by decide +kernel
theorem dX0_findContents_31 : decode cX0_findContents 31 = .ok (.aload_n 0, 1) := by decide +kernel
theorem dX0_findContents_32 : decode cX0_findContents 32 = .ok (.aload_n 2, 1) := by decide +kernel
theorem dX0_findContents_33 : decode cX0_findContents 33 = .ok (.aload_n 0, 1) := by decide +kernel
theorem dX0_findContents_34 : decode cX0_findContents 34 = .ok (.getfield 40, 3) := by decide +kernel
theorem dX0_findContents_37 : decode cX0_findContents 37 = .ok (.aload_n 0, 1) := by decide +kernel
theorem dX0_findContents_38 : decode cX0_findContents 38 = .ok (.getfield 61, 3) := by decide +kernel
theorem dX0_findContents_41 : decode cX0_findContents 41 = .ok (.invokevirtual 138, 3) := by decide +kernel
theorem dX0_findContents_44 : decode cX0_findContents 44 = .ok (.aload_n 0, 1) := by decide +kernel
theorem dX0_findContents_45 : decode cX0_findContents 45 = .ok (.getfield 46, 3) := by decide +kernel
theorem dX0_findContents_48 : decode cX0_findContents 48 = .ok (.aload_n 0, 1) := by decide +kernel
theorem dX0_findContents_49 : decode cX0_findContents 49 = .ok (.getfield 61, 3) := by decide +kernel
theorem dX0_findContents_52 : decode cX0_findContents 52 = .ok (.aload_n 0, 1) := by decide +kernel
theorem dX0_findContents_53 : decode cX0_findContents 53 = .ok (.getfield 55, 3) := by decide +kernel
theorem dX0_findContents_56 : decode cX0_findContents 56 = .ok (.invokevirtual 142, 3) := by decide +kernel
theorem dX0_findContents_59 : decode cX0_findContents 59 = .ok (.aload_n 0, 1) := by decide +kernel
theorem dX0_findContents_60 : decode cX0_findContents 60 = .ok (.getfield 33, 3) := by decide +kernel
theorem dX0_findContents_63 : decode cX0_findContents 63 = .ok (.aload_n 0, 1) := by decide +kernel
theorem dX0_findContents_64 : decode cX0_findContents 64 = .ok (.getfield 37, 3) := by decide +kernel
theorem dX0_findContents_67 : decode cX0_findContents 67 = .ok (.invokevirtual 131, 3) := by decide +kernel
theorem dX0_findContents_70 : decode cX0_findContents 70 = .ok (.aload_n 0, 1) := by decide +kernel
theorem dX0_findContents_71 : decode cX0_findContents 71 = .ok (.getfield 61, 3) := by decide +kernel
theorem dX0_findContents_74 : decode cX0_findContents 74 = .ok (.aload_n 0, 1) := by decide +kernel
theorem dX0_findContents_75 : decode cX0_findContents 75 = .ok (.getfield 40, 3) := by decide +kernel
theorem dX0_findContents_78 : decode cX0_findContents 78 = .ok (.invokevirtual 131, 3) := by decide +kernel
theorem dX0_findContents_81 : decode cX0_findContents 81 = .ok (.aload_n 0, 1) := by decide +kernel
theorem dX0_findContents_82 : decode cX0_findContents 82 = .ok (.getfield 33, 3) := by decide +kernel
theorem dX0_findContents_85 : decode cX0_findContents 85 = .ok (.aload_n 0, 1) := by decide +kernel
theorem dX0_findContents_86 : decode cX0_findContents 86 = .ok (.getfield 61, 3) := by decide +kernel
theorem dX0_findContents_89 : decode cX0_findContents 89 = .ok (.aload_n 0, 1) := by decide +kernel
theorem dX0_findContents_90 : decode cX0_findContents 90 = .ok (.getfield 55, 3) := by decide +kernel
theorem dX0_findContents_93 : decode cX0_findContents 93 = .ok (.invokevirtual 142, 3) := by decide +kernel
theorem dX0_findContents_96 : decode cX0_findContents 96 = .ok (.return_, 1) := by decide +kernel
theorem dX0_contentOf_0 : decode cX0_contentOf 0 = .ok (.aload_n 2, 1) := by decide +kernel
theorem dX0_contentOf_1 : decode cX0_contentOf 1 = .ok (.invokevirtual 115, 3) := by decide +kernel
theorem dX0_contentOf_4 : decode cX0_contentOf 4 = .ok (.bipush 12, 2) := by decide +kernel
theorem dX0_contentOf_6 : decode cX0_contentOf 6 = .ok (.istore_n 3, 1) := by decide +kernel
theorem dX0_contentOf_7 : decode cX0_contentOf 7 = .ok (.iload_n 3, 1) := by decide +kernel
theorem dX0_contentOf_8 : decode cX0_contentOf 8 = .ok (.ifCond .lt 40, 3) := by decide +kernel
theorem dX0_contentOf_11 : decode cX0_contentOf 11 = .ok (.aload_n 2, 1) := by decide +kernel
theorem dX0_contentOf_12 : decode cX0_contentOf 12 = .ok (.getfield 95, 3) := by decide +kernel
theorem dX0_contentOf_15 : decode cX0_contentOf 15 = .ok (.ifCond .eq 33, 3) := by decide +kernel
theorem dX0_contentOf_18 : decode cX0_contentOf 18 = .ok (.aload_n 0, 1) := by decide +kernel
theorem dX0_contentOf_19 : decode cX0_contentOf 19 = .ok (.getfield 61, 3) := by decide +kernel
theorem dX0_contentOf_22 : decode cX0_contentOf 22 = .ok (.aload_n 1, 1) := by decide +kernel
theorem dX0_contentOf_23 : decode cX0_contentOf 23 = .ok (.iload_n 3, 1) := by decide +kernel
theorem dX0_contentOf_24 : decode cX0_contentOf 24 = .ok (.invokevirtual 127, 3) := by decide +kernel
theorem dX0_contentOf_27 : decode cX0_contentOf 27 = .ok (.invokevirtual 131, 3) := by decide +kernel
theorem dX0_contentOf_30 : decode cX0_contentOf 30 = .ok (.aload_n 2, 1) := by decide +kernel
theorem dX0_contentOf_31 : decode cX0_contentOf 31 = .ok (.aload_n 0, 1) := by decide +kernel
theorem dX0_contentOf_32 : decode cX0_contentOf 32 = .ok (.getfield 61, 3) := by decide +kernel
theorem dX0_contentOf_35 : decode cX0_contentOf 35 = .ok (.aload_n 0, 1) := by decide +kernel
theorem dX0_contentOf_36 : decode cX0_contentOf 36 = .ok (.getfield 55, 3) := by decide +kernel
theorem dX0_contentOf_39 : decode cX0_contentOf 39 = .ok (.invokevirtual 142, 3) := by decide +kernel
theorem dX0_contentOf_42 : decode cX0_contentOf 42 = .ok (.iinc 3 (-1), 3) := by decide +kernel
theorem dX0_contentOf_45 : decode cX0_contentOf 45 = .ok (.goto (-38), 3) := by decide +kernel
theorem dX0_contentOf_48 : decode cX0_contentOf 48 = .ok (.return_, 1) := by decide +kernel
theorem dX0_leadOf_0 : decode cX0_leadOf 0 = .ok (.aload_n 0, 1) := by decide +kernel
theorem dX0_leadOf_1 : decode cX0_leadOf 1 = .ok (.getfield 52, 3) := by decide +kernel
theorem dX0_leadOf_4 : decode cX0_leadOf 4 = .ok (.aload_n 1, 1) := by decide +kernel
theorem dX0_leadOf_5 : decode cX0_leadOf 5 = .ok (.aload_n 1, 1) := by decide +kernel
theorem dX0_leadOf_6 : decode cX0_leadOf 6 = .ok (.invokevirtual 105, 3) := by decide +kernel
theorem dX0_leadOf_9 : decode cX0_leadOf 9 = .ok (.invokevirtual 127, 3) := by decide +kernel
theorem dX0_leadOf_12 : decode cX0_leadOf 12 = .ok (.invokevirtual 131, 3) := by decide +kernel
theorem dX0_leadOf_15 : decode cX0_leadOf 15 = .ok (.aload_n 0, 1) := by decide +kernel
theorem dX0_leadOf_16 : decode cX0_leadOf 16 = .ok (.getfield 52, 3) := by decide +kernel
theorem dX0_leadOf_19 : decode cX0_leadOf 19 = .ok (.aload_n 2, 1) := by decide +kernel
theorem dX0_leadOf_20 : decode cX0_leadOf 20 = .ok (.aload_n 3, 1) := by decide +kernel
theorem dX0_leadOf_21 : decode cX0_leadOf 21 = .ok (.invokevirtual 146, 3) := by decide +kernel
theorem dX0_leadOf_24 : decode cX0_leadOf 24 = .ok (.return_, 1) := by decide +kernel
theorem dX0_findImage_0 : decode cX0_findImage 0 = .ok (.aload_n 1, 1) := by decide +kernel
theorem dX0_findImage_1 : decode cX0_findImage 1 = .ok (.iload_n 3, 1) := by decide +kernel
theorem dX0_findImage_2 : decode cX0_findImage 2 = .ok (.aload_n 0, 1) := by decide +kernel
theorem dX0_findImage_3 : decode cX0_findImage 3 = .ok (.getfield 52, 3) := by decide +kernel
theorem dX0_findImage_6 : decode cX0_findImage 6 = .ok (.invokestatic 149, 3) := by decide +kernel
theorem dX0_findImage_9 : decode cX0_findImage 9 = .ok (.aload_n 2, 1) := by decide +kernel
theorem dX0_findImage_10 : decode cX0_findImage 10 = .ok (.iload_n 3, 1) := by decide +kernel
theorem dX0_findImage_11 : decode cX0_findImage 11 = .ok (.aload_n 0, 1) := by decide +kernel
theorem dX0_findImage_12 : decode cX0_findImage 12 = .ok (.getfield 61, 3) := by decide +kernel
theorem dX0_findImage_15 : decode cX0_findImage 15 = .ok (.invokestatic 149, 3) := by decide +kernel
theorem dX0_findImage_18 : decode cX0_findImage 18 = .ok (.aload_n 0, 1) := by decide +kernel
theorem dX0_findImage_19 : decode cX0_findImage 19 = .ok (.getfield 52, 3) := by decide +kernel
theorem dX0_findImage_22 : decode cX0_findImage 22 = .ok (.getfield 95, 3) := by decide +kernel
theorem dX0_findImage_25 : decode cX0_findImage 25 = .ok (.aload_n 1, 1) := by decide +kernel
theorem dX0_findImage_26 : decode cX0_findImage 26 = .ok (.invokevirtual 105, 3) := by decide +kernel
theorem dX0_findImage_29 : decode cX0_findImage 29 = .ok (.if_icmp .lt 17, 3) := by decide +kernel
theorem dX0_findImage_32 : decode cX0_findImage 32 = .ok (.aload_n 0, 1) := by decide +kernel
theorem dX0_findImage_33 : decode cX0_findImage 33 = .ok (.getfield 61, 3) := by decide +kernel
theorem dX0_findImage_36 : decode cX0_findImage 36 = .ok (.getfield 95, 3) := by decide +kernel
theorem dX0_findImage_39 : decode cX0_findImage 39 = .ok (.aload_n 2, 1) := by decide +kernel
theorem dX0_findImage_40 : decode cX0_findImage 40 = .ok (.invokevirtual 105, 3) := by decide +kernel
theorem dX0_findImage_43 : decode cX0_findImage 43 = .ok (.if_icmp .ge 5, 3) := by decide +kernel
theorem dX0_findImage_46 : decode cX0_findImage 46 = .ok (.iconst 0, 1) := by decide +kernel
theorem dX0_findImage_47 : decode cX0_findImage 47 = .ok (.ireturn, 1) := by decide +kernel
theorem dX0_findImage_48 : decode cX0_findImage 48 = .ok (.aload_n 0, 1) := by decide +kernel
theorem dX0_findImage_49 : decode cX0_findImage 49 = .ok (.getfield 52, 3) := by decide +kernel
theorem dX0_findImage_52 : decode cX0_findImage 52 = .ok (.aload_n 0, 1) := by decide +kernel
theorem dX0_findImage_53 : decode cX0_findImage 53 = .ok (.getfield 61, 3) := by decide +kernel
theorem dX0_findImage_56 : decode cX0_findImage 56 = .ok (.aload_n 0, 1) := by decide +kernel
theorem dX0_findImage_57 : decode cX0_findImage 57 = .ok (.getfield 55, 3) := by decide +kernel
theorem dX0_findImage_60 : decode cX0_findImage 60 = .ok (.invokevirtual 142, 3) := by decide +kernel
theorem dX0_findImage_63 : decode cX0_findImage 63 = .ok (.iconst 1, 1) := by decide +kernel
theorem dX0_findImage_64 : decode cX0_findImage 64 = .ok (.ireturn, 1) := by decide +kernel
theorem dX0_imageOf_0 : decode cX0_imageOf 0 = .ok (.aload_n 2, 1) := by decide +kernel
theorem dX0_imageOf_1 : decode cX0_imageOf 1 = .ok (.invokevirtual 115, 3) := by decide +kernel
theorem dX0_imageOf_4 : decode cX0_imageOf 4 = .ok (.aload_n 0, 1) := by decide +kernel
theorem dX0_imageOf_5 : decode cX0_imageOf 5 = .ok (.invokevirtual 105, 3) := by decide +kernel
theorem dX0_imageOf_8 : decode cX0_imageOf 8 = .ok (.istore_n 3, 1) := by decide +kernel
theorem dX0_imageOf_9 : decode cX0_imageOf 9 = .ok (.iload_n 3, 1) := by decide +kernel
theorem dX0_imageOf_10 : decode cX0_imageOf 10 = .ok (.ifCond .lt 23, 3) := by decide +kernel
theorem dX0_imageOf_13 : decode cX0_imageOf 13 = .ok (.aload_n 2, 1) := by decide +kernel
theorem dX0_imageOf_14 : decode cX0_imageOf 14 = .ok (.iload_n 3, 1) := by decide +kernel
theorem dX0_imageOf_15 : decode cX0_imageOf 15 = .ok (.aload_n 0, 1) := by decide +kernel
theorem dX0_imageOf_16 : decode cX0_imageOf 16 = .ok (.iload_n 3, 1) := by decide +kernel
theorem dX0_imageOf_17 : decode cX0_imageOf 17 = .ok (.invokevirtual 127, 3) := by decide +kernel
theorem dX0_imageOf_20 : decode cX0_imageOf 20 = .ok (.iload_n 1, 1) := by decide +kernel
theorem dX0_imageOf_21 : decode cX0_imageOf 21 = .ok (.invokevirtual 153, 3) := by decide +kernel
theorem dX0_imageOf_24 : decode cX0_imageOf 24 = .ok (.invokevirtual 116, 3) := by decide +kernel
theorem dX0_imageOf_27 : decode cX0_imageOf 27 = .ok (.iinc 3 (-1), 3) := by decide +kernel
theorem dX0_imageOf_30 : decode cX0_imageOf 30 = .ok (.goto (-21), 3) := by decide +kernel
theorem dX0_imageOf_33 : decode cX0_imageOf 33 = .ok (.return_, 1) := by decide +kernel
theorem dX0_takeIn_0 : decode cX0_takeIn 0 = .ok (.aload_n 0, 1) := by decide +kernel
theorem dX0_takeIn_1 : decode cX0_takeIn 1 = .ok (.getfield 46, 3) := by decide +kernel
theorem dX0_takeIn_4 : decode cX0_takeIn 4 = .ok (.iload_n 1, 1) := by decide +kernel
theorem dX0_takeIn_5 : decode cX0_takeIn 5 = .ok (.invokevirtual 153, 3) := by decide +kernel
theorem dX0_takeIn_8 : decode cX0_takeIn 8 = .ok (.istore_n 2, 1) := by decide +kernel
theorem dX0_takeIn_9 : decode cX0_takeIn 9 = .ok (.aload_n 0, 1) := by decide +kernel
theorem dX0_takeIn_10 : decode cX0_takeIn 10 = .ok (.getfield 49, 3) := by decide +kernel
theorem dX0_takeIn_13 : decode cX0_takeIn 13 = .ok (.iload_n 1, 1) := by decide +kernel
theorem dX0_takeIn_14 : decode cX0_takeIn 14 = .ok (.invokevirtual 153, 3) := by decide +kernel
theorem dX0_takeIn_17 : decode cX0_takeIn 17 = .ok (.invokestatic 76, 3) := by decide +kernel
theorem dX0_takeIn_20 : decode cX0_takeIn 20 = .ok (.istore_n 3, 1) := by decide +kernel
theorem dX0_takeIn_21 : decode cX0_takeIn 21 = .ok (.iconst 1, 1) := by decide +kernel
theorem dX0_takeIn_22 : decode cX0_takeIn 22 = .ok (.istore 4, 2) := by decide +kernel
theorem dX0_takeIn_24 : decode cX0_takeIn 24 = .ok (.iconst 0, 1) := by decide +kernel
theorem dX0_takeIn_25 : decode cX0_takeIn 25 = .ok (.istore 5, 2) := by decide +kernel
theorem dX0_takeIn_27 : decode cX0_takeIn 27 = .ok (.iload 5, 2) := by decide +kernel
theorem dX0_takeIn_29 : decode cX0_takeIn 29 = .ok (.aload_n 0, 1) := by decide +kernel
theorem dX0_takeIn_30 : decode cX0_takeIn 30 = .ok (.getfield 52, 3) := by decide +kernel
theorem dX0_takeIn_33 : decode cX0_takeIn 33 = .ok (.getfield 95, 3) := by decide +kernel
theorem dX0_takeIn_36 : decode cX0_takeIn 36 = .ok (.if_icmp .gt 92, 3) := by decide +kernel
theorem dX0_takeIn_39 : decode cX0_takeIn 39 = .ok (.iload 5, 2) := by decide +kernel
theorem dX0_takeIn_41 : decode cX0_takeIn 41 = .ok (.bipush 13, 2) := by decide +kernel
theorem dX0_takeIn_43 : decode cX0_takeIn 43 = .ok (.if_icmp .ge 85, 3) := by decide +kernel
theorem dX0_takeIn_46 : decode cX0_takeIn 46 = .ok (.aload_n 0, 1) := by decide +kernel
theorem dX0_takeIn_47 : decode cX0_takeIn 47 = .ok (.getfield 52, 3) := by decide +kernel
theorem dX0_takeIn_50 : decode cX0_takeIn 50 = .ok (.iload 5, 2) := by decide +kernel
theorem dX0_takeIn_52 : decode cX0_takeIn 52 = .ok (.invokevirtual 156, 3) := by decide +kernel
theorem dX0_takeIn_55 : decode cX0_takeIn 55 = .ok (.iload_n 2, 1) := by decide +kernel
theorem dX0_takeIn_56 : decode cX0_takeIn 56 = .ok (.imul, 1) := by decide +kernel
theorem dX0_takeIn_57 : decode cX0_takeIn 57 = .ok (.sipush 32003, 3) := by decide +kernel
theorem dX0_takeIn_60 : decode cX0_takeIn 60 = .ok (.irem, 1) := by decide +kernel
theorem dX0_takeIn_61 : decode cX0_takeIn 61 = .ok (.istore 6, 2) := by decide +kernel
theorem dX0_takeIn_63 : decode cX0_takeIn 63 = .ok (.iload 6, 2) := by decide +kernel
theorem dX0_takeIn_65 : decode cX0_takeIn 65 = .ok (.sipush 32003, 3) := by decide +kernel
theorem dX0_takeIn_68 : decode cX0_takeIn 68 = .ok (.iadd, 1) := by decide +kernel
theorem dX0_takeIn_69 : decode cX0_takeIn 69 = .ok (.aload_n 0, 1) := by decide +kernel
theorem dX0_takeIn_70 : decode cX0_takeIn 70 = .ok (.getfield 24, 3) := by decide +kernel
theorem dX0_takeIn_73 : decode cX0_takeIn 73 = .ok (.iload 5, 2) := by decide +kernel
theorem dX0_takeIn_75 : decode cX0_takeIn 75 = .ok (.invokevirtual 127, 3) := by decide +kernel
theorem dX0_takeIn_78 : decode cX0_takeIn 78 = .ok (.iload_n 1, 1) := by decide +kernel
theorem dX0_takeIn_79 : decode cX0_takeIn 79 = .ok (.invokevirtual 153, 3) := by decide +kernel
theorem dX0_takeIn_82 : decode cX0_takeIn 82 = .ok (.isub, 1) := by decide +kernel
theorem dX0_takeIn_83 : decode cX0_takeIn 83 = .ok (.sipush 32003, 3) := by decide +kernel
theorem dX0_takeIn_86 : decode cX0_takeIn 86 = .ok (.irem, 1) := by decide +kernel
theorem dX0_takeIn_87 : decode cX0_takeIn 87 = .ok (.istore 7, 2) := by decide +kernel
theorem dX0_takeIn_89 : decode cX0_takeIn 89 = .ok (.iload 7, 2) := by decide +kernel
theorem dX0_takeIn_91 : decode cX0_takeIn 91 = .ok (.ifCond .eq 31, 3) := by decide +kernel
theorem dX0_takeIn_94 : decode cX0_takeIn 94 = .ok (.aload_n 0, 1) := by decide +kernel
theorem dX0_takeIn_95 : decode cX0_takeIn 95 = .ok (.getfield 24, 3) := by decide +kernel
theorem dX0_takeIn_98 : decode cX0_takeIn 98 = .ok (.iload 5, 2) := by decide +kernel
theorem dX0_takeIn_100 : decode cX0_takeIn 100 = .ok (.invokevirtual 127, 3) := by decide +kernel
theorem dX0_takeIn_103 : decode cX0_takeIn 103 = .ok (.aload_n 0, 1) := by decide +kernel
theorem dX0_takeIn_104 : decode cX0_takeIn 104 = .ok (.getfield 49, 3) := by decide +kernel
theorem dX0_takeIn_107 : decode cX0_takeIn 107 = .ok (.iload 7, 2) := by decide +kernel
theorem dX0_takeIn_109 : decode cX0_takeIn 109 = .ok (.iload_n 3, 1) := by decide +kernel
theorem dX0_takeIn_110 : decode cX0_takeIn 110 = .ok (.imul, 1) := by decide +kernel
theorem dX0_takeIn_111 : decode cX0_takeIn 111 = .ok (.sipush 32003, 3) := by decide +kernel
theorem dX0_takeIn_114 : decode cX0_takeIn 114 = .ok (.irem, 1) := by decide +kernel
theorem dX0_takeIn_115 : decode cX0_takeIn 115 = .ok (.iconst 0, 1) := by decide +kernel
theorem dX0_takeIn_116 : decode cX0_takeIn 116 = .ok (.invokevirtual 159, 3) := by decide +kernel
theorem dX0_takeIn_119 : decode cX0_takeIn 119 = .ok (.iconst 0, 1) := by decide +kernel
theorem dX0_takeIn_120 : decode cX0_takeIn 120 = .ok (.istore 4, 2) := by decide +kernel
theorem dX0_takeIn_122 : decode cX0_takeIn 122 = .ok (.iinc 5 1, 3) := by decide +kernel
theorem dX0_takeIn_125 : decode cX0_takeIn 125 = .ok (.goto (-98), 3) := by decide +kernel
theorem dX0_takeIn_128 : decode cX0_takeIn 128 = .ok (.aload_n 0, 1) := by decide +kernel
theorem dX0_takeIn_129 : decode cX0_takeIn 129 = .ok (.getfield 49, 3) := by decide +kernel
theorem dX0_takeIn_132 : decode cX0_takeIn 132 = .ok (.iload_n 1, 1) := by decide +kernel
theorem dX0_takeIn_133 : decode cX0_takeIn 133 = .ok (.invokevirtual 163, 3) := by decide +kernel
theorem dX0_takeIn_136 : decode cX0_takeIn 136 = .ok (.iload 4, 2) := by decide +kernel
theorem dX0_takeIn_138 : decode cX0_takeIn 138 = .ok (.ireturn, 1) := by decide +kernel
theorem dX0_tryPieced_0 : decode cX0_tryPieced 0 = .ok (.aload_n 0, 1) := by decide +kernel
theorem dX0_tryPieced_1 : decode cX0_tryPieced 1 = .ok (.aload_n 0, 1) := by decide +kernel
theorem dX0_tryPieced_2 : decode cX0_tryPieced 2 = .ok (.getfield 24, 3) := by decide +kernel
theorem dX0_tryPieced_5 : decode cX0_tryPieced 5 = .ok (.aload_n 0, 1) := by decide +kernel
theorem dX0_tryPieced_6 : decode cX0_tryPieced 6 = .ok (.getfield 43, 3) := by decide +kernel
theorem dX0_tryPieced_9 : decode cX0_tryPieced 9 = .ok (.invokevirtual 134, 3) := by decide +kernel
theorem dX0_tryPieced_12 : decode cX0_tryPieced 12 = .ok (.aload_n 1, 1) := by decide +kernel
theorem dX0_tryPieced_13 : decode cX0_tryPieced 13 = .ok (.invokevirtual 92, 3) := by decide +kernel
theorem dX0_tryPieced_16 : decode cX0_tryPieced 16 = .ok (.aload_n 2, 1) := by decide +kernel
theorem dX0_tryPieced_17 : decode cX0_tryPieced 17 = .ok (.invokevirtual 92, 3) := by decide +kernel
theorem dX0_tryPieced_20 : decode cX0_tryPieced 20 = .ok (.invokestatic 99, 3) := by decide +kernel
theorem dX0_tryPieced_23 : decode cX0_tryPieced 23 = .ok (.istore_n 3, 1) := by decide +kernel
theorem dX0_tryPieced_24 : decode cX0_tryPieced 24 = .ok (.aload_n 0, 1) := by decide +kernel
theorem dX0_tryPieced_25 : decode cX0_tryPieced 25 = .ok (.getfield 24, 3) := by decide +kernel
theorem dX0_tryPieced_28 : decode cX0_tryPieced 28 = .ok (.invokevirtual 92, 3) := by decide +kernel
theorem dX0_tryPieced_31 : decode cX0_tryPieced 31 = .ok (.aload_n 0, 1) := by decide +kernel
theorem dX0_tryPieced_32 : decode cX0_tryPieced 32 = .ok (.getfield 43, 3) := by decide +kernel
theorem dX0_tryPieced_35 : decode cX0_tryPieced 35 = .ok (.getfield 95, 3) := by decide +kernel
theorem dX0_tryPieced_38 : decode cX0_tryPieced 38 = .ok (.isub, 1) := by decide +kernel
theorem dX0_tryPieced_39 : decode cX0_tryPieced 39 = .ok (.aload_n 0, 1) := by decide +kernel
theorem dX0_tryPieced_40 : decode cX0_tryPieced 40 = .ok (.getfield 33, 3) := by decide +kernel
theorem dX0_tryPieced_43 : decode cX0_tryPieced 43 = .ok (.getfield 95, 3) := by decide +kernel
theorem dX0_tryPieced_46 : decode cX0_tryPieced 46 = .ok (.iadd, 1) := by decide +kernel
theorem dX0_tryPieced_47 : decode cX0_tryPieced 47 = .ok (.iload_n 3, 1) := by decide +kernel
theorem dX0_tryPieced_48 : decode cX0_tryPieced 48 = .ok (.if_icmp .le 5, 3) := by decide +kernel
theorem dX0_tryPieced_51 : decode cX0_tryPieced 51 = .ok (.iconst 0, 1) := by decide +kernel
theorem dX0_tryPieced_52 : decode cX0_tryPieced 52 = .ok (.ireturn, 1) := by decide +kernel
theorem dX0_tryPieced_53 : decode cX0_tryPieced 53 = .ok (.aload_n 0, 1) := by decide +kernel
theorem dX0_tryPieced_54 : decode cX0_tryPieced 54 = .ok (.getfield 12, 3) := by decide +kernel
theorem dX0_tryPieced_57 : decode cX0_tryPieced 57 = .ok (.invokevirtual 112, 3) := by decide +kernel
theorem dX0_tryPieced_60 : decode cX0_tryPieced 60 = .ok (.aload_n 0, 1) := by decide +kernel
theorem dX0_tryPieced_61 : decode cX0_tryPieced 61 = .ok (.getfield 24, 3) := by decide +kernel
theorem dX0_tryPieced_64 : decode cX0_tryPieced 64 = .ok (.invokevirtual 105, 3) := by decide +kernel
theorem dX0_tryPieced_67 : decode cX0_tryPieced 67 = .ok (.istore 4, 2) := by decide +kernel
theorem dX0_tryPieced_69 : decode cX0_tryPieced 69 = .ok (.iload 4, 2) := by decide +kernel
theorem dX0_tryPieced_71 : decode cX0_tryPieced 71 = .ok (.ifCond .lt 61, 3) := by decide +kernel
theorem dX0_tryPieced_74 : decode cX0_tryPieced 74 = .ok (.aload_n 0, 1) := by decide +kernel
theorem dX0_tryPieced_75 : decode cX0_tryPieced 75 = .ok (.getfield 52, 3) := by decide +kernel
theorem dX0_tryPieced_78 : decode cX0_tryPieced 78 = .ok (.aload_n 0, 1) := by decide +kernel
theorem dX0_tryPieced_79 : decode cX0_tryPieced 79 = .ok (.getfield 24, 3) := by decide +kernel
theorem dX0_tryPieced_82 : decode cX0_tryPieced 82 = .ok (.iload 4, 2) := by decide +kernel
theorem dX0_tryPieced_84 : decode cX0_tryPieced 84 = .ok (.invokevirtual 127, 3) := by decide +kernel
theorem dX0_tryPieced_87 : decode cX0_tryPieced 87 = .ok (.invokevirtual 131, 3) := by decide +kernel
theorem dX0_tryPieced_90 : decode cX0_tryPieced 90 = .ok (.aload_n 0, 1) := by decide +kernel
theorem dX0_tryPieced_91 : decode cX0_tryPieced 91 = .ok (.getfield 52, 3) := by decide +kernel
theorem dX0_tryPieced_94 : decode cX0_tryPieced 94 = .ok (.aload_n 0, 1) := by decide +kernel
theorem dX0_tryPieced_95 : decode cX0_tryPieced 95 = .ok (.getfield 43, 3) := by decide +kernel
theorem dX0_tryPieced_98 : decode cX0_tryPieced 98 = .ok (.aload_n 0, 1) := by decide +kernel
theorem dX0_tryPieced_99 : decode cX0_tryPieced 99 = .ok (.getfield 58, 3) := by decide +kernel
theorem dX0_tryPieced_102 : decode cX0_tryPieced 102 = .ok (.invokevirtual 146, 3) := by decide +kernel
theorem dX0_tryPieced_105 : decode cX0_tryPieced 105 = .ok (.aload_n 0, 1) := by decide +kernel
theorem dX0_tryPieced_106 : decode cX0_tryPieced 106 = .ok (.getfield 12, 3) := by decide +kernel
theorem dX0_tryPieced_109 : decode cX0_tryPieced 109 = .ok (.iload 4, 2) := by decide +kernel
theorem dX0_tryPieced_111 : decode cX0_tryPieced 111 = .ok (.invokevirtual 127, 3) := by decide +kernel
theorem dX0_tryPieced_114 : decode cX0_tryPieced 114 = .ok (.aload_n 0, 1) := by decide +kernel
theorem dX0_tryPieced_115 : decode cX0_tryPieced 115 = .ok (.getfield 58, 3) := by decide +kernel
theorem dX0_tryPieced_118 : decode cX0_tryPieced 118 = .ok (.aload_n 0, 1) := by decide +kernel
theorem dX0_tryPieced_119 : decode cX0_tryPieced 119 = .ok (.getfield 33, 3) := by decide +kernel
theorem dX0_tryPieced_122 : decode cX0_tryPieced 122 = .ok (.iconst 1, 1) := by decide +kernel
theorem dX0_tryPieced_123 : decode cX0_tryPieced 123 = .ok (.invokevirtual 166, 3) := by decide +kernel
theorem dX0_tryPieced_126 : decode cX0_tryPieced 126 = .ok (.iinc 4 (-1), 3) := by decide +kernel
theorem dX0_tryPieced_129 : decode cX0_tryPieced 129 = .ok (.goto (-60), 3) := by decide +kernel
theorem dX0_tryPieced_132 : decode cX0_tryPieced 132 = .ok (.aload_n 0, 1) := by decide +kernel
theorem dX0_tryPieced_133 : decode cX0_tryPieced 133 = .ok (.getfield 12, 3) := by decide +kernel
theorem dX0_tryPieced_136 : decode cX0_tryPieced 136 = .ok (.aload_n 0, 1) := by decide +kernel
theorem dX0_tryPieced_137 : decode cX0_tryPieced 137 = .ok (.getfield 12, 3) := by decide +kernel
theorem dX0_tryPieced_140 : decode cX0_tryPieced 140 = .ok (.invokevirtual 72, 3) := by decide +kernel
theorem dX0_tryPieced_143 : decode cX0_tryPieced 143 = .ok (.invokestatic 76, 3) := by decide +kernel
theorem dX0_tryPieced_146 : decode cX0_tryPieced 146 = .ok (.invokevirtual 80, 3) := by decide +kernel
theorem dX0_tryPieced_149 : decode cX0_tryPieced 149 = .ok (.aload_n 0, 1) := by decide +kernel
theorem dX0_tryPieced_150 : decode cX0_tryPieced 150 = .ok (.aload_n 1, 1) := by decide +kernel
theorem dX0_tryPieced_151 : decode cX0_tryPieced 151 = .ok (.aload_n 2, 1) := by decide +kernel
theorem dX0_tryPieced_152 : decode cX0_tryPieced 152 = .ok (.invokevirtual 84, 3) := by decide +kernel
theorem dX0_tryPieced_155 : decode cX0_tryPieced 155 = .ok (.ireturn, 1) := by decide +kernel
theorem dX0_divideBoth_0 : decode cX0_divideBoth 0 = .ok (.aload_n 0, 1) := by decide +kernel
theorem dX0_divideBoth_1 : decode cX0_divideBoth 1 = .ok (.aload_n 1, 1) := by decide +kernel
theorem dX0_divideBoth_2 : decode cX0_divideBoth 2 = .ok (.aload_n 0, 1) := by decide +kernel
theorem dX0_divideBoth_3 : decode cX0_divideBoth 3 = .ok (.getfield 18, 3) := by decide +kernel
theorem dX0_divideBoth_6 : decode cX0_divideBoth 6 = .ok (.invokevirtual 170, 3) := by decide +kernel
theorem dX0_divideBoth_9 : decode cX0_divideBoth 9 = .ok (.ifCond .eq 19, 3) := by decide +kernel
theorem dX0_divideBoth_12 : decode cX0_divideBoth 12 = .ok (.aload_n 0, 1) := by decide +kernel
theorem dX0_divideBoth_13 : decode cX0_divideBoth 13 = .ok (.aload_n 2, 1) := by decide +kernel
theorem dX0_divideBoth_14 : decode cX0_divideBoth 14 = .ok (.aload_n 0, 1) := by decide +kernel
theorem dX0_divideBoth_15 : decode cX0_divideBoth 15 = .ok (.getfield 21, 3) := by decide +kernel
theorem dX0_divideBoth_18 : decode cX0_divideBoth 18 = .ok (.invokevirtual 170, 3) := by decide +kernel
theorem dX0_divideBoth_21 : decode cX0_divideBoth 21 = .ok (.ifCond .eq 7, 3) := by decide +kernel
theorem dX0_divideBoth_24 : decode cX0_divideBoth 24 = .ok (.iconst 1, 1) := by decide +kernel
theorem dX0_divideBoth_25 : decode cX0_divideBoth 25 = .ok (.goto 4, 3) := by decide +kernel
theorem dX0_divideBoth_28 : decode cX0_divideBoth 28 = .ok (.iconst 0, 1) := by decide +kernel
theorem dX0_divideBoth_29 : decode cX0_divideBoth 29 = .ok (.ireturn, 1) := by decide +kernel
theorem dX0_divide_0 : decode cX0_divide 0 = .ok (.aload_n 2, 1) := by decide +kernel
theorem dX0_divide_1 : decode cX0_divide 1 = .ok (.invokevirtual 112, 3) := by decide +kernel
theorem dX0_divide_4 : decode cX0_divide 4 = .ok (.aload_n 0, 1) := by decide +kernel
theorem dX0_divide_5 : decode cX0_divide 5 = .ok (.getfield 27, 3) := by decide +kernel
theorem dX0_divide_8 : decode cX0_divide 8 = .ok (.aload_n 1, 1) := by decide +kernel
theorem dX0_divide_9 : decode cX0_divide 9 = .ok (.invokevirtual 68, 3) := by decide +kernel
theorem dX0_divide_12 : decode cX0_divide 12 = .ok (.aload_n 0, 1) := by decide +kernel
theorem dX0_divide_13 : decode cX0_divide 13 = .ok (.getfield 12, 3) := by decide +kernel
theorem dX0_divide_16 : decode cX0_divide 16 = .ok (.invokevirtual 105, 3) := by decide +kernel
theorem dX0_divide_19 : decode cX0_divide 19 = .ok (.istore_n 3, 1) := by decide +kernel
theorem dX0_divide_20 : decode cX0_divide 20 = .ok (.aload_n 1, 1) := by decide +kernel
theorem dX0_divide_21 : decode cX0_divide 21 = .ok (.invokevirtual 92, 3) := by decide +kernel
theorem dX0_divide_24 : decode cX0_divide 24 = .ok (.aload_n 0, 1) := by decide +kernel
theorem dX0_divide_25 : decode cX0_divide 25 = .ok (.getfield 12, 3) := by decide +kernel
theorem dX0_divide_28 : decode cX0_divide 28 = .ok (.invokevirtual 92, 3) := by decide +kernel
theorem dX0_divide_31 : decode cX0_divide 31 = .ok (.isub, 1) := by decide +kernel
theorem dX0_divide_32 : decode cX0_divide 32 = .ok (.istore 4, 2) := by decide +kernel
theorem dX0_divide_34 : decode cX0_divide 34 = .ok (.iload_n 3, 1) := by decide +kernel
theorem dX0_divide_35 : decode cX0_divide 35 = .ok (.ifCond .ge 5, 3) := by decide +kernel
theorem dX0_divide_38 : decode cX0_divide 38 = .ok (.iconst 0, 1) := by decide +kernel
theorem dX0_divide_39 : decode cX0_divide 39 = .ok (.ireturn, 1) := by decide +kernel
theorem dX0_divide_40 : decode cX0_divide 40 = .ok (.aload_n 1, 1) := by decide +kernel
theorem dX0_divide_41 : decode cX0_divide 41 = .ok (.invokevirtual 105, 3) := by decide +kernel
theorem dX0_divide_44 : decode cX0_divide 44 = .ok (.iload_n 3, 1) := by decide +kernel
theorem dX0_divide_45 : decode cX0_divide 45 = .ok (.isub, 1) := by decide +kernel
theorem dX0_divide_46 : decode cX0_divide 46 = .ok (.istore 5, 2) := by decide +kernel
theorem dX0_divide_48 : decode cX0_divide 48 = .ok (.iload 5, 2) := by decide +kernel
theorem dX0_divide_50 : decode cX0_divide 50 = .ok (.ifCond .lt 108, 3) := by decide +kernel
theorem dX0_divide_53 : decode cX0_divide 53 = .ok (.aload_n 0, 1) := by decide +kernel
theorem dX0_divide_54 : decode cX0_divide 54 = .ok (.getfield 27, 3) := by decide +kernel
theorem dX0_divide_57 : decode cX0_divide 57 = .ok (.iload 5, 2) := by decide +kernel
theorem dX0_divide_59 : decode cX0_divide 59 = .ok (.iload_n 3, 1) := by decide +kernel
theorem dX0_divide_60 : decode cX0_divide 60 = .ok (.iadd, 1) := by decide +kernel
theorem dX0_divide_61 : decode cX0_divide 61 = .ok (.invokevirtual 127, 3) := by decide +kernel
theorem dX0_divide_64 : decode cX0_divide 64 = .ok (.aload_n 0, 1) := by decide +kernel
theorem dX0_divide_65 : decode cX0_divide 65 = .ok (.getfield 12, 3) := by decide +kernel
theorem dX0_divide_68 : decode cX0_divide 68 = .ok (.iload_n 3, 1) := by decide +kernel
theorem dX0_divide_69 : decode cX0_divide 69 = .ok (.invokevirtual 127, 3) := by decide +kernel
theorem dX0_divide_72 : decode cX0_divide 72 = .ok (.aload_n 0, 1) := by decide +kernel
theorem dX0_divide_73 : decode cX0_divide 73 = .ok (.getfield 58, 3) := by decide +kernel
theorem dX0_divide_76 : decode cX0_divide 76 = .ok (.invokevirtual 146, 3) := by decide +kernel
theorem dX0_divide_79 : decode cX0_divide 79 = .ok (.aload_n 0, 1) := by decide +kernel
theorem dX0_divide_80 : decode cX0_divide 80 = .ok (.getfield 58, 3) := by decide +kernel
theorem dX0_divide_83 : decode cX0_divide 83 = .ok (.getfield 95, 3) := by decide +kernel
theorem dX0_divide_86 : decode cX0_divide 86 = .ok (.iload 4, 2) := by decide +kernel
theorem dX0_divide_88 : decode cX0_divide 88 = .ok (.if_icmp .le 5, 3) := by decide +kernel
theorem dX0_divide_91 : decode cX0_divide 91 = .ok (.iconst 0, 1) := by decide +kernel
theorem dX0_divide_92 : decode cX0_divide 92 = .ok (.ireturn, 1) := by decide +kernel
theorem dX0_divide_93 : decode cX0_divide 93 = .ok (.aload_n 2, 1) := by decide +kernel
theorem dX0_divide_94 : decode cX0_divide 94 = .ok (.iload 5, 2) := by decide +kernel
theorem dX0_divide_96 : decode cX0_divide 96 = .ok (.invokevirtual 127, 3) := by decide +kernel
theorem dX0_divide_99 : decode cX0_divide 99 = .ok (.aload_n 0, 1) := by decide +kernel
theorem dX0_divide_100 : decode cX0_divide 100 = .ok (.getfield 58, 3) := by decide +kernel
theorem dX0_divide_103 : decode cX0_divide 103 = .ok (.invokevirtual 131, 3) := by decide +kernel
theorem dX0_divide_106 : decode cX0_divide 106 = .ok (.iconst 0, 1) := by decide +kernel
theorem dX0_divide_107 : decode cX0_divide 107 = .ok (.istore 6, 2) := by decide +kernel
theorem dX0_divide_109 : decode cX0_divide 109 = .ok (.iload 6, 2) := by decide +kernel
theorem dX0_divide_111 : decode cX0_divide 111 = .ok (.iload_n 3, 1) := by decide +kernel
theorem dX0_divide_112 : decode cX0_divide 112 = .ok (.if_icmp .ge 40, 3) := by decide +kernel
theorem dX0_divide_115 : decode cX0_divide 115 = .ok (.aload_n 0, 1) := by decide +kernel
theorem dX0_divide_116 : decode cX0_divide 116 = .ok (.getfield 27, 3) := by decide +kernel
theorem dX0_divide_119 : decode cX0_divide 119 = .ok (.iload 5, 2) := by decide +kernel
theorem dX0_divide_121 : decode cX0_divide 121 = .ok (.iload 6, 2) := by decide +kernel
theorem dX0_divide_123 : decode cX0_divide 123 = .ok (.iadd, 1) := by decide +kernel
theorem dX0_divide_124 : decode cX0_divide 124 = .ok (.invokevirtual 127, 3) := by decide +kernel
theorem dX0_divide_127 : decode cX0_divide 127 = .ok (.aload_n 0, 1) := by decide +kernel
theorem dX0_divide_128 : decode cX0_divide 128 = .ok (.getfield 58, 3) := by decide +kernel
theorem dX0_divide_131 : decode cX0_divide 131 = .ok (.aload_n 0, 1) := by decide +kernel
theorem dX0_divide_132 : decode cX0_divide 132 = .ok (.getfield 12, 3) := by decide +kernel
theorem dX0_divide_135 : decode cX0_divide 135 = .ok (.iload 6, 2) := by decide +kernel
theorem dX0_divide_137 : decode cX0_divide 137 = .ok (.invokevirtual 127, 3) := by decide +kernel
theorem dX0_divide_140 : decode cX0_divide 140 = .ok (.sipush 32002, 3) := by decide +kernel
theorem dX0_divide_143 : decode cX0_divide 143 = .ok (.invokevirtual 166, 3) := by decide +kernel
theorem dX0_divide_146 : decode cX0_divide 146 = .ok (.iinc 6 1, 3) := by decide +kernel
theorem dX0_divide_149 : decode cX0_divide 149 = .ok (.goto (-40), 3) := by decide +kernel
theorem dX0_divide_152 : decode cX0_divide 152 = .ok (.iinc 5 (-1), 3) := by decide +kernel
theorem dX0_divide_155 : decode cX0_divide 155 = .ok (.goto (-107), 3) := by decide +kernel
theorem dX0_divide_158 : decode cX0_divide 158 = .ok (.aload_n 0, 1) := by decide +kernel
theorem dX0_divide_159 : decode cX0_divide 159 = .ok (.getfield 27, 3) := by decide +kernel
theorem dX0_divide_162 : decode cX0_divide 162 = .ok (.invokevirtual 64, 3) := by decide +kernel
theorem dX0_divide_165 : decode cX0_divide 165 = .ok (.ireturn, 1) := by decide +kernel
