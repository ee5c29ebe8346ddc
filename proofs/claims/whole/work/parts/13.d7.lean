theorem dX12_change_135 : decode cX12_change 135 = .ok (.aload_n 0, 1) := by decide +kernel
theorem dX12_change_136 : decode cX12_change 136 = .ok (.getfield 94, 3) := by decide +kernel
theorem dX12_change_139 : decode cX12_change 139 = .ok (.iadd, 1) := by decide +kernel
theorem dX12_change_140 : decode cX12_change 140 = .ok (.putfield 88, 3) := by decide +kernel
theorem dX12_change_143 : decode cX12_change 143 = .ok (.aload_n 0, 1) := by decide +kernel
theorem dX12_change_144 : decode cX12_change 144 = .ok (.getfield 31, 3) := by decide +kernel
theorem dX12_change_147 : decode cX12_change 147 = .ok (.aload_n 0, 1) := by decide +kernel
theorem dX12_change_148 : decode cX12_change 148 = .ok (.dup, 1) := by decide +kernel
theorem dX12_change_149 : decode cX12_change 149 = .ok (.getfield 88, 3) := by decide +kernel
theorem dX12_change_152 : decode cX12_change 152 = .ok (.dup_x1, 1) := by decide +kernel
theorem dX12_change_153 : decode cX12_change 153 = .ok (.iconst 1, 1) := by decide +kernel
theorem dX12_change_154 : decode cX12_change 154 = .ok (.iadd, 1) := by decide +kernel
theorem dX12_change_155 : decode cX12_change 155 = .ok (.putfield 88, 3) := by decide +kernel
theorem dX12_change_158 : decode cX12_change 158 = .ok (.iload_n 1, 1) := by decide +kernel
theorem dX12_change_159 : decode cX12_change 159 = .ok (.ifCond .eq 10, 3) := by decide +kernel
theorem dX12_change_162 : decode cX12_change 162 = .ok (.aload_n 0, 1) := by decide +kernel
theorem dX12_change_163 : decode cX12_change 163 = .ok (.getfield 97, 3) := by decide +kernel
theorem dX12_change_166 : decode cX12_change 166 = .ok (.goto 4, 3) := by decide +kernel
theorem dX12_change_169 : decode cX12_change 169 = .ok (.iconst 0, 1) := by decide +kernel
theorem dX12_change_170 : decode cX12_change 170 = .ok (.i2b, 1) := by decide +kernel
theorem dX12_change_171 : decode cX12_change 171 = .ok (.bastore, 1) := by decide +kernel
theorem dX12_change_172 : decode cX12_change 172 = .ok (.iload_n 1, 1) := by decide +kernel
theorem dX12_change_173 : decode cX12_change 173 = .ok (.ifCond .eq 36, 3) := by decide +kernel
theorem dX12_change_176 : decode cX12_change 176 = .ok (.aload_n 0, 1) := by decide +kernel
theorem dX12_change_177 : decode cX12_change 177 = .ok (.getfield 13, 3) := by decide +kernel
theorem dX12_change_180 : decode cX12_change 180 = .ok (.iconst 0, 1) := by decide +kernel
theorem dX12_change_181 : decode cX12_change 181 = .ok (.aload_n 0, 1) := by decide +kernel
theorem dX12_change_182 : decode cX12_change 182 = .ok (.getfield 31, 3) := by decide +kernel
theorem dX12_change_185 : decode cX12_change 185 = .ok (.aload_n 0, 1) := by decide +kernel
theorem dX12_change_186 : decode cX12_change 186 = .ok (.getfield 88, 3) := by decide +kernel
theorem dX12_change_189 : decode cX12_change 189 = .ok (.aload_n 0, 1) := by decide +kernel
theorem dX12_change_190 : decode cX12_change 190 = .ok (.getfield 97, 3) := by decide +kernel
theorem dX12_change_193 : decode cX12_change 193 = .ok (.invokestatic 52, 3) := by decide +kernel
theorem dX12_change_196 : decode cX12_change 196 = .ok (.aload_n 0, 1) := by decide +kernel
theorem dX12_change_197 : decode cX12_change 197 = .ok (.dup, 1) := by decide +kernel
theorem dX12_change_198 : decode cX12_change 198 = .ok (.getfield 88, 3) := by decide +kernel
theorem dX12_change_201 : decode cX12_change 201 = .ok (.aload_n 0, 1) := by decide +kernel
theorem dX12_change_202 : decode cX12_change 202 = .ok (.getfield 97, 3) := by decide +kernel
theorem dX12_change_205 : decode cX12_change 205 = .ok (.iadd, 1) := by decide +kernel
theorem dX12_change_206 : decode cX12_change 206 = .ok (.putfield 88, 3) := by decide +kernel
theorem dX12_change_209 : decode cX12_change 209 = .ok (.aload_n 0, 1) := by decide +kernel
theorem dX12_change_210 : decode cX12_change 210 = .ok (.dup, 1) := by decide +kernel
theorem dX12_change_211 : decode cX12_change 211 = .ok (.getfield 85, 3) := by decide +kernel
theorem dX12_change_214 : decode cX12_change 214 = .ok (.iconst 1, 1) := by decide +kernel
theorem dX12_change_215 : decode cX12_change 215 = .ok (.iadd, 1) := by decide +kernel
theorem dX12_change_216 : decode cX12_change 216 = .ok (.putfield 85, 3) := by decide +kernel
theorem dX12_change_219 : decode cX12_change 219 = .ok (.aload_n 0, 1) := by decide +kernel
theorem dX12_change_220 : decode cX12_change 220 = .ok (.getfield 85, 3) := by decide +kernel
theorem dX12_change_223 : decode cX12_change 223 = .ok (.ireturn, 1) := by decide +kernel
theorem dX12_change_224 : decode cX12_change 224 = .ok (.aload_n 0, 1) := by decide +kernel
theorem dX12_change_225 : decode cX12_change 225 = .ok (.invokevirtual 100, 3) := by decide +kernel
theorem dX12_change_228 : decode cX12_change 228 = .ok (.aload_n 0, 1) := by decide +kernel
theorem dX12_change_229 : decode cX12_change 229 = .ok (.aload_n 0, 1) := by decide +kernel
theorem dX12_change_230 : decode cX12_change 230 = .ok (.getfield 9, 3) := by decide +kernel
theorem dX12_change_233 : decode cX12_change 233 = .ok (.iconst 0, 1) := by decide +kernel
theorem dX12_change_234 : decode cX12_change 234 = .ok (.aload_n 0, 1) := by decide +kernel
theorem dX12_change_235 : decode cX12_change 235 = .ok (.getfield 94, 3) := by decide +kernel
theorem dX12_change_238 : decode cX12_change 238 = .ok (.aload_n 0, 1) := by decide +kernel
theorem dX12_change_239 : decode cX12_change 239 = .ok (.getfield 13, 3) := by decide +kernel
theorem dX12_change_242 : decode cX12_change 242 = .ok (.iload_n 1, 1) := by decide +kernel
theorem dX12_change_243 : decode cX12_change 243 = .ok (.ifCond .eq 7, 3) := by decide +kernel
theorem dX12_change_246 : decode cX12_change 246 = .ok (.iconst 0, 1) := by decide +kernel
theorem dX12_change_247 : decode cX12_change 247 = .ok (.goto 4, 3) := by decide +kernel
theorem dX12_change_250 : decode cX12_change 250 = .ok (.iconst (-1), 1) := by decide +kernel
theorem dX12_change_251 : decode cX12_change 251 = .ok (.aload_n 0, 1) := by decide +kernel
theorem dX12_change_252 : decode cX12_change 252 = .ok (.getfield 97, 3) := by decide +kernel
theorem dX12_change_255 : decode cX12_change 255 = .ok (.invokevirtual 103, 3) := by decide +kernel
theorem dX12_change_258 : decode cX12_change 258 = .ok (.aload_n 0, 1) := by decide +kernel
theorem dX12_change_259 : decode cX12_change 259 = .ok (.getfield 20, 3) := by decide +kernel
theorem dX12_change_262 : decode cX12_change 262 = .ok (.iconst 0, 1) := by decide +kernel
theorem dX12_change_263 : decode cX12_change 263 = .ok (.aload_n 0, 1) := by decide +kernel
theorem dX12_change_264 : decode cX12_change 264 = .ok (.getfield 45, 3) := by decide +kernel
theorem dX12_change_267 : decode cX12_change 267 = .ok (.invokestatic 71, 3) := by decide +kernel
theorem dX12_change_270 : decode cX12_change 270 = .ok (.sipush 16000, 3) := by decide +kernel
theorem dX12_change_273 : decode cX12_change 273 = .ok (.if_icmp .le 10, 3) := by decide +kernel
theorem dX12_change_276 : decode cX12_change 276 = .ok (.aload_n 0, 1) := by decide +kernel
theorem dX12_change_277 : decode cX12_change 277 = .ok (.iconst 1, 1) := by decide +kernel
theorem dX12_change_278 : decode cX12_change 278 = .ok (.putfield 38, 3) := by decide +kernel
theorem dX12_change_281 : decode cX12_change 281 = .ok (.iconst 0, 1) := by decide +kernel
theorem dX12_change_282 : decode cX12_change 282 = .ok (.ireturn, 1) := by decide +kernel
theorem dX12_change_283 : decode cX12_change 283 = .ok (.aload_n 0, 1) := by decide +kernel
theorem dX12_change_284 : decode cX12_change 284 = .ok (.invokevirtual 107, 3) := by decide +kernel
theorem dX12_change_287 : decode cX12_change 287 = .ok (.ireturn, 1) := by decide +kernel
theorem dX12_put_0 : decode cX12_put 0 = .ok (.aload_n 0, 1) := by decide +kernel
theorem dX12_put_1 : decode cX12_put 1 = .ok (.iconst 1, 1) := by decide +kernel
theorem dX12_put_2 : decode cX12_put 2 = .ok (.invokevirtual 110, 3) := by decide +kernel
theorem dX12_put_5 : decode cX12_put 5 = .ok (.ireturn, 1) := by decide +kernel
theorem dX12_remove_0 : decode cX12_remove 0 = .ok (.aload_n 0, 1) := by decide +kernel
theorem dX12_remove_1 : decode cX12_remove 1 = .ok (.iconst 0, 1) := by decide +kernel
theorem dX12_remove_2 : decode cX12_remove 2 = .ok (.invokevirtual 110, 3) := by decide +kernel
theorem dX12_remove_5 : decode cX12_remove 5 = .ok (.ireturn, 1) := by decide +kernel
theorem dX12_commit_0 : decode cX12_commit 0 = .ok (.aload_n 0, 1) := by decide +kernel
theorem dX12_commit_1 : decode cX12_commit 1 = .ok (.aload_n 0, 1) := by decide +kernel
theorem dX12_commit_2 : decode cX12_commit 2 = .ok (.getfield 75, 3) := by decide +kernel
theorem dX12_commit_5 : decode cX12_commit 5 = .ok (.ifCond .ne 10, 3) := by decide +kernel
theorem dX12_commit_8 : decode cX12_commit 8 = .ok (.aload_n 0, 1) := by decide +kernel
theorem dX12_commit_9 : decode cX12_commit 9 = .ok (.getfield 82, 3) := by decide +kernel
theorem dX12_commit_12 : decode cX12_commit 12 = .ok (.ifCond .ne 7, 3) := by decide +kernel
theorem dX12_commit_15 : decode cX12_commit 15 = .ok (.iconst 1, 1) := by decide +kernel
theorem dX12_commit_16 : decode cX12_commit 16 = .ok (.goto 4, 3) := by decide +kernel
theorem dX12_commit_19 : decode cX12_commit 19 = .ok (.iconst 0, 1) := by decide +kernel
theorem dX12_commit_20 : decode cX12_commit 20 = .ok (.putfield 38, 3) := by decide +kernel
theorem dX12_commit_23 : decode cX12_commit 23 = .ok (.aload_n 0, 1) := by decide +kernel
theorem dX12_commit_24 : decode cX12_commit 24 = .ok (.getfield 38, 3) := by decide +kernel
theorem dX12_commit_27 : decode cX12_commit 27 = .ok (.ifCond .le 5, 3) := by decide +kernel
theorem dX12_commit_30 : decode cX12_commit 30 = .ok (.iconst 0, 1) := by decide +kernel
theorem dX12_commit_31 : decode cX12_commit 31 = .ok (.ireturn, 1) := by decide +kernel
theorem dX12_commit_32 : decode cX12_commit 32 = .ok (.aload_n 0, 1) := by decide +kernel
theorem dX12_commit_33 : decode cX12_commit 33 = .ok (.invokevirtual 100, 3) := by decide +kernel
theorem dX12_commit_36 : decode cX12_commit 36 = .ok (.iconst 0, 1) := by decide +kernel
theorem dX12_commit_37 : decode cX12_commit 37 = .ok (.istore_n 1, 1) := by decide +kernel
theorem dX12_commit_38 : decode cX12_commit 38 = .ok (.iconst 0, 1) := by decide +kernel
theorem dX12_commit_39 : decode cX12_commit 39 = .ok (.istore_n 2, 1) := by decide +kernel
theorem dX12_commit_40 : decode cX12_commit 40 = .ok (.iload_n 2, 1) := by decide +kernel
theorem dX12_commit_41 : decode cX12_commit 41 = .ok (.aload_n 0, 1) := by decide +kernel
theorem dX12_commit_42 : decode cX12_commit 42 = .ok (.getfield 85, 3) := by decide +kernel
theorem dX12_commit_45 : decode cX12_commit 45 = .ok (.if_icmp .ge 98, 3) := by decide +kernel
theorem dX12_commit_48 : decode cX12_commit 48 = .ok (.aload_n 0, 1) := by decide +kernel
theorem dX12_commit_49 : decode cX12_commit 49 = .ok (.getfield 31, 3) := by decide +kernel
theorem dX12_commit_52 : decode cX12_commit 52 = .ok (.iload_n 1, 1) := by decide +kernel
theorem dX12_commit_53 : decode cX12_commit 53 = .ok (.baload, 1) := by decide +kernel
theorem dX12_commit_54 : decode cX12_commit 54 = .ok (.iconst 1, 1) := by decide +kernel
theorem dX12_commit_55 : decode cX12_commit 55 = .ok (.if_icmp .ne 7, 3) := by decide +kernel
theorem dX12_commit_58 : decode cX12_commit 58 = .ok (.iconst 1, 1) := by decide +kernel
theorem dX12_commit_59 : decode cX12_commit 59 = .ok (.goto 4, 3) := by decide +kernel
theorem dX12_commit_62 : decode cX12_commit 62 = .ok (.iconst 0, 1) := by decide +kernel
theorem dX12_commit_63 : decode cX12_commit 63 = .ok (.istore_n 3, 1) := by decide +kernel
theorem dX12_commit_64 : decode cX12_commit 64 = .ok (.aload_n 0, 1) := by decide +kernel
theorem dX12_commit_65 : decode cX12_commit 65 = .ok (.getfield 31, 3) := by decide +kernel
theorem dX12_commit_68 : decode cX12_commit 68 = .ok (.iload_n 1, 1) := by decide +kernel
theorem dX12_commit_69 : decode cX12_commit 69 = .ok (.iconst 1, 1) := by decide +kernel
theorem dX12_commit_70 : decode cX12_commit 70 = .ok (.iadd, 1) := by decide +kernel
theorem dX12_commit_71 : decode cX12_commit 71 = .ok (.baload, 1) := by decide +kernel
theorem dX12_commit_72 : decode cX12_commit 72 = .ok (.istore 4, 2) := by decide +kernel
theorem dX12_commit_74 : decode cX12_commit 74 = .ok (.iload_n 1, 1) := by decide +kernel
theorem dX12_commit_75 : decode cX12_commit 75 = .ok (.iconst 2, 1) := by decide +kernel
theorem dX12_commit_76 : decode cX12_commit 76 = .ok (.iadd, 1) := by decide +kernel
theorem dX12_commit_77 : decode cX12_commit 77 = .ok (.istore 5, 2) := by decide +kernel
theorem dX12_commit_79 : decode cX12_commit 79 = .ok (.iload 5, 2) := by decide +kernel
theorem dX12_commit_81 : decode cX12_commit 81 = .ok (.iload 4, 2) := by decide +kernel
theorem dX12_commit_83 : decode cX12_commit 83 = .ok (.iadd, 1) := by decide +kernel
theorem dX12_commit_84 : decode cX12_commit 84 = .ok (.istore 6, 2) := by decide +kernel
theorem dX12_commit_86 : decode cX12_commit 86 = .ok (.aload_n 0, 1) := by decide +kernel
theorem dX12_commit_87 : decode cX12_commit 87 = .ok (.getfield 31, 3) := by decide +kernel
theorem dX12_commit_90 : decode cX12_commit 90 = .ok (.iload 6, 2) := by decide +kernel
theorem dX12_commit_92 : decode cX12_commit 92 = .ok (.baload, 1) := by decide +kernel
theorem dX12_commit_93 : decode cX12_commit 93 = .ok (.sipush 255, 3) := by decide +kernel
theorem dX12_commit_96 : decode cX12_commit 96 = .ok (.iand, 1) := by decide +kernel
theorem dX12_commit_97 : decode cX12_commit 97 = .ok (.istore 7, 2) := by decide +kernel
theorem dX12_commit_99 : decode cX12_commit 99 = .ok (.aload_n 0, 1) := by decide +kernel
theorem dX12_commit_100 : decode cX12_commit 100 = .ok (.aload_n 0, 1) := by decide +kernel
theorem dX12_commit_101 : decode cX12_commit 101 = .ok (.getfield 31, 3) := by decide +kernel
theorem dX12_commit_104 : decode cX12_commit 104 = .ok (.iload 5, 2) := by decide +kernel
theorem dX12_commit_106 : decode cX12_commit 106 = .ok (.iload 4, 2) := by decide +kernel
theorem dX12_commit_108 : decode cX12_commit 108 = .ok (.aload_n 0, 1) := by decide +kernel
theorem dX12_commit_109 : decode cX12_commit 109 = .ok (.getfield 31, 3) := by decide +kernel
theorem dX12_commit_112 : decode cX12_commit 112 = .ok (.iload_n 3, 1) := by decide +kernel
theorem dX12_commit_113 : decode cX12_commit 113 = .ok (.ifCond .eq 10, 3) := by decide +kernel
theorem dX12_commit_116 : decode cX12_commit 116 = .ok (.iload 6, 2) := by decide +kernel
theorem dX12_commit_118 : decode cX12_commit 118 = .ok (.iconst 1, 1) := by decide +kernel
theorem dX12_commit_119 : decode cX12_commit 119 = .ok (.iadd, 1) := by decide +kernel
theorem dX12_commit_120 : decode cX12_commit 120 = .ok (.goto 4, 3) := by decide +kernel
theorem dX12_commit_123 : decode cX12_commit 123 = .ok (.iconst (-1), 1) := by decide +kernel
theorem dX12_commit_124 : decode cX12_commit 124 = .ok (.iload 7, 2) := by decide +kernel
theorem dX12_commit_126 : decode cX12_commit 126 = .ok (.invokevirtual 103, 3) := by decide +kernel
theorem dX12_commit_129 : decode cX12_commit 129 = .ok (.iload 6, 2) := by decide +kernel
theorem dX12_commit_131 : decode cX12_commit 131 = .ok (.iconst 1, 1) := by decide +kernel
theorem dX12_commit_132 : decode cX12_commit 132 = .ok (.iadd, 1) := by decide +kernel
theorem dX12_commit_133 : decode cX12_commit 133 = .ok (.iload 7, 2) := by decide +kernel
theorem dX12_commit_135 : decode cX12_commit 135 = .ok (.iadd, 1) := by decide +kernel
theorem dX12_commit_136 : decode cX12_commit 136 = .ok (.istore_n 1, 1) := by decide +kernel
theorem dX12_commit_137 : decode cX12_commit 137 = .ok (.iinc 2 1, 3) := by decide +kernel
theorem dX12_commit_140 : decode cX12_commit 140 = .ok (.goto (-100), 3) := by decide +kernel
theorem dX12_commit_143 : decode cX12_commit 143 = .ok (.aload_n 0, 1) := by decide +kernel
theorem dX12_commit_144 : decode cX12_commit 144 = .ok (.iconst 0, 1) := by decide +kernel
theorem dX12_commit_145 : decode cX12_commit 145 = .ok (.putfield 82, 3) := by decide +kernel
theorem dX12_commit_148 : decode cX12_commit 148 = .ok (.aload_n 0, 1) := by decide +kernel
theorem dX12_commit_149 : decode cX12_commit 149 = .ok (.iconst 0, 1) := by decide +kernel
theorem dX12_commit_150 : decode cX12_commit 150 = .ok (.putfield 85, 3) := by decide +kernel
theorem dX12_commit_153 : decode cX12_commit 153 = .ok (.aload_n 0, 1) := by decide +kernel
theorem dX12_commit_154 : decode cX12_commit 154 = .ok (.iconst 0, 1) := by decide +kernel
theorem dX12_commit_155 : decode cX12_commit 155 = .ok (.putfield 88, 3) := by decide +kernel
theorem dX12_commit_158 : decode cX12_commit 158 = .ok (.aload_n 0, 1) := by decide +kernel
theorem dX12_commit_159 : decode cX12_commit 159 = .ok (.getfield 20, 3) := by decide +kernel
theorem dX12_commit_162 : decode cX12_commit 162 = .ok (.iconst 0, 1) := by decide +kernel
theorem dX12_commit_163 : decode cX12_commit 163 = .ok (.aload_n 0, 1) := by decide +kernel
theorem dX12_commit_164 : decode cX12_commit 164 = .ok (.getfield 45, 3) := by decide +kernel
theorem dX12_commit_167 : decode cX12_commit 167 = .ok (.invokestatic 71, 3) := by decide +kernel
theorem dX12_commit_170 : decode cX12_commit 170 = .ok (.sipush 16000, 3) := by decide +kernel
theorem dX12_commit_173 : decode cX12_commit 173 = .ok (.if_icmp .le 10, 3) := by decide +kernel
theorem dX12_commit_176 : decode cX12_commit 176 = .ok (.aload_n 0, 1) := by decide +kernel
theorem dX12_commit_177 : decode cX12_commit 177 = .ok (.iconst 1, 1) := by decide +kernel
theorem dX12_commit_178 : decode cX12_commit 178 = .ok (.putfield 38, 3) := by decide +kernel
theorem dX12_commit_181 : decode cX12_commit 181 = .ok (.iconst 0, 1) := by decide +kernel
theorem dX12_commit_182 : decode cX12_commit 182 = .ok (.ireturn, 1) := by decide +kernel
theorem dX12_commit_183 : decode cX12_commit 183 = .ok (.aload_n 0, 1) := by decide +kernel
theorem dX12_commit_184 : decode cX12_commit 184 = .ok (.iconst 0, 1) := by decide +kernel
theorem dX12_commit_185 : decode cX12_commit 185 = .ok (.putfield 38, 3) := by decide +kernel
theorem dX12_commit_188 : decode cX12_commit 188 = .ok (.aload_n 0, 1) := by decide +kernel
theorem dX12_commit_189 : decode cX12_commit 189 = .ok (.invokevirtual 107, 3) := by decide +kernel
theorem dX12_commit_192 : decode cX12_commit 192 = .ok (.istore_n 2, 1) := by decide +kernel
theorem dX12_commit_193 : decode cX12_commit 193 = .ok (.aload_n 0, 1) := by decide +kernel
theorem dX12_commit_194 : decode cX12_commit 194 = .ok (.getfield 38, 3) := by decide +kernel
theorem dX12_commit_197 : decode cX12_commit 197 = .ok (.iconst 3, 1) := by decide +kernel
theorem dX12_commit_198 : decode cX12_commit 198 = .ok (.if_icmp .ne 8, 3) := by decide +kernel
theorem dX12_commit_201 : decode cX12_commit 201 = .ok (.aload_n 0, 1) := by decide +kernel
theorem dX12_commit_202 : decode cX12_commit 202 = .ok (.iconst 2, 1) := by decide +kernel
theorem dX12_commit_203 : decode cX12_commit 203 = .ok (.putfield 38, 3) := by decide +kernel
theorem dX12_commit_206 : decode cX12_commit 206 = .ok (.iload_n 2, 1) := by decide +kernel
theorem dX12_commit_207 : decode cX12_commit 207 = .ok (.ireturn, 1) := by decide +kernel
theorem dX12_cancel_0 : decode cX12_cancel 0 = .ok (.aload_n 0, 1) := by decide +kernel
theorem dX12_cancel_1 : decode cX12_cancel 1 = .ok (.aload_n 0, 1) := by decide +kernel
theorem dX12_cancel_2 : decode cX12_cancel 2 = .ok (.getfield 75, 3) := by decide +kernel
theorem dX12_cancel_5 : decode cX12_cancel 5 = .ok (.ifCond .ne 10, 3) := by decide +kernel
theorem dX12_cancel_8 : decode cX12_cancel 8 = .ok (.aload_n 0, 1) := by decide +kernel
theorem dX12_cancel_9 : decode cX12_cancel 9 = .ok (.getfield 82, 3) := by decide +kernel
theorem dX12_cancel_12 : decode cX12_cancel 12 = .ok (.ifCond .ne 7, 3) := by decide +kernel
theorem dX12_cancel_15 : decode cX12_cancel 15 = .ok (.iconst 1, 1) := by decide +kernel
theorem dX12_cancel_16 : decode cX12_cancel 16 = .ok (.goto 4, 3) := by decide +kernel
theorem dX12_cancel_19 : decode cX12_cancel 19 = .ok (.iconst 0, 1) := by decide +kernel
theorem dX12_cancel_20 : decode cX12_cancel 20 = .ok (.putfield 38, 3) := by decide +kernel
theorem dX12_cancel_23 : decode cX12_cancel 23 = .ok (.aload_n 0, 1) := by decide +kernel
theorem dX12_cancel_24 : decode cX12_cancel 24 = .ok (.getfield 38, 3) := by decide +kernel
theorem dX12_cancel_27 : decode cX12_cancel 27 = .ok (.ifCond .le 5, 3) := by decide +kernel
theorem dX12_cancel_30 : decode cX12_cancel 30 = .ok (.iconst 0, 1) := by decide +kernel
theorem dX12_cancel_31 : decode cX12_cancel 31 = .ok (.ireturn, 1) := by decide +kernel
theorem dX12_cancel_32 : decode cX12_cancel 32 = .ok (.aload_n 0, 1) := by decide +kernel
theorem dX12_cancel_33 : decode cX12_cancel 33 = .ok (.getfield 85, 3) := by decide +kernel
theorem dX12_cancel_36 : decode cX12_cancel 36 = .ok (.istore_n 1, 1) := by decide +kernel
theorem dX12_cancel_37 : decode cX12_cancel 37 = .ok (.aload_n 0, 1) := by decide +kernel
theorem dX12_cancel_38 : decode cX12_cancel 38 = .ok (.iconst 0, 1) := by decide +kernel
theorem dX12_cancel_39 : decode cX12_cancel 39 = .ok (.putfield 82, 3) := by decide +kernel
theorem dX12_cancel_42 : decode cX12_cancel 42 = .ok (.aload_n 0, 1) := by decide +kernel
theorem dX12_cancel_43 : decode cX12_cancel 43 = .ok (.iconst 0, 1) := by decide +kernel
theorem dX12_cancel_44 : decode cX12_cancel 44 = .ok (.putfield 85, 3) := by decide +kernel
theorem dX12_cancel_47 : decode cX12_cancel 47 = .ok (.aload_n 0, 1) := by decide +kernel
theorem dX12_cancel_48 : decode cX12_cancel 48 = .ok (.iconst 0, 1) := by decide +kernel
theorem dX12_cancel_49 : decode cX12_cancel 49 = .ok (.putfield 88, 3) := by decide +kernel
theorem dX12_cancel_52 : decode cX12_cancel 52 = .ok (.iload_n 1, 1) := by decide +kernel
theorem dX12_cancel_53 : decode cX12_cancel 53 = .ok (.ireturn, 1) := by decide +kernel
theorem dX12_snapshot_0 : decode cX12_snapshot 0 = .ok (.iconst 0, 1) := by decide +kernel
theorem dX12_snapshot_1 : decode cX12_snapshot 1 = .ok (.istore_n 1, 1) := by decide +kernel
theorem dX12_snapshot_2 : decode cX12_snapshot 2 = .ok (.iload_n 1, 1) := by decide +kernel
theorem dX12_snapshot_3 : decode cX12_snapshot 3 = .ok (.bipush 8, 2) := by decide +kernel
theorem dX12_snapshot_5 : decode cX12_snapshot 5 = .ok (.if_icmp .ge 21, 3) := by decide +kernel
theorem dX12_snapshot_8 : decode cX12_snapshot 8 = .ok (.aload_n 0, 1) := by decide +kernel
theorem dX12_snapshot_9 : decode cX12_snapshot 9 = .ok (.getfield 91, 3) := by decide +kernel
theorem dX12_snapshot_12 : decode cX12_snapshot 12 = .ok (.iload_n 1, 1) := by decide +kernel
theorem dX12_snapshot_13 : decode cX12_snapshot 13 = .ok (.ishr, 1) := by decide +kernel
theorem dX12_snapshot_14 : decode cX12_snapshot 14 = .ok (.iconst 1, 1) := by decide +kernel
theorem dX12_snapshot_15 : decode cX12_snapshot 15 = .ok (.iand, 1) := by decide +kernel
theorem dX12_snapshot_16 : decode cX12_snapshot 16 = .ok (.iconst 1, 1) := by decide +kernel
theorem dX12_snapshot_17 : decode cX12_snapshot 17 = .ok (.if_icmp .ne 9, 3) := by decide +kernel
theorem dX12_snapshot_20 : decode cX12_snapshot 20 = .ok (.iinc 1 1, 3) := by decide +kernel
theorem dX12_snapshot_23 : decode cX12_snapshot 23 = .ok (.goto (-21), 3) := by decide +kernel
theorem dX12_snapshot_26 : decode cX12_snapshot 26 = .ok (.aload_n 0, 1) := by decide +kernel
theorem dX12_snapshot_27 : decode cX12_snapshot 27 = .ok (.aload_n 0, 1) := by decide +kernel
theorem dX12_snapshot_28 : decode cX12_snapshot 28 = .ok (.getfield 75, 3) := by decide +kernel
theorem dX12_snapshot_31 : decode cX12_snapshot 31 = .ok (.ifCond .ne 9, 3) := by decide +kernel
theorem dX12_snapshot_34 : decode cX12_snapshot 34 = .ok (.iload_n 1, 1) := by decide +kernel
theorem dX12_snapshot_35 : decode cX12_snapshot 35 = .ok (.bipush 8, 2) := by decide +kernel
theorem dX12_snapshot_37 : decode cX12_snapshot 37 = .ok (.if_icmp .ne 7, 3) := by decide +kernel
theorem dX12_snapshot_40 : decode cX12_snapshot 40 = .ok (.iconst 1, 1) := by decide +kernel
theorem dX12_snapshot_41 : decode cX12_snapshot 41 = .ok (.goto 4, 3) := by decide +kernel
theorem dX12_snapshot_44 : decode cX12_snapshot 44 = .ok (.iconst 0, 1) := by decide +kernel
theorem dX12_snapshot_45 : decode cX12_snapshot 45 = .ok (.putfield 38, 3) := by decide +kernel
theorem dX12_snapshot_48 : decode cX12_snapshot 48 = .ok (.aload_n 0, 1) := by decide +kernel
theorem dX12_snapshot_49 : decode cX12_snapshot 49 = .ok (.getfield 38, 3) := by decide +kernel
theorem dX12_snapshot_52 : decode cX12_snapshot 52 = .ok (.ifCond .le 5, 3) := by decide +kernel
theorem dX12_snapshot_55 : decode cX12_snapshot 55 = .ok (.iconst 0, 1) := by decide +kernel
theorem dX12_snapshot_56 : decode cX12_snapshot 56 = .ok (.ireturn, 1) := by decide +kernel
theorem dX12_snapshot_57 : decode cX12_snapshot 57 = .ok (.aload_n 0, 1) := by decide +kernel
theorem dX12_snapshot_58 : decode cX12_snapshot 58 = .ok (.dup, 1) := by decide +kernel
theorem dX12_snapshot_59 : decode cX12_snapshot 59 = .ok (.getfield 91, 3) := by decide +kernel
theorem dX12_snapshot_62 : decode cX12_snapshot 62 = .ok (.iconst 1, 1) := by decide +kernel
theorem dX12_snapshot_63 : decode cX12_snapshot 63 = .ok (.iload_n 1, 1) := by decide +kernel
theorem dX12_snapshot_64 : decode cX12_snapshot 64 = .ok (.ishl, 1) := by decide +kernel
theorem dX12_snapshot_65 : decode cX12_snapshot 65 = .ok (.ior, 1) := by decide +kernel
theorem dX12_snapshot_66 : decode cX12_snapshot 66 = .ok (.putfield 91, 3) := by decide +kernel
theorem dX12_snapshot_69 : decode cX12_snapshot 69 = .ok (.aload_n 0, 1) := by decide +kernel
theorem dX12_snapshot_70 : decode cX12_snapshot 70 = .ok (.getfield 16, 3) := by decide +kernel
theorem dX12_snapshot_73 : decode cX12_snapshot 73 = .ok (.iconst 0, 1) := by decide +kernel
theorem dX12_snapshot_74 : decode cX12_snapshot 74 = .ok (.aload_n 0, 1) := by decide +kernel
theorem dX12_snapshot_75 : decode cX12_snapshot 75 = .ok (.getfield 24, 3) := by decide +kernel
theorem dX12_snapshot_78 : decode cX12_snapshot 78 = .ok (.iload_n 1, 1) := by decide +kernel
theorem dX12_snapshot_79 : decode cX12_snapshot 79 = .ok (.sipush 16400, 3) := by decide +kernel
theorem dX12_snapshot_82 : decode cX12_snapshot 82 = .ok (.imul, 1) := by decide +kernel
theorem dX12_snapshot_83 : decode cX12_snapshot 83 = .ok (.aload_n 0, 1) := by decide +kernel
theorem dX12_snapshot_84 : decode cX12_snapshot 84 = .ok (.getfield 58, 3) := by decide +kernel
theorem dX12_snapshot_87 : decode cX12_snapshot 87 = .ok (.invokestatic 52, 3) := by decide +kernel
theorem dX12_snapshot_90 : decode cX12_snapshot 90 = .ok (.aload_n 0, 1) := by decide +kernel
theorem dX12_snapshot_91 : decode cX12_snapshot 91 = .ok (.getfield 27, 3) := by decide +kernel
theorem dX12_snapshot_94 : decode cX12_snapshot 94 = .ok (.iload_n 1, 1) := by decide +kernel
theorem dX12_snapshot_95 : decode cX12_snapshot 95 = .ok (.aload_n 0, 1) := by decide +kernel
theorem dX12_snapshot_96 : decode cX12_snapshot 96 = .ok (.getfield 58, 3) := by decide +kernel
theorem dX12_snapshot_99 : decode cX12_snapshot 99 = .ok (.iastore, 1) := by decide +kernel
theorem dX12_snapshot_100 : decode cX12_snapshot 100 = .ok (.iload_n 1, 1) := by decide +kernel
theorem dX12_snapshot_101 : decode cX12_snapshot 101 = .ok (.ireturn, 1) := by decide +kernel
theorem dX12_isThere_0 : decode cX12_isThere 0 = .ok (.aload_n 0, 1) := by decide +kernel
theorem dX12_isThere_1 : decode cX12_isThere 1 = .ok (.aload_n 0, 1) := by decide +kernel
theorem dX12_isThere_2 : decode cX12_isThere 2 = .ok (.getfield 75, 3) := by decide +kernel
theorem dX12_isThere_5 : decode cX12_isThere 5 = .ok (.ifCond .eq 7, 3) := by decide +kernel
theorem dX12_isThere_8 : decode cX12_isThere 8 = .ok (.iconst 1, 1) := by decide +kernel
theorem dX12_isThere_9 : decode cX12_isThere 9 = .ok (.goto 34, 3) := by decide +kernel
theorem dX12_isThere_12 : decode cX12_isThere 12 = .ok (.iload_n 1, 1) := by decide +kernel
theorem dX12_isThere_13 : decode cX12_isThere 13 = .ok (.iconst (-1), 1) := by decide +kernel
theorem dX12_isThere_14 : decode cX12_isThere 14 = .ok (.if_icmp .eq 28, 3) := by decide +kernel
theorem dX12_isThere_17 : decode cX12_isThere 17 = .ok (.iload_n 1, 1) := by decide +kernel
theorem dX12_isThere_18 : decode cX12_isThere 18 = .ok (.ifCond .lt 20, 3) := by decide +kernel
theorem dX12_isThere_21 : decode cX12_isThere 21 = .ok (.iload_n 1, 1) := by decide +kernel
theorem dX12_isThere_22 : decode cX12_isThere 22 = .ok (.bipush 8, 2) := by decide +kernel
theorem dX12_isThere_24 : decode cX12_isThere 24 = .ok (.if_icmp .ge 14, 3) := by decide +kernel
theorem dX12_isThere_27 : decode cX12_isThere 27 = .ok (.aload_n 0, 1) := by decide +kernel
theorem dX12_isThere_28 : decode cX12_isThere 28 = .ok (.getfield 91, 3) := by decide +kernel
theorem dX12_isThere_31 : decode cX12_isThere 31 = .ok (.iload_n 1, 1) := by decide +kernel
theorem dX12_isThere_32 : decode cX12_isThere 32 = .ok (.ishr, 1) := by decide +kernel
theorem dX12_isThere_33 : decode cX12_isThere 33 = .ok (.iconst 1, 1) := by decide +kernel
theorem dX12_isThere_34 : decode cX12_isThere 34 = .ok (.iand, 1) := by decide +kernel
theorem dX12_isThere_35 : decode cX12_isThere 35 = .ok (.ifCond .ne 7, 3) := by decide +kernel
theorem dX12_isThere_38 : decode cX12_isThere 38 = .ok (.iconst 2, 1) := by decide +kernel
theorem dX12_isThere_39 : decode cX12_isThere 39 = .ok (.goto 4, 3) := by decide +kernel
theorem dX12_isThere_42 : decode cX12_isThere 42 = .ok (.iconst 0, 1) := by decide +kernel
theorem dX12_isThere_43 : decode cX12_isThere 43 = .ok (.putfield 38, 3) := by decide +kernel
theorem dX12_isThere_46 : decode cX12_isThere 46 = .ok (.aload_n 0, 1) := by decide +kernel
theorem dX12_isThere_47 : decode cX12_isThere 47 = .ok (.getfield 38, 3) := by decide +kernel
theorem dX12_isThere_50 : decode cX12_isThere 50 = .ok (.ifCond .ne 7, 3) := by decide +kernel
theorem dX12_isThere_53 : decode cX12_isThere 53 = .ok (.iconst 1, 1) := by decide +kernel
theorem dX12_isThere_54 : decode cX12_isThere 54 = .ok (.goto 4, 3) := by decide +kernel
theorem dX12_isThere_57 : decode cX12_isThere 57 = .ok (.iconst 0, 1) := by decide +kernel
theorem dX12_isThere_58 : decode cX12_isThere 58 = .ok (.ireturn, 1) := by decide +kernel
theorem dX12_release_0 : decode cX12_release 0 = .ok (.aload_n 0, 1) := by decide +kernel
theorem dX12_release_1 : decode cX12_release 1 = .ok (.aload_n 0, 1) := by decide +kernel
theorem dX12_release_2 : decode cX12_release 2 = .ok (.getfield 75, 3) := by decide +kernel
theorem dX12_release_5 : decode cX12_release 5 = .ok (.ifCond .eq 7, 3) := by decide +kernel
theorem dX12_release_8 : decode cX12_release 8 = .ok (.iconst 1, 1) := by decide +kernel
theorem dX12_release_9 : decode cX12_release 9 = .ok (.goto 29, 3) := by decide +kernel
theorem dX12_release_12 : decode cX12_release 12 = .ok (.iload_n 1, 1) := by decide +kernel
theorem dX12_release_13 : decode cX12_release 13 = .ok (.ifCond .lt 20, 3) := by decide +kernel
theorem dX12_release_16 : decode cX12_release 16 = .ok (.iload_n 1, 1) := by decide +kernel
theorem dX12_release_17 : decode cX12_release 17 = .ok (.bipush 8, 2) := by decide +kernel
theorem dX12_release_19 : decode cX12_release 19 = .ok (.if_icmp .ge 14, 3) := by decide +kernel
theorem dX12_release_22 : decode cX12_release 22 = .ok (.aload_n 0, 1) := by decide +kernel
theorem dX12_release_23 : decode cX12_release 23 = .ok (.getfield 91, 3) := by decide +kernel
theorem dX12_release_26 : decode cX12_release 26 = .ok (.iload_n 1, 1) := by decide +kernel
theorem dX12_release_27 : decode cX12_release 27 = .ok (.ishr, 1) := by decide +kernel
theorem dX12_release_28 : decode cX12_release 28 = .ok (.iconst 1, 1) := by decide +kernel
theorem dX12_release_29 : decode cX12_release 29 = .ok (.iand, 1) := by decide +kernel
theorem dX12_release_30 : decode cX12_release 30 = .ok (.ifCond .ne 7, 3) := by decide +kernel
theorem dX12_release_33 : decode cX12_release 33 = .ok (.iconst 2, 1) := by decide +kernel
theorem dX12_release_34 : decode cX12_release 34 = .ok (.goto 4, 3) := by decide +kernel
theorem dX12_release_37 : decode cX12_release 37 = .ok (.iconst 0, 1) := by decide +kernel
theorem dX12_release_38 : decode cX12_release 38 = .ok (.putfield 38, 3) := by decide +kernel
theorem dX12_release_41 : decode cX12_release 41 = .ok (.aload_n 0, 1) := by decide +kernel
theorem dX12_release_42 : decode cX12_release 42 = .ok (.getfield 38, 3) := by decide +kernel
theorem dX12_release_45 : decode cX12_release 45 = .ok (.ifCond .ne 17, 3) := by decide +kernel
theorem dX12_release_48 : decode cX12_release 48 = .ok (.aload_n 0, 1) := by decide +kernel
theorem dX12_release_49 : decode cX12_release 49 = .ok (.dup, 1) := by decide +kernel
theorem dX12_release_50 : decode cX12_release 50 = .ok (.getfield 91, 3) := by decide +kernel
theorem dX12_release_53 : decode cX12_release 53 = .ok (.iconst 1, 1) := by decide +kernel
theorem dX12_release_54 : decode cX12_release 54 = .ok (.iload_n 1, 1) := by decide +kernel
theorem dX12_release_55 : decode cX12_release 55 = .ok (.ishl, 1) := by decide +kernel
theorem dX12_release_56 : decode cX12_release 56 = .ok (.iconst (-1), 1) := by decide +kernel
theorem dX12_release_57 : decode cX12_release 57 = .ok (.ixor, 1) := by decide +kernel
theorem dX12_release_58 : decode cX12_release 58 = .ok (.iand, 1) := by decide +kernel
theorem dX12_release_59 : decode cX12_release 59 = .ok (.putfield 91, 3) := by decide +kernel
theorem dX12_release_62 : decode cX12_release 62 = .ok (.return_, 1) := by decide +kernel
theorem dX12_rowOf_0 : decode cX12_rowOf 0 = .ok (.iload_n 1, 1) := by decide +kernel
theorem dX12_rowOf_1 : decode cX12_rowOf 1 = .ok (.ifCond .ge 10, 3) := by decide +kernel
theorem dX12_rowOf_4 : decode cX12_rowOf 4 = .ok (.aload_n 0, 1) := by decide +kernel
theorem dX12_rowOf_5 : decode cX12_rowOf 5 = .ok (.getfield 16, 3) := by decide +kernel
theorem dX12_rowOf_8 : decode cX12_rowOf 8 = .ok (.goto 7, 3) := by decide +kernel
theorem dX12_rowOf_11 : decode cX12_rowOf 11 = .ok (.aload_n 0, 1) := by decide +kernel
theorem dX12_rowOf_12 : decode cX12_rowOf 12 = .ok (.getfield 24, 3) := by decide +kernel
theorem dX12_rowOf_15 : decode cX12_rowOf 15 = .ok (.areturn, 1) := by decide +kernel
theorem dX12_from_0 : decode cX12_from 0 = .ok (.iload_n 1, 1) := by decide +kernel
theorem dX12_from_1 : decode cX12_from 1 = .ok (.ifCond .ge 7, 3) := by decide +kernel
theorem dX12_from_4 : decode cX12_from 4 = .ok (.iconst 0, 1) := by decide +kernel
theorem dX12_from_5 : decode cX12_from 5 = .ok (.goto 8, 3) := by decide +kernel
theorem dX12_from_8 : decode cX12_from 8 = .ok (.iload_n 1, 1) := by decide +kernel
theorem dX12_from_9 : decode cX12_from 9 = .ok (.sipush 16400, 3) := by decide +kernel
theorem dX12_from_12 : decode cX12_from 12 = .ok (.imul, 1) := by decide +kernel
theorem dX12_from_13 : decode cX12_from 13 = .ok (.ireturn, 1) := by decide +kernel
theorem dX12_end_0 : decode cX12_end 0 = .ok (.iload_n 1, 1) := by decide +kernel
theorem dX12_end_1 : decode cX12_end 1 = .ok (.ifCond .ge 10, 3) := by decide +kernel
theorem dX12_end_4 : decode cX12_end 4 = .ok (.aload_n 0, 1) := by decide +kernel
theorem dX12_end_5 : decode cX12_end 5 = .ok (.getfield 58, 3) := by decide +kernel
theorem dX12_end_8 : decode cX12_end 8 = .ok (.goto 15, 3) := by decide +kernel
theorem dX12_end_11 : decode cX12_end 11 = .ok (.iload_n 1, 1) := by decide +kernel
theorem dX12_end_12 : decode cX12_end 12 = .ok (.sipush 16400, 3) := by decide +kernel
theorem dX12_end_15 : decode cX12_end 15 = .ok (.imul, 1) := by decide +kernel
theorem dX12_end_16 : decode cX12_end 16 = .ok (.aload_n 0, 1) := by decide +kernel
theorem dX12_end_17 : decode cX12_end 17 = .ok (.getfield 27, 3) := by decide +kernel
theorem dX12_end_20 : decode cX12_end 20 = .ok (.iload_n 1, 1) := by decide +kernel
theorem dX12_end_21 : decode cX12_end 21 = .ok (.iaload, 1) := by decide +kernel
theorem dX12_end_22 : decode cX12_end 22 = .ok (.iadd, 1) := by decide +kernel
theorem dX12_end_23 : decode cX12_end 23 = .ok (.ireturn, 1) := by decide +kernel
theorem dX12_taken_0 : decode cX12_taken 0 = .ok (.iload_n 3, 1) := by decide +kernel
theorem dX12_taken_1 : decode cX12_taken 1 = .ok (.ifCond .eq 26, 3) := by decide +kernel
theorem dX12_taken_4 : decode cX12_taken 4 = .ok (.aload_n 0, 1) := by decide +kernel
theorem dX12_taken_5 : decode cX12_taken 5 = .ok (.aload_n 1, 1) := by decide +kernel
theorem dX12_taken_6 : decode cX12_taken 6 = .ok (.iload_n 2, 1) := by decide +kernel
theorem dX12_taken_7 : decode cX12_taken 7 = .ok (.baload, 1) := by decide +kernel
theorem dX12_taken_8 : decode cX12_taken 8 = .ok (.putfield 94, 3) := by decide +kernel
theorem dX12_taken_11 : decode cX12_taken 11 = .ok (.aload_n 1, 1) := by decide +kernel
theorem dX12_taken_12 : decode cX12_taken 12 = .ok (.iload_n 2, 1) := by decide +kernel
theorem dX12_taken_13 : decode cX12_taken 13 = .ok (.iconst 1, 1) := by decide +kernel
theorem dX12_taken_14 : decode cX12_taken 14 = .ok (.iadd, 1) := by decide +kernel
theorem dX12_taken_15 : decode cX12_taken 15 = .ok (.aload_n 0, 1) := by decide +kernel
theorem dX12_taken_16 : decode cX12_taken 16 = .ok (.getfield 9, 3) := by decide +kernel
theorem dX12_taken_19 : decode cX12_taken 19 = .ok (.iconst 0, 1) := by decide +kernel
theorem dX12_taken_20 : decode cX12_taken 20 = .ok (.aload_n 0, 1) := by decide +kernel
theorem dX12_taken_21 : decode cX12_taken 21 = .ok (.getfield 94, 3) := by decide +kernel
theorem dX12_taken_24 : decode cX12_taken 24 = .ok (.invokestatic 52, 3) := by decide +kernel
theorem dX12_taken_27 : decode cX12_taken 27 = .ok (.iload_n 2, 1) := by decide +kernel
theorem dX12_taken_28 : decode cX12_taken 28 = .ok (.iconst 1, 1) := by decide +kernel
theorem dX12_taken_29 : decode cX12_taken 29 = .ok (.iadd, 1) := by decide +kernel
theorem dX12_taken_30 : decode cX12_taken 30 = .ok (.aload_n 1, 1) := by decide +kernel
theorem dX12_taken_31 : decode cX12_taken 31 = .ok (.iload_n 2, 1) := by decide +kernel
theorem dX12_taken_32 : decode cX12_taken 32 = .ok (.baload, 1) := by decide +kernel
theorem dX12_taken_33 : decode cX12_taken 33 = .ok (.iadd, 1) := by decide +kernel
theorem dX12_taken_34 : decode cX12_taken 34 = .ok (.istore 4, 2) := by decide +kernel
theorem dX12_taken_36 : decode cX12_taken 36 = .ok (.aload_n 0, 1) := by decide +kernel
theorem dX12_taken_37 : decode cX12_taken 37 = .ok (.aload_n 1, 1) := by decide +kernel
theorem dX12_taken_38 : decode cX12_taken 38 = .ok (.iload 4, 2) := by decide +kernel
theorem dX12_taken_40 : decode cX12_taken 40 = .ok (.baload, 1) := by decide +kernel
theorem dX12_taken_41 : decode cX12_taken 41 = .ok (.sipush 255, 3) := by decide +kernel
theorem dX12_taken_44 : decode cX12_taken 44 = .ok (.iand, 1) := by decide +kernel
theorem dX12_taken_45 : decode cX12_taken 45 = .ok (.putfield 97, 3) := by decide +kernel
theorem dX12_taken_48 : decode cX12_taken 48 = .ok (.aload_n 1, 1) := by decide +kernel
theorem dX12_taken_49 : decode cX12_taken 49 = .ok (.iload 4, 2) := by decide +kernel
theorem dX12_taken_51 : decode cX12_taken 51 = .ok (.iconst 1, 1) := by decide +kernel
theorem dX12_taken_52 : decode cX12_taken 52 = .ok (.iadd, 1) := by decide +kernel
theorem dX12_taken_53 : decode cX12_taken 53 = .ok (.aload_n 0, 1) := by decide +kernel
theorem dX12_taken_54 : decode cX12_taken 54 = .ok (.getfield 13, 3) := by decide +kernel
theorem dX12_taken_57 : decode cX12_taken 57 = .ok (.iconst 0, 1) := by decide +kernel
theorem dX12_taken_58 : decode cX12_taken 58 = .ok (.aload_n 0, 1) := by decide +kernel
theorem dX12_taken_59 : decode cX12_taken 59 = .ok (.getfield 97, 3) := by decide +kernel
theorem dX12_taken_62 : decode cX12_taken 62 = .ok (.invokestatic 52, 3) := by decide +kernel
theorem dX12_taken_65 : decode cX12_taken 65 = .ok (.return_, 1) := by decide +kernel
theorem dX12_get_0 : decode cX12_get 0 = .ok (.aload_n 0, 1) := by decide +kernel
theorem dX12_get_1 : decode cX12_get 1 = .ok (.iload_n 1, 1) := by decide +kernel
theorem dX12_get_2 : decode cX12_get 2 = .ok (.invokevirtual 114, 3) := by decide +kernel
theorem dX12_get_5 : decode cX12_get 5 = .ok (.ifCond .ne 5, 3) := by decide +kernel
theorem dX12_get_8 : decode cX12_get 8 = .ok (.iconst 0, 1) := by decide +kernel
theorem dX12_get_9 : decode cX12_get 9 = .ok (.ireturn, 1) := by decide +kernel
theorem dX12_get_10 : decode cX12_get 10 = .ok (.aload_n 0, 1) := by decide +kernel
theorem dX12_get_11 : decode cX12_get 11 = .ok (.iload_n 1, 1) := by decide +kernel
theorem dX12_get_12 : decode cX12_get 12 = .ok (.invokevirtual 118, 3) := by decide +kernel
theorem dX12_get_15 : decode cX12_get 15 = .ok (.astore_n 2, 1) := by decide +kernel
theorem dX12_get_16 : decode cX12_get 16 = .ok (.aload_n 0, 1) := by decide +kernel
theorem dX12_get_17 : decode cX12_get 17 = .ok (.iload_n 1, 1) := by decide +kernel
theorem dX12_get_18 : decode cX12_get 18 = .ok (.invokevirtual 122, 3) := by decide +kernel
theorem dX12_get_21 : decode cX12_get 21 = .ok (.istore_n 3, 1) := by decide +kernel
theorem dX12_get_22 : decode cX12_get 22 = .ok (.iload_n 3, 1) := by decide +kernel
theorem dX12_get_23 : decode cX12_get 23 = .ok (.aload_n 0, 1) := by decide +kernel
theorem dX12_get_24 : decode cX12_get 24 = .ok (.iload_n 1, 1) := by decide +kernel
theorem dX12_get_25 : decode cX12_get 25 = .ok (.invokevirtual 126, 3) := by decide +kernel
theorem dX12_get_28 : decode cX12_get 28 = .ok (.if_icmp .ge 44, 3) := by decide +kernel
theorem dX12_get_31 : decode cX12_get 31 = .ok (.aload_n 2, 1) := by decide +kernel
theorem dX12_get_32 : decode cX12_get 32 = .ok (.iload_n 3, 1) := by decide +kernel
theorem dX12_get_33 : decode cX12_get 33 = .ok (.aload_n 0, 1) := by decide +kernel
theorem dX12_get_34 : decode cX12_get 34 = .ok (.getfield 9, 3) := by decide +kernel
theorem dX12_get_37 : decode cX12_get 37 = .ok (.iconst 0, 1) := by decide +kernel
theorem dX12_get_38 : decode cX12_get 38 = .ok (.aload_n 0, 1) := by decide +kernel
theorem dX12_get_39 : decode cX12_get 39 = .ok (.getfield 94, 3) := by decide +kernel
theorem dX12_get_42 : decode cX12_get 42 = .ok (.invokestatic 48, 3) := by decide +kernel
theorem dX12_get_45 : decode cX12_get 45 = .ok (.ifCond .eq 6, 3) := by decide +kernel
theorem dX12_get_48 : decode cX12_get 48 = .ok (.goto 15, 3) := by decide +kernel
theorem dX12_get_51 : decode cX12_get 51 = .ok (.aload_n 0, 1) := by decide +kernel
theorem dX12_get_52 : decode cX12_get 52 = .ok (.aload_n 2, 1) := by decide +kernel
theorem dX12_get_53 : decode cX12_get 53 = .ok (.iload_n 3, 1) := by decide +kernel
theorem dX12_get_54 : decode cX12_get 54 = .ok (.iconst 0, 1) := by decide +kernel
theorem dX12_get_55 : decode cX12_get 55 = .ok (.invokevirtual 129, 3) := by decide +kernel
theorem dX12_get_58 : decode cX12_get 58 = .ok (.aload_n 0, 1) := by decide +kernel
theorem dX12_get_59 : decode cX12_get 59 = .ok (.getfield 97, 3) := by decide +kernel
theorem dX12_get_62 : decode cX12_get 62 = .ok (.ireturn, 1) := by decide +kernel
theorem dX12_get_63 : decode cX12_get 63 = .ok (.aload_n 2, 1) := by decide +kernel
theorem dX12_get_64 : decode cX12_get 64 = .ok (.iload_n 3, 1) := by decide +kernel
theorem dX12_get_65 : decode cX12_get 65 = .ok (.invokestatic 41, 3) := by decide +kernel
theorem dX12_get_68 : decode cX12_get 68 = .ok (.istore_n 3, 1) := by decide +kernel
theorem dX12_get_69 : decode cX12_get 69 = .ok (.goto (-47), 3) := by decide +kernel
theorem dX12_get_72 : decode cX12_get 72 = .ok (.iconst (-1), 1) := by decide +kernel
theorem dX12_get_73 : decode cX12_get 73 = .ok (.ireturn, 1) := by decide +kernel
theorem dX12_seek_0 : decode cX12_seek 0 = .ok (.aload_n 0, 1) := by decide +kernel
theorem dX12_seek_1 : decode cX12_seek 1 = .ok (.iload_n 1, 1) := by decide +kernel
theorem dX12_seek_2 : decode cX12_seek 2 = .ok (.invokevirtual 114, 3) := by decide +kernel
theorem dX12_seek_5 : decode cX12_seek 5 = .ok (.ifCond .ne 5, 3) := by decide +kernel
theorem dX12_seek_8 : decode cX12_seek 8 = .ok (.iconst 0, 1) := by decide +kernel
theorem dX12_seek_9 : decode cX12_seek 9 = .ok (.ireturn, 1) := by decide +kernel
theorem dX12_seek_10 : decode cX12_seek 10 = .ok (.aload_n 0, 1) := by decide +kernel
theorem dX12_seek_11 : decode cX12_seek 11 = .ok (.iload_n 1, 1) := by decide +kernel
theorem dX12_seek_12 : decode cX12_seek 12 = .ok (.invokevirtual 118, 3) := by decide +kernel
theorem dX12_seek_15 : decode cX12_seek 15 = .ok (.astore_n 3, 1) := by decide +kernel
theorem dX12_seek_16 : decode cX12_seek 16 = .ok (.aload_n 0, 1) := by decide +kernel
theorem dX12_seek_17 : decode cX12_seek 17 = .ok (.iload_n 1, 1) := by decide +kernel
theorem dX12_seek_18 : decode cX12_seek 18 = .ok (.invokevirtual 122, 3) := by decide +kernel
theorem dX12_seek_21 : decode cX12_seek 21 = .ok (.istore 4, 2) := by decide +kernel
theorem dX12_seek_23 : decode cX12_seek 23 = .ok (.iload 4, 2) := by decide +kernel
theorem dX12_seek_25 : decode cX12_seek 25 = .ok (.aload_n 0, 1) := by decide +kernel
theorem dX12_seek_26 : decode cX12_seek 26 = .ok (.iload_n 1, 1) := by decide +kernel
theorem dX12_seek_27 : decode cX12_seek 27 = .ok (.invokevirtual 126, 3) := by decide +kernel
theorem dX12_seek_30 : decode cX12_seek 30 = .ok (.if_icmp .ge 61, 3) := by decide +kernel
theorem dX12_seek_33 : decode cX12_seek 33 = .ok (.aload_n 3, 1) := by decide +kernel
theorem dX12_seek_34 : decode cX12_seek 34 = .ok (.iload 4, 2) := by decide +kernel
theorem dX12_seek_36 : decode cX12_seek 36 = .ok (.aload_n 0, 1) := by decide +kernel
theorem dX12_seek_37 : decode cX12_seek 37 = .ok (.getfield 9, 3) := by decide +kernel
theorem dX12_seek_40 : decode cX12_seek 40 = .ok (.iconst 0, 1) := by decide +kernel
theorem dX12_seek_41 : decode cX12_seek 41 = .ok (.aload_n 0, 1) := by decide +kernel
theorem dX12_seek_42 : decode cX12_seek 42 = .ok (.getfield 94, 3) := by decide +kernel
theorem dX12_seek_45 : decode cX12_seek 45 = .ok (.invokestatic 48, 3) := by decide +kernel
theorem dX12_seek_48 : decode cX12_seek 48 = .ok (.istore 5, 2) := by decide +kernel
theorem dX12_seek_50 : decode cX12_seek 50 = .ok (.iload 5, 2) := by decide +kernel
theorem dX12_seek_52 : decode cX12_seek 52 = .ok (.ifCond .lt 28, 3) := by decide +kernel
theorem dX12_seek_55 : decode cX12_seek 55 = .ok (.iload 5, 2) := by decide +kernel
theorem dX12_seek_57 : decode cX12_seek 57 = .ok (.ifCond .ne 10, 3) := by decide +kernel
theorem dX12_seek_60 : decode cX12_seek 60 = .ok (.iload_n 2, 1) := by decide +kernel
theorem dX12_seek_61 : decode cX12_seek 61 = .ok (.ifCond .eq 6, 3) := by decide +kernel
theorem dX12_seek_64 : decode cX12_seek 64 = .ok (.goto 16, 3) := by decide +kernel
theorem dX12_seek_67 : decode cX12_seek 67 = .ok (.aload_n 0, 1) := by decide +kernel
theorem dX12_seek_68 : decode cX12_seek 68 = .ok (.aload_n 3, 1) := by decide +kernel
theorem dX12_seek_69 : decode cX12_seek 69 = .ok (.iload 4, 2) := by decide +kernel
theorem dX12_seek_71 : decode cX12_seek 71 = .ok (.iconst 1, 1) := by decide +kernel
theorem dX12_seek_72 : decode cX12_seek 72 = .ok (.invokevirtual 129, 3) := by decide +kernel
theorem dX12_seek_75 : decode cX12_seek 75 = .ok (.aload_n 0, 1) := by decide +kernel
theorem dX12_seek_76 : decode cX12_seek 76 = .ok (.getfield 94, 3) := by decide +kernel
theorem dX12_seek_79 : decode cX12_seek 79 = .ok (.ireturn, 1) := by decide +kernel
theorem dX12_seek_80 : decode cX12_seek 80 = .ok (.aload_n 3, 1) := by decide +kernel
theorem dX12_seek_81 : decode cX12_seek 81 = .ok (.iload 4, 2) := by decide +kernel
theorem dX12_seek_83 : decode cX12_seek 83 = .ok (.invokestatic 41, 3) := by decide +kernel
theorem dX12_seek_86 : decode cX12_seek 86 = .ok (.istore 4, 2) := by decide +kernel
theorem dX12_seek_88 : decode cX12_seek 88 = .ok (.goto (-65), 3) := by decide +kernel
theorem dX12_seek_91 : decode cX12_seek 91 = .ok (.iconst (-1), 1) := by decide +kernel
theorem dX12_seek_92 : decode cX12_seek 92 = .ok (.ireturn, 1) := by decide +kernel
theorem dX12_before_0 : decode cX12_before 0 = .ok (.aload_n 0, 1) := by decide +kernel
theorem dX12_before_1 : decode cX12_before 1 = .ok (.iload_n 1, 1) := by decide +kernel
theorem dX12_before_2 : decode cX12_before 2 = .ok (.invokevirtual 114, 3) := by decide +kernel
theorem dX12_before_5 : decode cX12_before 5 = .ok (.ifCond .ne 5, 3) := by decide +kernel
theorem dX12_before_8 : decode cX12_before 8 = .ok (.iconst 0, 1) := by decide +kernel
theorem dX12_before_9 : decode cX12_before 9 = .ok (.ireturn, 1) := by decide +kernel
theorem dX12_before_10 : decode cX12_before 10 = .ok (.aload_n 0, 1) := by decide +kernel
theorem dX12_before_11 : decode cX12_before 11 = .ok (.iload_n 1, 1) := by decide +kernel
theorem dX12_before_12 : decode cX12_before 12 = .ok (.invokevirtual 118, 3) := by decide +kernel
theorem dX12_before_15 : decode cX12_before 15 = .ok (.astore_n 2, 1) := by decide +kernel
theorem dX12_before_16 : decode cX12_before 16 = .ok (.iconst (-1), 1) := by decide +kernel
theorem dX12_before_17 : decode cX12_before 17 = .ok (.istore_n 3, 1) := by decide +kernel
theorem dX12_before_18 : decode cX12_before 18 = .ok (.aload_n 0, 1) := by decide +kernel
theorem dX12_before_19 : decode cX12_before 19 = .ok (.iload_n 1, 1) := by decide +kernel
theorem dX12_before_20 : decode cX12_before 20 = .ok (.invokevirtual 122, 3) := by decide +kernel
theorem dX12_before_23 : decode cX12_before 23 = .ok (.istore 4, 2) := by decide +kernel
theorem dX12_before_25 : decode cX12_before 25 = .ok (.iload 4, 2) := by decide +kernel
theorem dX12_before_27 : decode cX12_before 27 = .ok (.aload_n 0, 1) := by decide +kernel
theorem dX12_before_28 : decode cX12_before 28 = .ok (.iload_n 1, 1) := by decide +kernel
theorem dX12_before_29 : decode cX12_before 29 = .ok (.invokevirtual 126, 3) := by decide +kernel
theorem dX12_before_32 : decode cX12_before 32 = .ok (.if_icmp .ge 35, 3) := by decide +kernel
theorem dX12_before_35 : decode cX12_before 35 = .ok (.aload_n 2, 1) := by decide +kernel
theorem dX12_before_36 : decode cX12_before 36 = .ok (.iload 4, 2) := by decide +kernel
theorem dX12_before_38 : decode cX12_before 38 = .ok (.aload_n 0, 1) := by decide +kernel
theorem dX12_before_39 : decode cX12_before 39 = .ok (.getfield 9, 3) := by decide +kernel
theorem dX12_before_42 : decode cX12_before 42 = .ok (.iconst 0, 1) := by decide +kernel
theorem dX12_before_43 : decode cX12_before 43 = .ok (.aload_n 0, 1) := by decide +kernel
theorem dX12_before_44 : decode cX12_before 44 = .ok (.getfield 94, 3) := by decide +kernel
theorem dX12_before_47 : decode cX12_before 47 = .ok (.invokestatic 48, 3) := by decide +kernel
theorem dX12_before_50 : decode cX12_before 50 = .ok (.ifCond .ge 6, 3) := by decide +kernel
theorem dX12_before_53 : decode cX12_before 53 = .ok (.iload 4, 2) := by decide +kernel
theorem dX12_before_55 : decode cX12_before 55 = .ok (.istore_n 3, 1) := by decide +kernel
theorem dX12_before_56 : decode cX12_before 56 = .ok (.aload_n 2, 1) := by decide +kernel
theorem dX12_before_57 : decode cX12_before 57 = .ok (.iload 4, 2) := by decide +kernel
theorem dX12_before_59 : decode cX12_before 59 = .ok (.invokestatic 41, 3) := by decide +kernel
theorem dX12_before_62 : decode cX12_before 62 = .ok (.istore 4, 2) := by decide +kernel
theorem dX12_before_64 : decode cX12_before 64 = .ok (.goto (-39), 3) := by decide +kernel
theorem dX12_before_67 : decode cX12_before 67 = .ok (.iload_n 3, 1) := by decide +kernel
theorem dX12_before_68 : decode cX12_before 68 = .ok (.ifCond .ge 5, 3) := by decide +kernel
theorem dX12_before_71 : decode cX12_before 71 = .ok (.iconst (-1), 1) := by decide +kernel
theorem dX12_before_72 : decode cX12_before 72 = .ok (.ireturn, 1) := by decide +kernel
theorem dX12_before_73 : decode cX12_before 73 = .ok (.aload_n 0, 1) := by decide +kernel
theorem dX12_before_74 : decode cX12_before 74 = .ok (.aload_n 2, 1) := by decide +kernel
theorem dX12_before_75 : decode cX12_before 75 = .ok (.iload_n 3, 1) := by decide +kernel
theorem dX12_before_76 : decode cX12_before 76 = .ok (.iconst 1, 1) := by decide +kernel
theorem dX12_before_77 : decode cX12_before 77 = .ok (.invokevirtual 129, 3) := by decide +kernel
theorem dX12_before_80 : decode cX12_before 80 = .ok (.aload_n 0, 1) := by decide +kernel
theorem dX12_before_81 : decode cX12_before 81 = .ok (.getfield 94, 3) := by decide +kernel
theorem dX12_before_84 : decode cX12_before 84 = .ok (.ireturn, 1) := by decide +kernel
theorem dX12_bytes_0 : decode cX12_bytes 0 = .ok (.aload_n 0, 1) := by decide +kernel
theorem dX12_bytes_1 : decode cX12_bytes 1 = .ok (.iload_n 2, 1) := by decide +kernel
theorem dX12_bytes_2 : decode cX12_bytes 2 = .ok (.ifCond .lt 10, 3) := by decide +kernel
theorem dX12_bytes_5 : decode cX12_bytes 5 = .ok (.iload_n 2, 1) := by decide +kernel
theorem dX12_bytes_6 : decode cX12_bytes 6 = .ok (.sipush 200, 3) := by decide +kernel
theorem dX12_bytes_9 : decode cX12_bytes 9 = .ok (.if_icmp .le 7, 3) := by decide +kernel
theorem dX12_bytes_12 : decode cX12_bytes 12 = .ok (.iconst 1, 1) := by decide +kernel
theorem dX12_bytes_13 : decode cX12_bytes 13 = .ok (.goto 4, 3) := by decide +kernel
theorem dX12_bytes_16 : decode cX12_bytes 16 = .ok (.iconst 0, 1) := by decide +kernel
theorem dX12_bytes_17 : decode cX12_bytes 17 = .ok (.putfield 38, 3) := by decide +kernel
theorem dX12_bytes_20 : decode cX12_bytes 20 = .ok (.aload_n 0, 1) := by decide +kernel
theorem dX12_bytes_21 : decode cX12_bytes 21 = .ok (.getfield 38, 3) := by decide +kernel
theorem dX12_bytes_24 : decode cX12_bytes 24 = .ok (.ifCond .le 5, 3) := by decide +kernel
theorem dX12_bytes_27 : decode cX12_bytes 27 = .ok (.lconst 0, 1) := by decide +kernel
theorem dX12_bytes_28 : decode cX12_bytes 28 = .ok (.lreturn, 1) := by decide +kernel
theorem dX12_bytes_29 : decode cX12_bytes 29 = .ok (.lconst 0, 1) := by decide +kernel
theorem dX12_bytes_30 : decode cX12_bytes 30 = .ok (.lstore_n 3, 1) := by decide +kernel
theorem dX12_bytes_31 : decode cX12_bytes 31 = .ok (.iload_n 2, 1) := by decide +kernel
theorem dX12_bytes_32 : decode cX12_bytes 32 = .ok (.istore 5, 2) := by decide +kernel
theorem dX12_bytes_34 : decode cX12_bytes 34 = .ok (.iload 5, 2) := by decide +kernel
theorem dX12_bytes_36 : decode cX12_bytes 36 = .ok (.iload_n 2, 1) := by decide +kernel
theorem dX12_bytes_37 : decode cX12_bytes 37 = .ok (.bipush 8, 2) := by decide +kernel
theorem dX12_bytes_39 : decode cX12_bytes 39 = .ok (.iadd, 1) := by decide +kernel
theorem dX12_bytes_40 : decode cX12_bytes 40 = .ok (.if_icmp .ge 71, 3) := by decide +kernel
theorem dX12_bytes_43 : decode cX12_bytes 43 = .ok (.lload_n 3, 1) := by decide +kernel
theorem dX12_bytes_44 : decode cX12_bytes 44 = .ok (.bipush 8, 2) := by decide +kernel
theorem dX12_bytes_46 : decode cX12_bytes 46 = .ok (.lshl, 1) := by decide +kernel
theorem dX12_bytes_47 : decode cX12_bytes 47 = .ok (.iload_n 1, 1) := by decide +kernel
theorem dX12_bytes_48 : decode cX12_bytes 48 = .ok (.ifCond .eq 30, 3) := by decide +kernel
theorem dX12_bytes_51 : decode cX12_bytes 51 = .ok (.iload 5, 2) := by decide +kernel
theorem dX12_bytes_53 : decode cX12_bytes 53 = .ok (.aload_n 0, 1) := by decide +kernel
theorem dX12_bytes_54 : decode cX12_bytes 54 = .ok (.getfield 97, 3) := by decide +kernel
theorem dX12_bytes_57 : decode cX12_bytes 57 = .ok (.if_icmp .ge 17, 3) := by decide +kernel
theorem dX12_bytes_60 : decode cX12_bytes 60 = .ok (.aload_n 0, 1) := by decide +kernel
theorem dX12_bytes_61 : decode cX12_bytes 61 = .ok (.getfield 13, 3) := by decide +kernel
theorem dX12_bytes_64 : decode cX12_bytes 64 = .ok (.iload 5, 2) := by decide +kernel
theorem dX12_bytes_66 : decode cX12_bytes 66 = .ok (.baload, 1) := by decide +kernel
theorem dX12_bytes_67 : decode cX12_bytes 67 = .ok (.sipush 255, 3) := by decide +kernel
theorem dX12_bytes_70 : decode cX12_bytes 70 = .ok (.iand, 1) := by decide +kernel
theorem dX12_bytes_71 : decode cX12_bytes 71 = .ok (.goto 31, 3) := by decide +kernel
theorem dX12_bytes_74 : decode cX12_bytes 74 = .ok (.iconst 0, 1) := by decide +kernel
theorem dX12_bytes_75 : decode cX12_bytes 75 = .ok (.goto 27, 3) := by decide +kernel
theorem dX12_bytes_78 : decode cX12_bytes 78 = .ok (.iload 5, 2) := by decide +kernel
theorem dX12_bytes_80 : decode cX12_bytes 80 = .ok (.aload_n 0, 1) := by decide +kernel
theorem dX12_bytes_81 : decode cX12_bytes 81 = .ok (.getfield 94, 3) := by decide +kernel
theorem dX12_bytes_84 : decode cX12_bytes 84 = .ok (.if_icmp .ge 17, 3) := by decide +kernel
theorem dX12_bytes_87 : decode cX12_bytes 87 = .ok (.aload_n 0, 1) := by decide +kernel
theorem dX12_bytes_88 : decode cX12_bytes 88 = .ok (.getfield 9, 3) := by decide +kernel
theorem dX12_bytes_91 : decode cX12_bytes 91 = .ok (.iload 5, 2) := by decide +kernel
theorem dX12_bytes_93 : decode cX12_bytes 93 = .ok (.baload, 1) := by decide +kernel
theorem dX12_bytes_94 : decode cX12_bytes 94 = .ok (.sipush 255, 3) := by decide +kernel
theorem dX12_bytes_97 : decode cX12_bytes 97 = .ok (.iand, 1) := by decide +kernel
theorem dX12_bytes_98 : decode cX12_bytes 98 = .ok (.goto 4, 3) := by decide +kernel
theorem dX12_bytes_101 : decode cX12_bytes 101 = .ok (.iconst 0, 1) := by decide +kernel
theorem dX12_bytes_102 : decode cX12_bytes 102 = .ok (.i2l, 1) := by decide +kernel
theorem dX12_bytes_103 : decode cX12_bytes 103 = .ok (.lor, 1) := by decide +kernel
theorem dX12_bytes_104 : decode cX12_bytes 104 = .ok (.lstore_n 3, 1) := by decide +kernel
theorem dX12_bytes_105 : decode cX12_bytes 105 = .ok (.iinc 5 1, 3) := by decide +kernel
theorem dX12_bytes_108 : decode cX12_bytes 108 = .ok (.goto (-74), 3) := by decide +kernel
theorem dX12_bytes_111 : decode cX12_bytes 111 = .ok (.lload_n 3, 1) := by decide +kernel
theorem dX12_bytes_112 : decode cX12_bytes 112 = .ok (.lreturn, 1) := by decide +kernel
theorem dX12_works_0 : decode cX12_works 0 = .ok (.aload_n 0, 1) := by decide +kernel
theorem dX12_works_1 : decode cX12_works 1 = .ok (.aload_n 0, 1) := by decide +kernel
theorem dX12_works_2 : decode cX12_works 2 = .ok (.getfield 75, 3) := by decide +kernel
theorem dX12_works_5 : decode cX12_works 5 = .ok (.ifCond .eq 7, 3) := by decide +kernel
theorem dX12_works_8 : decode cX12_works 8 = .ok (.iconst 1, 1) := by decide +kernel
theorem dX12_works_9 : decode cX12_works 9 = .ok (.goto 4, 3) := by decide +kernel
theorem dX12_works_12 : decode cX12_works 12 = .ok (.iconst 0, 1) := by decide +kernel
theorem dX12_works_13 : decode cX12_works 13 = .ok (.putfield 38, 3) := by decide +kernel
theorem dX12_works_16 : decode cX12_works 16 = .ok (.aload_n 0, 1) := by decide +kernel
theorem dX12_works_17 : decode cX12_works 17 = .ok (.getfield 38, 3) := by decide +kernel
theorem dX12_works_20 : decode cX12_works 20 = .ok (.ifCond .gt 11, 3) := by decide +kernel
theorem dX12_works_23 : decode cX12_works 23 = .ok (.aload_n 0, 1) := by decide +kernel
theorem dX12_works_24 : decode cX12_works 24 = .ok (.getfield 34, 3) := by decide +kernel
theorem dX12_works_27 : decode cX12_works 27 = .ok (.iconst 2, 1) := by decide +kernel
theorem dX12_works_28 : decode cX12_works 28 = .ok (.if_icmp .eq 4, 3) := by decide +kernel
theorem dX12_works_31 : decode cX12_works 31 = .ok (.return_, 1) := by decide +kernel
theorem dX12_works_32 : decode cX12_works 32 = .ok (.aload_n 0, 1) := by decide +kernel
theorem dX12_works_33 : decode cX12_works 33 = .ok (.invokevirtual 61, 3) := by decide +kernel
theorem dX12_works_36 : decode cX12_works 36 = .ok (.aload_n 0, 1) := by decide +kernel
theorem dX12_works_37 : decode cX12_works 37 = .ok (.iconst 2, 1) := by decide +kernel
theorem dX12_works_38 : decode cX12_works 38 = .ok (.putfield 38, 3) := by decide +kernel
theorem dX12_works_41 : decode cX12_works 41 = .ok (.return_, 1) := by decide +kernel
theorem dX12_flush_0 : decode cX12_flush 0 = .ok (.aload_n 0, 1) := by decide +kernel
theorem dX12_flush_1 : decode cX12_flush 1 = .ok (.invokevirtual 133, 3) := by decide +kernel
theorem dX12_flush_4 : decode cX12_flush 4 = .ok (.return_, 1) := by decide +kernel
theorem dX12_compact_0 : decode cX12_compact 0 = .ok (.aload_n 0, 1) := by decide +kernel
theorem dX12_compact_1 : decode cX12_compact 1 = .ok (.invokevirtual 133, 3) := by decide +kernel
theorem dX12_compact_4 : decode cX12_compact 4 = .ok (.return_, 1) := by decide +kernel
theorem dX12_power_0 : decode cX12_power 0 = .ok (.aload_n 0, 1) := by decide +kernel
theorem dX12_power_1 : decode cX12_power 1 = .ok (.iload_n 1, 1) := by decide +kernel
theorem dX12_power_2 : decode cX12_power 2 = .ok (.ifCond .lt 30, 3) := by decide +kernel
theorem dX12_power_5 : decode cX12_power 5 = .ok (.iload_n 1, 1) := by decide +kernel
theorem dX12_power_6 : decode cX12_power 6 = .ok (.iconst 3, 1) := by decide +kernel
theorem dX12_power_7 : decode cX12_power 7 = .ok (.if_icmp .gt 25, 3) := by decide +kernel
theorem dX12_power_10 : decode cX12_power 10 = .ok (.iload_n 2, 1) := by decide +kernel
theorem dX12_power_11 : decode cX12_power 11 = .ok (.ifCond .lt 21, 3) := by decide +kernel
theorem dX12_power_14 : decode cX12_power 14 = .ok (.iload_n 2, 1) := by decide +kernel
theorem dX12_power_15 : decode cX12_power 15 = .ok (.sipush 400, 3) := by decide +kernel
theorem dX12_power_18 : decode cX12_power 18 = .ok (.if_icmp .gt 14, 3) := by decide +kernel
theorem dX12_power_21 : decode cX12_power 21 = .ok (.iload_n 3, 1) := by decide +kernel
theorem dX12_power_22 : decode cX12_power 22 = .ok (.ifCond .lt 10, 3) := by decide +kernel
theorem dX12_power_25 : decode cX12_power 25 = .ok (.iload_n 3, 1) := by decide +kernel
theorem dX12_power_26 : decode cX12_power 26 = .ok (.sipush 300, 3) := by decide +kernel
theorem dX12_power_29 : decode cX12_power 29 = .ok (.if_icmp .le 7, 3) := by decide +kernel
theorem dX12_power_32 : decode cX12_power 32 = .ok (.iconst 1, 1) := by decide +kernel
theorem dX12_power_33 : decode cX12_power 33 = .ok (.goto 4, 3) := by decide +kernel
theorem dX12_power_36 : decode cX12_power 36 = .ok (.iconst 0, 1) := by decide +kernel
theorem dX12_power_37 : decode cX12_power 37 = .ok (.putfield 38, 3) := by decide +kernel
theorem dX12_power_40 : decode cX12_power 40 = .ok (.aload_n 0, 1) := by decide +kernel
theorem dX12_power_41 : decode cX12_power 41 = .ok (.getfield 38, 3) := by decide +kernel
theorem dX12_power_44 : decode cX12_power 44 = .ok (.ifCond .ne 8, 3) := by decide +kernel
theorem dX12_power_47 : decode cX12_power 47 = .ok (.aload_n 0, 1) := by decide +kernel
theorem dX12_power_48 : decode cX12_power 48 = .ok (.iload_n 1, 1) := by decide +kernel
theorem dX12_power_49 : decode cX12_power 49 = .ok (.putfield 34, 3) := by decide +kernel
theorem dX12_power_52 : decode cX12_power 52 = .ok (.return_, 1) := by decide +kernel
theorem dX12_reopen_0 : decode cX12_reopen 0 = .ok (.aload_n 0, 1) := by decide +kernel
theorem dX12_reopen_1 : decode cX12_reopen 1 = .ok (.getfield 34, 3) := by decide +kernel
theorem dX12_reopen_4 : decode cX12_reopen 4 = .ok (.iconst 2, 1) := by decide +kernel
theorem dX12_reopen_5 : decode cX12_reopen 5 = .ok (.if_icmp .ne 7, 3) := by decide +kernel
theorem dX12_reopen_8 : decode cX12_reopen 8 = .ok (.iconst 1, 1) := by decide +kernel
theorem dX12_reopen_9 : decode cX12_reopen 9 = .ok (.goto 4, 3) := by decide +kernel
theorem dX12_reopen_12 : decode cX12_reopen 12 = .ok (.iconst 0, 1) := by decide +kernel
theorem dX12_reopen_13 : decode cX12_reopen 13 = .ok (.istore_n 1, 1) := by decide +kernel
theorem dX12_reopen_14 : decode cX12_reopen 14 = .ok (.aload_n 0, 1) := by decide +kernel
theorem dX12_reopen_15 : decode cX12_reopen 15 = .ok (.iconst 0, 1) := by decide +kernel
theorem dX12_reopen_16 : decode cX12_reopen 16 = .ok (.putfield 38, 3) := by decide +kernel
theorem dX12_reopen_19 : decode cX12_reopen 19 = .ok (.aload_n 0, 1) := by decide +kernel
theorem dX12_reopen_20 : decode cX12_reopen 20 = .ok (.iconst 3, 1) := by decide +kernel
theorem dX12_reopen_21 : decode cX12_reopen 21 = .ok (.putfield 34, 3) := by decide +kernel
theorem dX12_reopen_24 : decode cX12_reopen 24 = .ok (.aload_n 0, 1) := by decide +kernel
theorem dX12_reopen_25 : decode cX12_reopen 25 = .ok (.invokevirtual 79, 3) := by decide +kernel
theorem dX12_reopen_28 : decode cX12_reopen 28 = .ok (.aload_n 0, 1) := by decide +kernel
theorem dX12_reopen_29 : decode cX12_reopen 29 = .ok (.iload_n 1, 1) := by decide +kernel
theorem dX12_reopen_30 : decode cX12_reopen 30 = .ok (.putfield 75, 3) := by decide +kernel
theorem dX12_reopen_33 : decode cX12_reopen 33 = .ok (.iload_n 1, 1) := by decide +kernel
theorem dX12_reopen_34 : decode cX12_reopen 34 = .ok (.ifCond .ne 16, 3) := by decide +kernel
theorem dX12_reopen_37 : decode cX12_reopen 37 = .ok (.aload_n 0, 1) := by decide +kernel
theorem dX12_reopen_38 : decode cX12_reopen 38 = .ok (.getfield 16, 3) := by decide +kernel
theorem dX12_reopen_41 : decode cX12_reopen 41 = .ok (.iconst 0, 1) := by decide +kernel
theorem dX12_reopen_42 : decode cX12_reopen 42 = .ok (.aload_n 0, 1) := by decide +kernel
theorem dX12_reopen_43 : decode cX12_reopen 43 = .ok (.getfield 58, 3) := by decide +kernel
theorem dX12_reopen_46 : decode cX12_reopen 46 = .ok (.invokestatic 71, 3) := by decide +kernel
theorem dX12_reopen_49 : decode cX12_reopen 49 = .ok (.ireturn, 1) := by decide +kernel
theorem dX12_reopen_50 : decode cX12_reopen 50 = .ok (.aload_n 0, 1) := by decide +kernel
theorem dX12_reopen_51 : decode cX12_reopen 51 = .ok (.iconst 1, 1) := by decide +kernel
theorem dX12_reopen_52 : decode cX12_reopen 52 = .ok (.putfield 38, 3) := by decide +kernel
theorem dX12_reopen_55 : decode cX12_reopen 55 = .ok (.iconst 0, 1) := by decide +kernel
theorem dX12_reopen_56 : decode cX12_reopen 56 = .ok (.ireturn, 1) := by decide +kernel
theorem dX12_told_0 : decode cX12_told 0 = .ok (.aload_n 0, 1) := by decide +kernel
theorem dX12_told_1 : decode cX12_told 1 = .ok (.iload_n 1, 1) := by decide +kernel
theorem dX12_told_2 : decode cX12_told 2 = .ok (.ifCond .lt 9, 3) := by decide +kernel
theorem dX12_told_5 : decode cX12_told 5 = .ok (.iload_n 1, 1) := by decide +kernel
theorem dX12_told_6 : decode cX12_told 6 = .ok (.bipush 7, 2) := by decide +kernel
theorem dX12_told_8 : decode cX12_told 8 = .ok (.if_icmp .le 7, 3) := by decide +kernel
theorem dX12_told_11 : decode cX12_told 11 = .ok (.iconst 1, 1) := by decide +kernel
theorem dX12_told_12 : decode cX12_told 12 = .ok (.goto 4, 3) := by decide +kernel
theorem dX12_told_15 : decode cX12_told 15 = .ok (.iconst 0, 1) := by decide +kernel
theorem dX12_told_16 : decode cX12_told 16 = .ok (.putfield 38, 3) := by decide +kernel
theorem dX12_told_19 : decode cX12_told 19 = .ok (.aload_n 0, 1) := by decide +kernel
theorem dX12_told_20 : decode cX12_told 20 = .ok (.getfield 38, 3) := by decide +kernel
theorem dX12_told_23 : decode cX12_told 23 = .ok (.ifCond .le 5, 3) := by decide +kernel
theorem dX12_told_26 : decode cX12_told 26 = .ok (.iconst 0, 1) := by decide +kernel
theorem dX12_told_27 : decode cX12_told 27 = .ok (.ireturn, 1) := by decide +kernel
theorem dX12_told_28 : decode cX12_told 28 = .ok (.iload_n 1, 1) := by decide +kernel
theorem dX12_told_29 : decode cX12_told 29 = .ok (.tableswitch 135 0 6 #[43, 56, 80, 104, 120, 125, 130], 43) := by decide +kernel
theorem dX12_told_72 : decode cX12_told 72 = .ok (.aload_n 0, 1) := by decide +kernel
theorem dX12_told_73 : decode cX12_told 73 = .ok (.getfield 75, 3) := by decide +kernel
theorem dX12_told_76 : decode cX12_told 76 = .ok (.ifCond .eq 7, 3) := by decide +kernel
theorem dX12_told_79 : decode cX12_told 79 = .ok (.iconst 0, 1) := by decide +kernel
theorem dX12_told_80 : decode cX12_told 80 = .ok (.goto 4, 3) := by decide +kernel
theorem dX12_told_83 : decode cX12_told 83 = .ok (.iconst 1, 1) := by decide +kernel
theorem dX12_told_84 : decode cX12_told 84 = .ok (.ireturn, 1) := by decide +kernel
theorem dX12_told_85 : decode cX12_told 85 = .ok (.aload_n 0, 1) := by decide +kernel
theorem dX12_told_86 : decode cX12_told 86 = .ok (.getfield 75, 3) := by decide +kernel
theorem dX12_told_89 : decode cX12_told 89 = .ok (.ifCond .eq 7, 3) := by decide +kernel
theorem dX12_told_92 : decode cX12_told 92 = .ok (.iconst 0, 1) := by decide +kernel
theorem dX12_told_93 : decode cX12_told 93 = .ok (.goto 15, 3) := by decide +kernel
theorem dX12_told_96 : decode cX12_told 96 = .ok (.aload_n 0, 1) := by decide +kernel
theorem dX12_told_97 : decode cX12_told 97 = .ok (.getfield 16, 3) := by decide +kernel
theorem dX12_told_100 : decode cX12_told 100 = .ok (.iconst 0, 1) := by decide +kernel
theorem dX12_told_101 : decode cX12_told 101 = .ok (.aload_n 0, 1) := by decide +kernel
theorem dX12_told_102 : decode cX12_told 102 = .ok (.getfield 58, 3) := by decide +kernel
theorem dX12_told_105 : decode cX12_told 105 = .ok (.invokestatic 71, 3) := by decide +kernel
theorem dX12_told_108 : decode cX12_told 108 = .ok (.ireturn, 1) := by decide +kernel
theorem dX12_told_109 : decode cX12_told 109 = .ok (.aload_n 0, 1) := by decide +kernel
theorem dX12_told_110 : decode cX12_told 110 = .ok (.getfield 75, 3) := by decide +kernel
theorem dX12_told_113 : decode cX12_told 113 = .ok (.ifCond .eq 7, 3) := by decide +kernel
theorem dX12_told_116 : decode cX12_told 116 = .ok (.iconst 0, 1) := by decide +kernel
theorem dX12_told_117 : decode cX12_told 117 = .ok (.goto 15, 3) := by decide +kernel
theorem dX12_told_120 : decode cX12_told 120 = .ok (.aload_n 0, 1) := by decide +kernel
theorem dX12_told_121 : decode cX12_told 121 = .ok (.getfield 16, 3) := by decide +kernel
theorem dX12_told_124 : decode cX12_told 124 = .ok (.iconst 0, 1) := by decide +kernel
theorem dX12_told_125 : decode cX12_told 125 = .ok (.aload_n 0, 1) := by decide +kernel
theorem dX12_told_126 : decode cX12_told 126 = .ok (.getfield 58, 3) := by decide +kernel
theorem dX12_told_129 : decode cX12_told 129 = .ok (.invokestatic 136, 3) := by decide +kernel
theorem dX12_told_132 : decode cX12_told 132 = .ok (.ireturn, 1) := by decide +kernel
theorem dX12_told_133 : decode cX12_told 133 = .ok (.aload_n 0, 1) := by decide +kernel
theorem dX12_told_134 : decode cX12_told 134 = .ok (.getfield 82, 3) := by decide +kernel
theorem dX12_told_137 : decode cX12_told 137 = .ok (.ifCond .eq 10, 3) := by decide +kernel
theorem dX12_told_140 : decode cX12_told 140 = .ok (.aload_n 0, 1) := by decide +kernel
theorem dX12_told_141 : decode cX12_told 141 = .ok (.getfield 85, 3) := by decide +kernel
theorem dX12_told_144 : decode cX12_told 144 = .ok (.goto 4, 3) := by decide +kernel
theorem dX12_told_147 : decode cX12_told 147 = .ok (.iconst (-1), 1) := by decide +kernel
theorem dX12_told_148 : decode cX12_told 148 = .ok (.ireturn, 1) := by decide +kernel
theorem dX12_told_149 : decode cX12_told 149 = .ok (.aload_n 0, 1) := by decide +kernel
theorem dX12_told_150 : decode cX12_told 150 = .ok (.getfield 91, 3) := by decide +kernel
theorem dX12_told_153 : decode cX12_told 153 = .ok (.ireturn, 1) := by decide +kernel
theorem dX12_told_154 : decode cX12_told 154 = .ok (.aload_n 0, 1) := by decide +kernel
theorem dX12_told_155 : decode cX12_told 155 = .ok (.getfield 68, 3) := by decide +kernel
theorem dX12_told_158 : decode cX12_told 158 = .ok (.ireturn, 1) := by decide +kernel
theorem dX12_told_159 : decode cX12_told 159 = .ok (.aload_n 0, 1) := by decide +kernel
theorem dX12_told_160 : decode cX12_told 160 = .ok (.getfield 94, 3) := by decide +kernel
theorem dX12_told_163 : decode cX12_told 163 = .ok (.ireturn, 1) := by decide +kernel
theorem dX12_told_164 : decode cX12_told 164 = .ok (.aload_n 0, 1) := by decide +kernel
theorem dX12_told_165 : decode cX12_told 165 = .ok (.getfield 97, 3) := by decide +kernel
theorem dX12_told_168 : decode cX12_told 168 = .ok (.ireturn, 1) := by decide +kernel
theorem dX12_digest_0 : decode cX12_digest 0 = .ok (.aload_n 0, 1) := by decide +kernel
theorem dX12_digest_1 : decode cX12_digest 1 = .ok (.iload_n 1, 1) := by decide +kernel
theorem dX12_digest_2 : decode cX12_digest 2 = .ok (.invokevirtual 114, 3) := by decide +kernel
theorem dX12_digest_5 : decode cX12_digest 5 = .ok (.ifCond .ne 5, 3) := by decide +kernel
theorem dX12_digest_8 : decode cX12_digest 8 = .ok (.lconst 0, 1) := by decide +kernel
theorem dX12_digest_9 : decode cX12_digest 9 = .ok (.lreturn, 1) := by decide +kernel
theorem dX12_digest_10 : decode cX12_digest 10 = .ok (.aload_n 0, 1) := by decide +kernel
theorem dX12_digest_11 : decode cX12_digest 11 = .ok (.iload_n 1, 1) := by decide +kernel
theorem dX12_digest_12 : decode cX12_digest 12 = .ok (.invokevirtual 118, 3) := by decide +kernel
theorem dX12_digest_15 : decode cX12_digest 15 = .ok (.astore_n 2, 1) := by decide +kernel
theorem dX12_digest_16 : decode cX12_digest 16 = .ok (.ldc2_w 139, 3) := by decide +kernel
theorem dX12_digest_19 : decode cX12_digest 19 = .ok (.lstore_n 3, 1) := by decide +kernel
theorem dX12_digest_20 : decode cX12_digest 20 = .ok (.aload_n 0, 1) := by decide +kernel
theorem dX12_digest_21 : decode cX12_digest 21 = .ok (.iload_n 1, 1) := by decide +kernel
theorem dX12_digest_22 : decode cX12_digest 22 = .ok (.invokevirtual 122, 3) := by decide +kernel
theorem dX12_digest_25 : decode cX12_digest 25 = .ok (.istore 5, 2) := by decide +kernel
theorem dX12_digest_27 : decode cX12_digest 27 = .ok (.iload 5, 2) := by decide +kernel
theorem dX12_digest_29 : decode cX12_digest 29 = .ok (.aload_n 0, 1) := by decide +kernel
theorem dX12_digest_30 : decode cX12_digest 30 = .ok (.iload_n 1, 1) := by decide +kernel
theorem dX12_digest_31 : decode cX12_digest 31 = .ok (.invokevirtual 126, 3) := by decide +kernel
theorem dX12_digest_34 : decode cX12_digest 34 = .ok (.if_icmp .ge 133, 3) := by decide +kernel
theorem dX12_digest_37 : decode cX12_digest 37 = .ok (.aload_n 2, 1) := by decide +kernel
theorem dX12_digest_38 : decode cX12_digest 38 = .ok (.iload 5, 2) := by decide +kernel
theorem dX12_digest_40 : decode cX12_digest 40 = .ok (.baload, 1) := by decide +kernel
theorem dX12_digest_41 : decode cX12_digest 41 = .ok (.istore 6, 2) := by decide +kernel
theorem dX12_digest_43 : decode cX12_digest 43 = .ok (.iload 5, 2) := by decide +kernel
theorem dX12_digest_45 : decode cX12_digest 45 = .ok (.iconst 1, 1) := by decide +kernel
theorem dX12_digest_46 : decode cX12_digest 46 = .ok (.iadd, 1) := by decide +kernel
theorem dX12_digest_47 : decode cX12_digest 47 = .ok (.iload 6, 2) := by decide +kernel
theorem dX12_digest_49 : decode cX12_digest 49 = .ok (.iadd, 1) := by decide +kernel
theorem dX12_digest_50 : decode cX12_digest 50 = .ok (.istore 7, 2) := by decide +kernel
theorem dX12_digest_52 : decode cX12_digest 52 = .ok (.aload_n 2, 1) := by decide +kernel
theorem dX12_digest_53 : decode cX12_digest 53 = .ok (.iload 7, 2) := by decide +kernel
theorem dX12_digest_55 : decode cX12_digest 55 = .ok (.baload, 1) := by decide +kernel
theorem dX12_digest_56 : decode cX12_digest 56 = .ok (.sipush 255, 3) := by decide +kernel
theorem dX12_digest_59 : decode cX12_digest 59 = .ok (.iand, 1) := by decide +kernel
theorem dX12_digest_60 : decode cX12_digest 60 = .ok (.istore 8, 2) := by decide +kernel
theorem dX12_digest_62 : decode cX12_digest 62 = .ok (.ldc2_w 141, 3) := by decide +kernel
theorem dX12_digest_65 : decode cX12_digest 65 = .ok (.lload_n 3, 1) := by decide +kernel
theorem dX12_digest_66 : decode cX12_digest 66 = .ok (.lmul, 1) := by decide +kernel
theorem dX12_digest_67 : decode cX12_digest 67 = .ok (.iload 6, 2) := by decide +kernel
theorem dX12_digest_69 : decode cX12_digest 69 = .ok (.i2l, 1) := by decide +kernel
theorem dX12_digest_70 : decode cX12_digest 70 = .ok (.ladd, 1) := by decide +kernel
theorem dX12_digest_71 : decode cX12_digest 71 = .ok (.lstore_n 3, 1) := by decide +kernel
theorem dX12_digest_72 : decode cX12_digest 72 = .ok (.iconst 0, 1) := by decide +kernel
theorem dX12_digest_73 : decode cX12_digest 73 = .ok (.istore 9, 2) := by decide +kernel
theorem dX12_digest_75 : decode cX12_digest 75 = .ok (.iload 9, 2) := by decide +kernel
theorem dX12_digest_77 : decode cX12_digest 77 = .ok (.iload 6, 2) := by decide +kernel
theorem dX12_digest_79 : decode cX12_digest 79 = .ok (.if_icmp .ge 30, 3) := by decide +kernel
theorem dX12_digest_82 : decode cX12_digest 82 = .ok (.ldc2_w 141, 3) := by decide +kernel
theorem dX12_digest_85 : decode cX12_digest 85 = .ok (.lload_n 3, 1) := by decide +kernel
theorem dX12_digest_86 : decode cX12_digest 86 = .ok (.lmul, 1) := by decide +kernel
theorem dX12_digest_87 : decode cX12_digest 87 = .ok (.aload_n 2, 1) := by decide +kernel
theorem dX12_digest_88 : decode cX12_digest 88 = .ok (.iload 5, 2) := by decide +kernel
theorem dX12_digest_90 : decode cX12_digest 90 = .ok (.iconst 1, 1) := by decide +kernel
theorem dX12_digest_91 : decode cX12_digest 91 = .ok (.iadd, 1) := by decide +kernel
theorem dX12_digest_92 : decode cX12_digest 92 = .ok (.iload 9, 2) := by decide +kernel
theorem dX12_digest_94 : decode cX12_digest 94 = .ok (.iadd, 1) := by decide +kernel
theorem dX12_digest_95 : decode cX12_digest 95 = .ok (.baload, 1) := by decide +kernel
theorem dX12_digest_96 : decode cX12_digest 96 = .ok (.sipush 255, 3) := by decide +kernel
theorem dX12_digest_99 : decode cX12_digest 99 = .ok (.iand, 1) := by decide +kernel
theorem dX12_digest_100 : decode cX12_digest 100 = .ok (.i2l, 1) := by decide +kernel
theorem dX12_digest_101 : decode cX12_digest 101 = .ok (.ladd, 1) := by decide +kernel
theorem dX12_digest_102 : decode cX12_digest 102 = .ok (.lstore_n 3, 1) := by decide +kernel
theorem dX12_digest_103 : decode cX12_digest 103 = .ok (.iinc 9 1, 3) := by decide +kernel
theorem dX12_digest_106 : decode cX12_digest 106 = .ok (.goto (-31), 3) := by decide +kernel
theorem dX12_digest_109 : decode cX12_digest 109 = .ok (.ldc2_w 141, 3) := by decide +kernel
theorem dX12_digest_112 : decode cX12_digest 112 = .ok (.lload_n 3, 1) := by decide +kernel
theorem dX12_digest_113 : decode cX12_digest 113 = .ok (.lmul, 1) := by decide +kernel
theorem dX12_digest_114 : decode cX12_digest 114 = .ok (.iload 8, 2) := by decide +kernel
theorem dX12_digest_116 : decode cX12_digest 116 = .ok (.i2l, 1) := by decide +kernel
theorem dX12_digest_117 : decode cX12_digest 117 = .ok (.ladd, 1) := by decide +kernel
theorem dX12_digest_118 : decode cX12_digest 118 = .ok (.lstore_n 3, 1) := by decide +kernel
theorem dX12_digest_119 : decode cX12_digest 119 = .ok (.iconst 0, 1) := by decide +kernel
theorem dX12_digest_120 : decode cX12_digest 120 = .ok (.istore 9, 2) := by decide +kernel
theorem dX12_digest_122 : decode cX12_digest 122 = .ok (.iload 9, 2) := by decide +kernel
theorem dX12_digest_124 : decode cX12_digest 124 = .ok (.iload 8, 2) := by decide +kernel
theorem dX12_digest_126 : decode cX12_digest 126 = .ok (.if_icmp .ge 30, 3) := by decide +kernel
theorem dX12_digest_129 : decode cX12_digest 129 = .ok (.ldc2_w 141, 3) := by decide +kernel
theorem dX12_digest_132 : decode cX12_digest 132 = .ok (.lload_n 3, 1) := by decide +kernel
theorem dX12_digest_133 : decode cX12_digest 133 = .ok (.lmul, 1) := by decide +kernel
theorem dX12_digest_134 : decode cX12_digest 134 = .ok (.aload_n 2, 1) := by decide +kernel
theorem dX12_digest_135 : decode cX12_digest 135 = .ok (.iload 7, 2) := by decide +kernel
theorem dX12_digest_137 : decode cX12_digest 137 = .ok (.iconst 1, 1) := by decide +kernel
theorem dX12_digest_138 : decode cX12_digest 138 = .ok (.iadd, 1) := by decide +kernel
theorem dX12_digest_139 : decode cX12_digest 139 = .ok (.iload 9, 2) := by decide +kernel
theorem dX12_digest_141 : decode cX12_digest 141 = .ok (.iadd, 1) := by decide +kernel
theorem dX12_digest_142 : decode cX12_digest 142 = .ok (.baload, 1) := by decide +kernel
theorem dX12_digest_143 : decode cX12_digest 143 = .ok (.sipush 255, 3) := by decide +kernel
theorem dX12_digest_146 : decode cX12_digest 146 = .ok (.iand, 1) := by decide +kernel
theorem dX12_digest_147 : decode cX12_digest 147 = .ok (.i2l, 1) := by decide +kernel
theorem dX12_digest_148 : decode cX12_digest 148 = .ok (.ladd, 1) := by decide +kernel
theorem dX12_digest_149 : decode cX12_digest 149 = .ok (.lstore_n 3, 1) := by decide +kernel
theorem dX12_digest_150 : decode cX12_digest 150 = .ok (.iinc 9 1, 3) := by decide +kernel
theorem dX12_digest_153 : decode cX12_digest 153 = .ok (.goto (-31), 3) := by decide +kernel
theorem dX12_digest_156 : decode cX12_digest 156 = .ok (.aload_n 2, 1) := by decide +kernel
theorem dX12_digest_157 : decode cX12_digest 157 = .ok (.iload 5, 2) := by decide +kernel
theorem dX12_digest_159 : decode cX12_digest 159 = .ok (.invokestatic 41, 3) := by decide +kernel
theorem dX12_digest_162 : decode cX12_digest 162 = .ok (.istore 5, 2) := by decide +kernel
theorem dX12_digest_164 : decode cX12_digest 164 = .ok (.goto (-137), 3) := by decide +kernel
theorem dX12_digest_167 : decode cX12_digest 167 = .ok (.lload_n 3, 1) := by decide +kernel
theorem dX12_digest_168 : decode cX12_digest 168 = .ok (.lreturn, 1) := by decide +kernel
theorem dX12_check_0 : decode cX12_check 0 = .ok (.aload_n 0, 1) := by decide +kernel
theorem dX12_check_1 : decode cX12_check 1 = .ok (.aload_n 0, 1) := by decide +kernel
theorem dX12_check_2 : decode cX12_check 2 = .ok (.getfield 75, 3) := by decide +kernel
theorem dX12_check_5 : decode cX12_check 5 = .ok (.ifCond .eq 7, 3) := by decide +kernel
theorem dX12_check_8 : decode cX12_check 8 = .ok (.iconst 1, 1) := by decide +kernel
theorem dX12_check_9 : decode cX12_check 9 = .ok (.goto 4, 3) := by decide +kernel
theorem dX12_check_12 : decode cX12_check 12 = .ok (.iconst 0, 1) := by decide +kernel
theorem dX12_check_13 : decode cX12_check 13 = .ok (.putfield 38, 3) := by decide +kernel
theorem dX12_check_16 : decode cX12_check 16 = .ok (.iconst 0, 1) := by decide +kernel
theorem dX12_check_17 : decode cX12_check 17 = .ok (.ireturn, 1) := by decide +kernel
theorem dJ9_floorMod_7cf53_0 : decode cJ9_floorMod_7cf53 0 = .ok (.iload_n 0, 1) := by decide +kernel
theorem dJ9_floorMod_7cf53_1 : decode cJ9_floorMod_7cf53 1 = .ok (.iload_n 1, 1) := by decide +kernel
theorem dJ9_floorMod_7cf53_2 : decode cJ9_floorMod_7cf53 2 = .ok (.irem, 1) := by decide +kernel
theorem dJ9_floorMod_7cf53_3 : decode cJ9_floorMod_7cf53 3 = .ok (.istore_n 2, 1) := by decide +kernel
theorem dJ9_floorMod_7cf53_4 : decode cJ9_floorMod_7cf53 4 = .ok (.iload_n 0, 1) := by decide +kernel
theorem dJ9_floorMod_7cf53_5 : decode cJ9_floorMod_7cf53 5 = .ok (.iload_n 1, 1) := by decide +kernel
theorem dJ9_floorMod_7cf53_6 : decode cJ9_floorMod_7cf53 6 = .ok (.ixor, 1) := by decide +kernel
theorem dJ9_floorMod_7cf53_7 : decode cJ9_floorMod_7cf53 7 = .ok (.ifCond .ge 11, 3) := by decide +kernel
theorem dJ9_floorMod_7cf53_10 : decode cJ9_floorMod_7cf53 10 = .ok (.iload_n 2, 1) := by decide +kernel
theorem dJ9_floorMod_7cf53_11 : decode cJ9_floorMod_7cf53 11 = .ok (.ifCond .eq 7, 3) := by decide +kernel
theorem dJ9_floorMod_7cf53_14 : decode cJ9_floorMod_7cf53 14 = .ok (.iload_n 2, 1) := by decide +kernel
theorem dJ9_floorMod_7cf53_15 : decode cJ9_floorMod_7cf53 15 = .ok (.iload_n 1, 1) := by decide +kernel
theorem dJ9_floorMod_7cf53_16 : decode cJ9_floorMod_7cf53 16 = .ok (.iadd, 1) := by decide +kernel
theorem dJ9_floorMod_7cf53_17 : decode cJ9_floorMod_7cf53 17 = .ok (.ireturn, 1) := by decide +kernel
theorem dJ9_floorMod_7cf53_18 : decode cJ9_floorMod_7cf53 18 = .ok (.iload_n 2, 1) := by decide +kernel
theorem dJ9_floorMod_7cf53_19 : decode cJ9_floorMod_7cf53 19 = .ok (.ireturn, 1) := by decide +kernel
theorem dJ9_max_7cf53_0 : decode cJ9_max_7cf53 0 = .ok (.iload_n 0, 1) := by decide +kernel
theorem dJ9_max_7cf53_1 : decode cJ9_max_7cf53 1 = .ok (.iload_n 1, 1) := by decide +kernel
theorem dJ9_max_7cf53_2 : decode cJ9_max_7cf53 2 = .ok (.if_icmp .lt 7, 3) := by decide +kernel
theorem dJ9_max_7cf53_5 : decode cJ9_max_7cf53 5 = .ok (.iload_n 0, 1) := by decide +kernel
theorem dJ9_max_7cf53_6 : decode cJ9_max_7cf53 6 = .ok (.goto 4, 3) := by decide +kernel
theorem dJ9_max_7cf53_9 : decode cJ9_max_7cf53 9 = .ok (.iload_n 1, 1) := by decide +kernel
theorem dJ9_max_7cf53_10 : decode cJ9_max_7cf53 10 = .ok (.ireturn, 1) := by decide +kernel
theorem dJ9_min_7cf53_0 : decode cJ9_min_7cf53 0 = .ok (.iload_n 0, 1) := by decide +kernel
theorem dJ9_min_7cf53_1 : decode cJ9_min_7cf53 1 = .ok (.iload_n 1, 1) := by decide +kernel
theorem dJ9_min_7cf53_2 : decode cJ9_min_7cf53 2 = .ok (.if_icmp .gt 7, 3) := by decide +kernel
theorem dJ9_min_7cf53_5 : decode cJ9_min_7cf53 5 = .ok (.iload_n 0, 1) := by decide +kernel
theorem dJ9_min_7cf53_6 : decode cJ9_min_7cf53 6 = .ok (.goto 4, 3) := by decide +kernel
theorem dJ9_min_7cf53_9 : decode cJ9_min_7cf53 9 = .ok (.iload_n 1, 1) := by decide +kernel
theorem dJ9_min_7cf53_10 : decode cJ9_min_7cf53 10 = .ok (.ireturn, 1) := by decide +kernel
theorem dJ7_fill_031fb_0 : decode cJ7_fill_031fb 0 = .ok (.iconst 0, 1) := by decide +kernel
theorem dJ7_fill_031fb_1 : decode cJ7_fill_031fb 1 = .ok (.istore_n 2, 1) := by decide +kernel
theorem dJ7_fill_031fb_2 : decode cJ7_fill_031fb 2 = .ok (.aload_n 0, 1) := by decide +kernel
theorem dJ7_fill_031fb_3 : decode cJ7_fill_031fb 3 = .ok (.arraylength, 1) := by decide +kernel
theorem dJ7_fill_031fb_4 : decode cJ7_fill_031fb 4 = .ok (.istore_n 3, 1) := by decide +kernel
theorem dJ7_fill_031fb_5 : decode cJ7_fill_031fb 5 = .ok (.iload_n 2, 1) := by decide +kernel
theorem dJ7_fill_031fb_6 : decode cJ7_fill_031fb 6 = .ok (.iload_n 3, 1) := by decide +kernel
theorem dJ7_fill_031fb_7 : decode cJ7_fill_031fb 7 = .ok (.if_icmp .ge 13, 3) := by decide +kernel
theorem dJ7_fill_031fb_10 : decode cJ7_fill_031fb 10 = .ok (.aload_n 0, 1) := by decide +kernel
theorem dJ7_fill_031fb_11 : decode cJ7_fill_031fb 11 = .ok (.iload_n 2, 1) := by decide +kernel
theorem dJ7_fill_031fb_12 : decode cJ7_fill_031fb 12 = .ok (.iload_n 1, 1) := by decide +kernel
theorem dJ7_fill_031fb_13 : decode cJ7_fill_031fb 13 = .ok (.bastore, 1) := by decide +kernel
theorem dJ7_fill_031fb_14 : decode cJ7_fill_031fb 14 = .ok (.iinc 2 1, 3) := by decide +kernel
theorem dJ7_fill_031fb_17 : decode cJ7_fill_031fb 17 = .ok (.goto (-12), 3) := by decide +kernel
theorem dJ7_fill_031fb_20 : decode cJ7_fill_031fb 20 = .ok (.return_, 1) := by decide +kernel
theorem dL_key_0 : decode cL_key 0 = .ok (.aload 5, 2) := by decide +kernel
theorem dL_key_2 : decode cL_key 2 = .ok (.iconst 0, 1) := by decide +kernel
theorem dL_key_3 : decode cL_key 3 = .ok (.aload_n 0, 1) := by decide +kernel
theorem dL_key_4 : decode cL_key 4 = .ok (.lload_n 1, 1) := by decide +kernel
theorem dL_key_5 : decode cL_key 5 = .ok (.iload_n 3, 1) := by decide +kernel
theorem dL_key_6 : decode cL_key 6 = .ok (.iload 4, 2) := by decide +kernel
theorem dL_key_8 : decode cL_key 8 = .ok (.invokevirtual 7, 3) := by decide +kernel
theorem dL_key_11 : decode cL_key 11 = .ok (.i2l, 1) := by decide +kernel
theorem dL_key_12 : decode cL_key 12 = .ok (.lastore, 1) := by decide +kernel
theorem dL_key_13 : decode cL_key 13 = .ok (.goto 7, 3) := by decide +kernel
theorem dL_key_16 : decode cL_key 16 = .ok (.astore 6, 2) := by decide +kernel
theorem dL_key_18 : decode cL_key 18 = .ok (.iconst 1, 1) := by decide +kernel
theorem dL_key_19 : decode cL_key 19 = .ok (.ireturn, 1) := by decide +kernel
theorem dL_key_20 : decode cL_key 20 = .ok (.iconst 0, 1) := by decide +kernel
theorem dL_key_21 : decode cL_key 21 = .ok (.ireturn, 1) := by decide +kernel
theorem dL_value_0 : decode cL_value 0 = .ok (.aload 5, 2) := by decide +kernel
theorem dL_value_2 : decode cL_value 2 = .ok (.iconst 0, 1) := by decide +kernel
theorem dL_value_3 : decode cL_value 3 = .ok (.aload_n 0, 1) := by decide +kernel
theorem dL_value_4 : decode cL_value 4 = .ok (.lload_n 1, 1) := by decide +kernel
theorem dL_value_5 : decode cL_value 5 = .ok (.iload_n 3, 1) := by decide +kernel
theorem dL_value_6 : decode cL_value 6 = .ok (.iload 4, 2) := by decide +kernel
theorem dL_value_8 : decode cL_value 8 = .ok (.invokevirtual 15, 3) := by decide +kernel
theorem dL_value_11 : decode cL_value 11 = .ok (.i2l, 1) := by decide +kernel
theorem dL_value_12 : decode cL_value 12 = .ok (.lastore, 1) := by decide +kernel
theorem dL_value_13 : decode cL_value 13 = .ok (.goto 7, 3) := by decide +kernel
theorem dL_value_16 : decode cL_value 16 = .ok (.astore 6, 2) := by decide +kernel
theorem dL_value_18 : decode cL_value 18 = .ok (.iconst 1, 1) := by decide +kernel
theorem dL_value_19 : decode cL_value 19 = .ok (.ireturn, 1) := by decide +kernel
theorem dL_value_20 : decode cL_value 20 = .ok (.iconst 0, 1) := by decide +kernel
theorem dL_value_21 : decode cL_value 21 = .ok (.ireturn, 1) := by decide +kernel
theorem dL_begin_0 : decode cL_begin 0 = .ok (.aload_n 0, 1) := by decide +kernel
theorem dL_begin_1 : decode cL_begin 1 = .ok (.invokevirtual 18, 3) := by decide +kernel
theorem dL_begin_4 : decode cL_begin 4 = .ok (.goto 6, 3) := by decide +kernel
theorem dL_begin_7 : decode cL_begin 7 = .ok (.astore_n 1, 1) := by decide +kernel
theorem dL_begin_8 : decode cL_begin 8 = .ok (.iconst 1, 1) := by decide +kernel
theorem dL_begin_9 : decode cL_begin 9 = .ok (.ireturn, 1) := by decide +kernel
theorem dL_begin_10 : decode cL_begin 10 = .ok (.iconst 0, 1) := by decide +kernel
theorem dL_begin_11 : decode cL_begin 11 = .ok (.ireturn, 1) := by decide +kernel
theorem dL_put_0 : decode cL_put 0 = .ok (.aload_n 1, 1) := by decide +kernel
theorem dL_put_1 : decode cL_put 1 = .ok (.iconst 0, 1) := by decide +kernel
theorem dL_put_2 : decode cL_put 2 = .ok (.aload_n 0, 1) := by decide +kernel
theorem dL_put_3 : decode cL_put 3 = .ok (.invokevirtual 23, 3) := by decide +kernel
theorem dL_put_6 : decode cL_put 6 = .ok (.i2l, 1) := by decide +kernel
theorem dL_put_7 : decode cL_put 7 = .ok (.lastore, 1) := by decide +kernel
