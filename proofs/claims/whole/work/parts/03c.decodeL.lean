theorem d_L_cell_0 : decode b_L_cell 0 = .ok (.iload_n 1, 1) := by decide +kernel
theorem d_L_cell_1 : decode b_L_cell 1 = .ok (.aload_n 0, 1) := by decide +kernel
theorem d_L_cell_2 : decode b_L_cell 2 = .ok (.arraylength, 1) := by decide +kernel
theorem d_L_cell_3 : decode b_L_cell 3 = .ok (.if_icmp .ge 9, 3) := by decide +kernel
theorem d_L_cell_6 : decode b_L_cell 6 = .ok (.aload_n 0, 1) := by decide +kernel
theorem d_L_cell_7 : decode b_L_cell 7 = .ok (.iload_n 1, 1) := by decide +kernel
theorem d_L_cell_8 : decode b_L_cell 8 = .ok (.iaload, 1) := by decide +kernel
theorem d_L_cell_9 : decode b_L_cell 9 = .ok (.goto 4, 3) := by decide +kernel
theorem d_L_cell_12 : decode b_L_cell 12 = .ok (.iconst 0, 1) := by decide +kernel
theorem d_L_cell_13 : decode b_L_cell 13 = .ok (.ireturn, 1) := by decide +kernel
theorem d_L_law_0 : decode b_L_law 0 = .ok (.new 7, 3) := by decide +kernel
theorem d_L_law_3 : decode b_L_law 3 = .ok (.dup, 1) := by decide +kernel
theorem d_L_law_4 : decode b_L_law 4 = .ok (.aload_n 0, 1) := by decide +kernel
theorem d_L_law_5 : decode b_L_law 5 = .ok (.iconst 0, 1) := by decide +kernel
theorem d_L_law_6 : decode b_L_law 6 = .ok (.invokestatic 9, 3) := by decide +kernel
theorem d_L_law_9 : decode b_L_law 9 = .ok (.invokespecial 15, 3) := by decide +kernel
theorem d_L_law_12 : decode b_L_law 12 = .ok (.astore_n 1, 1) := by decide +kernel
theorem d_L_law_13 : decode b_L_law 13 = .ok (.new 18, 3) := by decide +kernel
theorem d_L_law_16 : decode b_L_law 16 = .ok (.dup, 1) := by decide +kernel
theorem d_L_law_17 : decode b_L_law 17 = .ok (.aload_n 0, 1) := by decide +kernel
theorem d_L_law_18 : decode b_L_law 18 = .ok (.iconst 0, 1) := by decide +kernel
theorem d_L_law_19 : decode b_L_law 19 = .ok (.invokestatic 9, 3) := by decide +kernel
theorem d_L_law_22 : decode b_L_law 22 = .ok (.invokespecial 20, 3) := by decide +kernel
theorem d_L_law_25 : decode b_L_law 25 = .ok (.astore_n 2, 1) := by decide +kernel
theorem d_L_law_26 : decode b_L_law 26 = .ok (.iconst 1, 1) := by decide +kernel
theorem d_L_law_27 : decode b_L_law 27 = .ok (.istore_n 3, 1) := by decide +kernel
theorem d_L_law_28 : decode b_L_law 28 = .ok (.iload_n 3, 1) := by decide +kernel
theorem d_L_law_29 : decode b_L_law 29 = .ok (.aload_n 0, 1) := by decide +kernel
theorem d_L_law_30 : decode b_L_law 30 = .ok (.arraylength, 1) := by decide +kernel
theorem d_L_law_31 : decode b_L_law 31 = .ok (.iconst 5, 1) := by decide +kernel
theorem d_L_law_32 : decode b_L_law 32 = .ok (.isub, 1) := by decide +kernel
theorem d_L_law_33 : decode b_L_law 33 = .ok (.if_icmp .gt 426, 3) := by decide +kernel
theorem d_L_law_36 : decode b_L_law 36 = .ok (.aload_n 0, 1) := by decide +kernel
theorem d_L_law_37 : decode b_L_law 37 = .ok (.iload_n 3, 1) := by decide +kernel
theorem d_L_law_38 : decode b_L_law 38 = .ok (.iaload, 1) := by decide +kernel
theorem d_L_law_39 : decode b_L_law 39 = .ok (.bipush 15, 2) := by decide +kernel
theorem d_L_law_41 : decode b_L_law 41 = .ok (.iand, 1) := by decide +kernel
theorem d_L_law_42 : decode b_L_law 42 = .ok (.tableswitch 411 0 9 #[54, 108, 141, 174, 217, 266, 279, 302, 315, 338], 54) := by decide +kernel
theorem d_L_law_96 : decode b_L_law 96 = .ok (.aload_n 1, 1) := by decide +kernel
theorem d_L_law_97 : decode b_L_law 97 = .ok (.aload_n 0, 1) := by decide +kernel
theorem d_L_law_98 : decode b_L_law 98 = .ok (.iload_n 3, 1) := by decide +kernel
theorem d_L_law_99 : decode b_L_law 99 = .ok (.iconst 1, 1) := by decide +kernel
theorem d_L_law_100 : decode b_L_law 100 = .ok (.iadd, 1) := by decide +kernel
theorem d_L_law_101 : decode b_L_law 101 = .ok (.iaload, 1) := by decide +kernel
theorem d_L_law_102 : decode b_L_law 102 = .ok (.i2l, 1) := by decide +kernel
theorem d_L_law_103 : decode b_L_law 103 = .ok (.bipush 32, 2) := by decide +kernel
theorem d_L_law_105 : decode b_L_law 105 = .ok (.lshl, 1) := by decide +kernel
theorem d_L_law_106 : decode b_L_law 106 = .ok (.aload_n 0, 1) := by decide +kernel
theorem d_L_law_107 : decode b_L_law 107 = .ok (.iload_n 3, 1) := by decide +kernel
theorem d_L_law_108 : decode b_L_law 108 = .ok (.iconst 2, 1) := by decide +kernel
theorem d_L_law_109 : decode b_L_law 109 = .ok (.iadd, 1) := by decide +kernel
theorem d_L_law_110 : decode b_L_law 110 = .ok (.iaload, 1) := by decide +kernel
theorem d_L_law_111 : decode b_L_law 111 = .ok (.i2l, 1) := by decide +kernel
theorem d_L_law_112 : decode b_L_law 112 = .ok (.ldc2_w 21, 3) := by decide +kernel
theorem d_L_law_115 : decode b_L_law 115 = .ok (.land, 1) := by decide +kernel
theorem d_L_law_116 : decode b_L_law 116 = .ok (.lor, 1) := by decide +kernel
theorem d_L_law_117 : decode b_L_law 117 = .ok (.invokevirtual 23, 3) := by decide +kernel
theorem d_L_law_120 : decode b_L_law 120 = .ok (.aload_n 2, 1) := by decide +kernel
theorem d_L_law_121 : decode b_L_law 121 = .ok (.aload_n 0, 1) := by decide +kernel
theorem d_L_law_122 : decode b_L_law 122 = .ok (.iload_n 3, 1) := by decide +kernel
theorem d_L_law_123 : decode b_L_law 123 = .ok (.iconst 1, 1) := by decide +kernel
theorem d_L_law_124 : decode b_L_law 124 = .ok (.iadd, 1) := by decide +kernel
theorem d_L_law_125 : decode b_L_law 125 = .ok (.iaload, 1) := by decide +kernel
theorem d_L_law_126 : decode b_L_law 126 = .ok (.i2l, 1) := by decide +kernel
theorem d_L_law_127 : decode b_L_law 127 = .ok (.bipush 32, 2) := by decide +kernel
theorem d_L_law_129 : decode b_L_law 129 = .ok (.lshl, 1) := by decide +kernel
theorem d_L_law_130 : decode b_L_law 130 = .ok (.aload_n 0, 1) := by decide +kernel
theorem d_L_law_131 : decode b_L_law 131 = .ok (.iload_n 3, 1) := by decide +kernel
theorem d_L_law_132 : decode b_L_law 132 = .ok (.iconst 2, 1) := by decide +kernel
theorem d_L_law_133 : decode b_L_law 133 = .ok (.iadd, 1) := by decide +kernel
theorem d_L_law_134 : decode b_L_law 134 = .ok (.iaload, 1) := by decide +kernel
theorem d_L_law_135 : decode b_L_law 135 = .ok (.i2l, 1) := by decide +kernel
theorem d_L_law_136 : decode b_L_law 136 = .ok (.ldc2_w 21, 3) := by decide +kernel
theorem d_L_law_139 : decode b_L_law 139 = .ok (.land, 1) := by decide +kernel
theorem d_L_law_140 : decode b_L_law 140 = .ok (.lor, 1) := by decide +kernel
theorem d_L_law_141 : decode b_L_law 141 = .ok (.invokevirtual 27, 3) := by decide +kernel
theorem d_L_law_144 : decode b_L_law 144 = .ok (.lcmp, 1) := by decide +kernel
theorem d_L_law_145 : decode b_L_law 145 = .ok (.ifCond .eq 308, 3) := by decide +kernel
theorem d_L_law_148 : decode b_L_law 148 = .ok (.iconst 0, 1) := by decide +kernel
theorem d_L_law_149 : decode b_L_law 149 = .ok (.ireturn, 1) := by decide +kernel
theorem d_L_law_150 : decode b_L_law 150 = .ok (.aload_n 1, 1) := by decide +kernel
theorem d_L_law_151 : decode b_L_law 151 = .ok (.aload_n 0, 1) := by decide +kernel
theorem d_L_law_152 : decode b_L_law 152 = .ok (.iload_n 3, 1) := by decide +kernel
theorem d_L_law_153 : decode b_L_law 153 = .ok (.iconst 1, 1) := by decide +kernel
theorem d_L_law_154 : decode b_L_law 154 = .ok (.iadd, 1) := by decide +kernel
theorem d_L_law_155 : decode b_L_law 155 = .ok (.iaload, 1) := by decide +kernel
theorem d_L_law_156 : decode b_L_law 156 = .ok (.aload_n 0, 1) := by decide +kernel
theorem d_L_law_157 : decode b_L_law 157 = .ok (.iload_n 3, 1) := by decide +kernel
theorem d_L_law_158 : decode b_L_law 158 = .ok (.iconst 2, 1) := by decide +kernel
theorem d_L_law_159 : decode b_L_law 159 = .ok (.iadd, 1) := by decide +kernel
theorem d_L_law_160 : decode b_L_law 160 = .ok (.iaload, 1) := by decide +kernel
theorem d_L_law_161 : decode b_L_law 161 = .ok (.invokevirtual 28, 3) := by decide +kernel
theorem d_L_law_164 : decode b_L_law 164 = .ok (.aload_n 2, 1) := by decide +kernel
theorem d_L_law_165 : decode b_L_law 165 = .ok (.aload_n 0, 1) := by decide +kernel
theorem d_L_law_166 : decode b_L_law 166 = .ok (.iload_n 3, 1) := by decide +kernel
theorem d_L_law_167 : decode b_L_law 167 = .ok (.iconst 1, 1) := by decide +kernel
theorem d_L_law_168 : decode b_L_law 168 = .ok (.iadd, 1) := by decide +kernel
theorem d_L_law_169 : decode b_L_law 169 = .ok (.iaload, 1) := by decide +kernel
theorem d_L_law_170 : decode b_L_law 170 = .ok (.aload_n 0, 1) := by decide +kernel
theorem d_L_law_171 : decode b_L_law 171 = .ok (.iload_n 3, 1) := by decide +kernel
theorem d_L_law_172 : decode b_L_law 172 = .ok (.iconst 2, 1) := by decide +kernel
theorem d_L_law_173 : decode b_L_law 173 = .ok (.iadd, 1) := by decide +kernel
theorem d_L_law_174 : decode b_L_law 174 = .ok (.iaload, 1) := by decide +kernel
theorem d_L_law_175 : decode b_L_law 175 = .ok (.invokevirtual 32, 3) := by decide +kernel
theorem d_L_law_178 : decode b_L_law 178 = .ok (.if_icmp .eq 275, 3) := by decide +kernel
theorem d_L_law_181 : decode b_L_law 181 = .ok (.iconst 0, 1) := by decide +kernel
theorem d_L_law_182 : decode b_L_law 182 = .ok (.ireturn, 1) := by decide +kernel
theorem d_L_law_183 : decode b_L_law 183 = .ok (.aload_n 1, 1) := by decide +kernel
theorem d_L_law_184 : decode b_L_law 184 = .ok (.aload_n 0, 1) := by decide +kernel
theorem d_L_law_185 : decode b_L_law 185 = .ok (.iload_n 3, 1) := by decide +kernel
theorem d_L_law_186 : decode b_L_law 186 = .ok (.iconst 1, 1) := by decide +kernel
theorem d_L_law_187 : decode b_L_law 187 = .ok (.iadd, 1) := by decide +kernel
theorem d_L_law_188 : decode b_L_law 188 = .ok (.iaload, 1) := by decide +kernel
theorem d_L_law_189 : decode b_L_law 189 = .ok (.aload_n 0, 1) := by decide +kernel
theorem d_L_law_190 : decode b_L_law 190 = .ok (.iload_n 3, 1) := by decide +kernel
theorem d_L_law_191 : decode b_L_law 191 = .ok (.iconst 2, 1) := by decide +kernel
theorem d_L_law_192 : decode b_L_law 192 = .ok (.iadd, 1) := by decide +kernel
theorem d_L_law_193 : decode b_L_law 193 = .ok (.iaload, 1) := by decide +kernel
theorem d_L_law_194 : decode b_L_law 194 = .ok (.invokevirtual 33, 3) := by decide +kernel
theorem d_L_law_197 : decode b_L_law 197 = .ok (.aload_n 2, 1) := by decide +kernel
theorem d_L_law_198 : decode b_L_law 198 = .ok (.aload_n 0, 1) := by decide +kernel
theorem d_L_law_199 : decode b_L_law 199 = .ok (.iload_n 3, 1) := by decide +kernel
theorem d_L_law_200 : decode b_L_law 200 = .ok (.iconst 1, 1) := by decide +kernel
theorem d_L_law_201 : decode b_L_law 201 = .ok (.iadd, 1) := by decide +kernel
theorem d_L_law_202 : decode b_L_law 202 = .ok (.iaload, 1) := by decide +kernel
theorem d_L_law_203 : decode b_L_law 203 = .ok (.aload_n 0, 1) := by decide +kernel
theorem d_L_law_204 : decode b_L_law 204 = .ok (.iload_n 3, 1) := by decide +kernel
theorem d_L_law_205 : decode b_L_law 205 = .ok (.iconst 2, 1) := by decide +kernel
theorem d_L_law_206 : decode b_L_law 206 = .ok (.iadd, 1) := by decide +kernel
theorem d_L_law_207 : decode b_L_law 207 = .ok (.iaload, 1) := by decide +kernel
theorem d_L_law_208 : decode b_L_law 208 = .ok (.invokevirtual 36, 3) := by decide +kernel
theorem d_L_law_211 : decode b_L_law 211 = .ok (.if_icmp .eq 242, 3) := by decide +kernel
theorem d_L_law_214 : decode b_L_law 214 = .ok (.iconst 0, 1) := by decide +kernel
theorem d_L_law_215 : decode b_L_law 215 = .ok (.ireturn, 1) := by decide +kernel
theorem d_L_law_216 : decode b_L_law 216 = .ok (.aload_n 1, 1) := by decide +kernel
theorem d_L_law_217 : decode b_L_law 217 = .ok (.aload_n 0, 1) := by decide +kernel
theorem d_L_law_218 : decode b_L_law 218 = .ok (.iload_n 3, 1) := by decide +kernel
theorem d_L_law_219 : decode b_L_law 219 = .ok (.iconst 1, 1) := by decide +kernel
theorem d_L_law_220 : decode b_L_law 220 = .ok (.iadd, 1) := by decide +kernel
theorem d_L_law_221 : decode b_L_law 221 = .ok (.iaload, 1) := by decide +kernel
theorem d_L_law_222 : decode b_L_law 222 = .ok (.aload_n 0, 1) := by decide +kernel
theorem d_L_law_223 : decode b_L_law 223 = .ok (.iload_n 3, 1) := by decide +kernel
theorem d_L_law_224 : decode b_L_law 224 = .ok (.iconst 2, 1) := by decide +kernel
theorem d_L_law_225 : decode b_L_law 225 = .ok (.iadd, 1) := by decide +kernel
theorem d_L_law_226 : decode b_L_law 226 = .ok (.iaload, 1) := by decide +kernel
theorem d_L_law_227 : decode b_L_law 227 = .ok (.aload_n 0, 1) := by decide +kernel
theorem d_L_law_228 : decode b_L_law 228 = .ok (.iload_n 3, 1) := by decide +kernel
theorem d_L_law_229 : decode b_L_law 229 = .ok (.iconst 3, 1) := by decide +kernel
theorem d_L_law_230 : decode b_L_law 230 = .ok (.iadd, 1) := by decide +kernel
theorem d_L_law_231 : decode b_L_law 231 = .ok (.iaload, 1) := by decide +kernel
theorem d_L_law_232 : decode b_L_law 232 = .ok (.invokevirtual 37, 3) := by decide +kernel
theorem d_L_law_235 : decode b_L_law 235 = .ok (.aload_n 2, 1) := by decide +kernel
theorem d_L_law_236 : decode b_L_law 236 = .ok (.aload_n 0, 1) := by decide +kernel
theorem d_L_law_237 : decode b_L_law 237 = .ok (.iload_n 3, 1) := by decide +kernel
theorem d_L_law_238 : decode b_L_law 238 = .ok (.iconst 1, 1) := by decide +kernel
theorem d_L_law_239 : decode b_L_law 239 = .ok (.iadd, 1) := by decide +kernel
theorem d_L_law_240 : decode b_L_law 240 = .ok (.iaload, 1) := by decide +kernel
theorem d_L_law_241 : decode b_L_law 241 = .ok (.aload_n 0, 1) := by decide +kernel
theorem d_L_law_242 : decode b_L_law 242 = .ok (.iload_n 3, 1) := by decide +kernel
theorem d_L_law_243 : decode b_L_law 243 = .ok (.iconst 2, 1) := by decide +kernel
theorem d_L_law_244 : decode b_L_law 244 = .ok (.iadd, 1) := by decide +kernel
theorem d_L_law_245 : decode b_L_law 245 = .ok (.iaload, 1) := by decide +kernel
theorem d_L_law_246 : decode b_L_law 246 = .ok (.aload_n 0, 1) := by decide +kernel
theorem d_L_law_247 : decode b_L_law 247 = .ok (.iload_n 3, 1) := by decide +kernel
theorem d_L_law_248 : decode b_L_law 248 = .ok (.iconst 3, 1) := by decide +kernel
theorem d_L_law_249 : decode b_L_law 249 = .ok (.iadd, 1) := by decide +kernel
theorem d_L_law_250 : decode b_L_law 250 = .ok (.iaload, 1) := by decide +kernel
theorem d_L_law_251 : decode b_L_law 251 = .ok (.invokevirtual 41, 3) := by decide +kernel
theorem d_L_law_254 : decode b_L_law 254 = .ok (.if_icmp .eq 199, 3) := by decide +kernel
theorem d_L_law_257 : decode b_L_law 257 = .ok (.iconst 0, 1) := by decide +kernel
theorem d_L_law_258 : decode b_L_law 258 = .ok (.ireturn, 1) := by decide +kernel
theorem d_L_law_259 : decode b_L_law 259 = .ok (.aload_n 1, 1) := by decide +kernel
theorem d_L_law_260 : decode b_L_law 260 = .ok (.aload_n 0, 1) := by decide +kernel
theorem d_L_law_261 : decode b_L_law 261 = .ok (.iload_n 3, 1) := by decide +kernel
theorem d_L_law_262 : decode b_L_law 262 = .ok (.iconst 1, 1) := by decide +kernel
theorem d_L_law_263 : decode b_L_law 263 = .ok (.iadd, 1) := by decide +kernel
theorem d_L_law_264 : decode b_L_law 264 = .ok (.iaload, 1) := by decide +kernel
theorem d_L_law_265 : decode b_L_law 265 = .ok (.aload_n 0, 1) := by decide +kernel
theorem d_L_law_266 : decode b_L_law 266 = .ok (.iload_n 3, 1) := by decide +kernel
theorem d_L_law_267 : decode b_L_law 267 = .ok (.iconst 2, 1) := by decide +kernel
theorem d_L_law_268 : decode b_L_law 268 = .ok (.iadd, 1) := by decide +kernel
theorem d_L_law_269 : decode b_L_law 269 = .ok (.iaload, 1) := by decide +kernel
theorem d_L_law_270 : decode b_L_law 270 = .ok (.ifCond .eq 7, 3) := by decide +kernel
theorem d_L_law_273 : decode b_L_law 273 = .ok (.iconst 1, 1) := by decide +kernel
theorem d_L_law_274 : decode b_L_law 274 = .ok (.goto 4, 3) := by decide +kernel
theorem d_L_law_277 : decode b_L_law 277 = .ok (.iconst 0, 1) := by decide +kernel
theorem d_L_law_278 : decode b_L_law 278 = .ok (.invokevirtual 42, 3) := by decide +kernel
theorem d_L_law_281 : decode b_L_law 281 = .ok (.aload_n 2, 1) := by decide +kernel
theorem d_L_law_282 : decode b_L_law 282 = .ok (.aload_n 0, 1) := by decide +kernel
theorem d_L_law_283 : decode b_L_law 283 = .ok (.iload_n 3, 1) := by decide +kernel
theorem d_L_law_284 : decode b_L_law 284 = .ok (.iconst 1, 1) := by decide +kernel
theorem d_L_law_285 : decode b_L_law 285 = .ok (.iadd, 1) := by decide +kernel
theorem d_L_law_286 : decode b_L_law 286 = .ok (.iaload, 1) := by decide +kernel
theorem d_L_law_287 : decode b_L_law 287 = .ok (.aload_n 0, 1) := by decide +kernel
theorem d_L_law_288 : decode b_L_law 288 = .ok (.iload_n 3, 1) := by decide +kernel
theorem d_L_law_289 : decode b_L_law 289 = .ok (.iconst 2, 1) := by decide +kernel
theorem d_L_law_290 : decode b_L_law 290 = .ok (.iadd, 1) := by decide +kernel
theorem d_L_law_291 : decode b_L_law 291 = .ok (.iaload, 1) := by decide +kernel
theorem d_L_law_292 : decode b_L_law 292 = .ok (.ifCond .eq 7, 3) := by decide +kernel
theorem d_L_law_295 : decode b_L_law 295 = .ok (.iconst 1, 1) := by decide +kernel
theorem d_L_law_296 : decode b_L_law 296 = .ok (.goto 4, 3) := by decide +kernel
theorem d_L_law_299 : decode b_L_law 299 = .ok (.iconst 0, 1) := by decide +kernel
theorem d_L_law_300 : decode b_L_law 300 = .ok (.invokevirtual 46, 3) := by decide +kernel
theorem d_L_law_303 : decode b_L_law 303 = .ok (.if_icmp .eq 150, 3) := by decide +kernel
theorem d_L_law_306 : decode b_L_law 306 = .ok (.iconst 0, 1) := by decide +kernel
theorem d_L_law_307 : decode b_L_law 307 = .ok (.ireturn, 1) := by decide +kernel
theorem d_L_law_308 : decode b_L_law 308 = .ok (.aload_n 1, 1) := by decide +kernel
theorem d_L_law_309 : decode b_L_law 309 = .ok (.invokevirtual 47, 3) := by decide +kernel
theorem d_L_law_312 : decode b_L_law 312 = .ok (.aload_n 2, 1) := by decide +kernel
theorem d_L_law_313 : decode b_L_law 313 = .ok (.invokevirtual 51, 3) := by decide +kernel
theorem d_L_law_316 : decode b_L_law 316 = .ok (.if_icmp .eq 137, 3) := by decide +kernel
theorem d_L_law_319 : decode b_L_law 319 = .ok (.iconst 0, 1) := by decide +kernel
theorem d_L_law_320 : decode b_L_law 320 = .ok (.ireturn, 1) := by decide +kernel
theorem d_L_law_321 : decode b_L_law 321 = .ok (.aload_n 1, 1) := by decide +kernel
theorem d_L_law_322 : decode b_L_law 322 = .ok (.aload_n 0, 1) := by decide +kernel
theorem d_L_law_323 : decode b_L_law 323 = .ok (.iload_n 3, 1) := by decide +kernel
theorem d_L_law_324 : decode b_L_law 324 = .ok (.iconst 1, 1) := by decide +kernel
theorem d_L_law_325 : decode b_L_law 325 = .ok (.iadd, 1) := by decide +kernel
theorem d_L_law_326 : decode b_L_law 326 = .ok (.iaload, 1) := by decide +kernel
theorem d_L_law_327 : decode b_L_law 327 = .ok (.invokevirtual 52, 3) := by decide +kernel
theorem d_L_law_330 : decode b_L_law 330 = .ok (.aload_n 2, 1) := by decide +kernel
theorem d_L_law_331 : decode b_L_law 331 = .ok (.aload_n 0, 1) := by decide +kernel
theorem d_L_law_332 : decode b_L_law 332 = .ok (.iload_n 3, 1) := by decide +kernel
theorem d_L_law_333 : decode b_L_law 333 = .ok (.iconst 1, 1) := by decide +kernel
theorem d_L_law_334 : decode b_L_law 334 = .ok (.iadd, 1) := by decide +kernel
theorem d_L_law_335 : decode b_L_law 335 = .ok (.iaload, 1) := by decide +kernel
theorem d_L_law_336 : decode b_L_law 336 = .ok (.invokevirtual 56, 3) := by decide +kernel
theorem d_L_law_339 : decode b_L_law 339 = .ok (.if_icmp .eq 114, 3) := by decide +kernel
theorem d_L_law_342 : decode b_L_law 342 = .ok (.iconst 0, 1) := by decide +kernel
theorem d_L_law_343 : decode b_L_law 343 = .ok (.ireturn, 1) := by decide +kernel
theorem d_L_law_344 : decode b_L_law 344 = .ok (.aload_n 1, 1) := by decide +kernel
theorem d_L_law_345 : decode b_L_law 345 = .ok (.invokevirtual 57, 3) := by decide +kernel
theorem d_L_law_348 : decode b_L_law 348 = .ok (.aload_n 2, 1) := by decide +kernel
theorem d_L_law_349 : decode b_L_law 349 = .ok (.invokevirtual 61, 3) := by decide +kernel
theorem d_L_law_352 : decode b_L_law 352 = .ok (.if_icmp .eq 101, 3) := by decide +kernel
theorem d_L_law_355 : decode b_L_law 355 = .ok (.iconst 0, 1) := by decide +kernel
theorem d_L_law_356 : decode b_L_law 356 = .ok (.ireturn, 1) := by decide +kernel
theorem d_L_law_357 : decode b_L_law 357 = .ok (.aload_n 1, 1) := by decide +kernel
theorem d_L_law_358 : decode b_L_law 358 = .ok (.aload_n 0, 1) := by decide +kernel
theorem d_L_law_359 : decode b_L_law 359 = .ok (.iload_n 3, 1) := by decide +kernel
theorem d_L_law_360 : decode b_L_law 360 = .ok (.iconst 1, 1) := by decide +kernel
theorem d_L_law_361 : decode b_L_law 361 = .ok (.iadd, 1) := by decide +kernel
theorem d_L_law_362 : decode b_L_law 362 = .ok (.iaload, 1) := by decide +kernel
theorem d_L_law_363 : decode b_L_law 363 = .ok (.invokevirtual 62, 3) := by decide +kernel
theorem d_L_law_366 : decode b_L_law 366 = .ok (.aload_n 2, 1) := by decide +kernel
theorem d_L_law_367 : decode b_L_law 367 = .ok (.aload_n 0, 1) := by decide +kernel
theorem d_L_law_368 : decode b_L_law 368 = .ok (.iload_n 3, 1) := by decide +kernel
theorem d_L_law_369 : decode b_L_law 369 = .ok (.iconst 1, 1) := by decide +kernel
theorem d_L_law_370 : decode b_L_law 370 = .ok (.iadd, 1) := by decide +kernel
theorem d_L_law_371 : decode b_L_law 371 = .ok (.iaload, 1) := by decide +kernel
theorem d_L_law_372 : decode b_L_law 372 = .ok (.invokevirtual 66, 3) := by decide +kernel
theorem d_L_law_375 : decode b_L_law 375 = .ok (.if_icmp .eq 78, 3) := by decide +kernel
theorem d_L_law_378 : decode b_L_law 378 = .ok (.iconst 0, 1) := by decide +kernel
theorem d_L_law_379 : decode b_L_law 379 = .ok (.ireturn, 1) := by decide +kernel
theorem d_L_law_380 : decode b_L_law 380 = .ok (.aload_n 1, 1) := by decide +kernel
theorem d_L_law_381 : decode b_L_law 381 = .ok (.aload_n 0, 1) := by decide +kernel
theorem d_L_law_382 : decode b_L_law 382 = .ok (.iload_n 3, 1) := by decide +kernel
theorem d_L_law_383 : decode b_L_law 383 = .ok (.iconst 1, 1) := by decide +kernel
theorem d_L_law_384 : decode b_L_law 384 = .ok (.iadd, 1) := by decide +kernel
theorem d_L_law_385 : decode b_L_law 385 = .ok (.iaload, 1) := by decide +kernel
theorem d_L_law_386 : decode b_L_law 386 = .ok (.i2l, 1) := by decide +kernel
theorem d_L_law_387 : decode b_L_law 387 = .ok (.bipush 32, 2) := by decide +kernel
theorem d_L_law_389 : decode b_L_law 389 = .ok (.lshl, 1) := by decide +kernel
theorem d_L_law_390 : decode b_L_law 390 = .ok (.aload_n 0, 1) := by decide +kernel
theorem d_L_law_391 : decode b_L_law 391 = .ok (.iload_n 3, 1) := by decide +kernel
theorem d_L_law_392 : decode b_L_law 392 = .ok (.iconst 2, 1) := by decide +kernel
theorem d_L_law_393 : decode b_L_law 393 = .ok (.iadd, 1) := by decide +kernel
theorem d_L_law_394 : decode b_L_law 394 = .ok (.iaload, 1) := by decide +kernel
theorem d_L_law_395 : decode b_L_law 395 = .ok (.i2l, 1) := by decide +kernel
theorem d_L_law_396 : decode b_L_law 396 = .ok (.ldc2_w 21, 3) := by decide +kernel
theorem d_L_law_399 : decode b_L_law 399 = .ok (.land, 1) := by decide +kernel
theorem d_L_law_400 : decode b_L_law 400 = .ok (.lor, 1) := by decide +kernel
theorem d_L_law_401 : decode b_L_law 401 = .ok (.aload_n 0, 1) := by decide +kernel
theorem d_L_law_402 : decode b_L_law 402 = .ok (.iload_n 3, 1) := by decide +kernel
theorem d_L_law_403 : decode b_L_law 403 = .ok (.iconst 3, 1) := by decide +kernel
theorem d_L_law_404 : decode b_L_law 404 = .ok (.iadd, 1) := by decide +kernel
theorem d_L_law_405 : decode b_L_law 405 = .ok (.iaload, 1) := by decide +kernel
theorem d_L_law_406 : decode b_L_law 406 = .ok (.aload_n 0, 1) := by decide +kernel
theorem d_L_law_407 : decode b_L_law 407 = .ok (.iload_n 3, 1) := by decide +kernel
theorem d_L_law_408 : decode b_L_law 408 = .ok (.iconst 4, 1) := by decide +kernel
theorem d_L_law_409 : decode b_L_law 409 = .ok (.iadd, 1) := by decide +kernel
theorem d_L_law_410 : decode b_L_law 410 = .ok (.iaload, 1) := by decide +kernel
theorem d_L_law_411 : decode b_L_law 411 = .ok (.invokevirtual 67, 3) := by decide +kernel
theorem d_L_law_414 : decode b_L_law 414 = .ok (.aload_n 2, 1) := by decide +kernel
theorem d_L_law_415 : decode b_L_law 415 = .ok (.aload_n 0, 1) := by decide +kernel
theorem d_L_law_416 : decode b_L_law 416 = .ok (.iload_n 3, 1) := by decide +kernel
theorem d_L_law_417 : decode b_L_law 417 = .ok (.iconst 1, 1) := by decide +kernel
theorem d_L_law_418 : decode b_L_law 418 = .ok (.iadd, 1) := by decide +kernel
theorem d_L_law_419 : decode b_L_law 419 = .ok (.iaload, 1) := by decide +kernel
theorem d_L_law_420 : decode b_L_law 420 = .ok (.i2l, 1) := by decide +kernel
theorem d_L_law_421 : decode b_L_law 421 = .ok (.bipush 32, 2) := by decide +kernel
theorem d_L_law_423 : decode b_L_law 423 = .ok (.lshl, 1) := by decide +kernel
theorem d_L_law_424 : decode b_L_law 424 = .ok (.aload_n 0, 1) := by decide +kernel
theorem d_L_law_425 : decode b_L_law 425 = .ok (.iload_n 3, 1) := by decide +kernel
theorem d_L_law_426 : decode b_L_law 426 = .ok (.iconst 2, 1) := by decide +kernel
theorem d_L_law_427 : decode b_L_law 427 = .ok (.iadd, 1) := by decide +kernel
theorem d_L_law_428 : decode b_L_law 428 = .ok (.iaload, 1) := by decide +kernel
theorem d_L_law_429 : decode b_L_law 429 = .ok (.i2l, 1) := by decide +kernel
theorem d_L_law_430 : decode b_L_law 430 = .ok (.ldc2_w 21, 3) := by decide +kernel
theorem d_L_law_433 : decode b_L_law 433 = .ok (.land, 1) := by decide +kernel
theorem d_L_law_434 : decode b_L_law 434 = .ok (.lor, 1) := by decide +kernel
theorem d_L_law_435 : decode b_L_law 435 = .ok (.aload_n 0, 1) := by decide +kernel
theorem d_L_law_436 : decode b_L_law 436 = .ok (.iload_n 3, 1) := by decide +kernel
theorem d_L_law_437 : decode b_L_law 437 = .ok (.iconst 3, 1) := by decide +kernel
theorem d_L_law_438 : decode b_L_law 438 = .ok (.iadd, 1) := by decide +kernel
theorem d_L_law_439 : decode b_L_law 439 = .ok (.iaload, 1) := by decide +kernel
theorem d_L_law_440 : decode b_L_law 440 = .ok (.aload_n 0, 1) := by decide +kernel
theorem d_L_law_441 : decode b_L_law 441 = .ok (.iload_n 3, 1) := by decide +kernel
theorem d_L_law_442 : decode b_L_law 442 = .ok (.iconst 4, 1) := by decide +kernel
theorem d_L_law_443 : decode b_L_law 443 = .ok (.iadd, 1) := by decide +kernel
theorem d_L_law_444 : decode b_L_law 444 = .ok (.iaload, 1) := by decide +kernel
theorem d_L_law_445 : decode b_L_law 445 = .ok (.invokevirtual 71, 3) := by decide +kernel
theorem d_L_law_448 : decode b_L_law 448 = .ok (.if_icmp .eq 5, 3) := by decide +kernel
theorem d_L_law_451 : decode b_L_law 451 = .ok (.iconst 0, 1) := by decide +kernel
theorem d_L_law_452 : decode b_L_law 452 = .ok (.ireturn, 1) := by decide +kernel
theorem d_L_law_453 : decode b_L_law 453 = .ok (.iinc 3 5, 3) := by decide +kernel
theorem d_L_law_456 : decode b_L_law 456 = .ok (.goto (-428), 3) := by decide +kernel
theorem d_L_law_459 : decode b_L_law 459 = .ok (.iconst 1, 1) := by decide +kernel
theorem d_L_law_460 : decode b_L_law 460 = .ok (.ireturn, 1) := by decide +kernel
