theorem dL_act_0 : decode cL_act 0 = .ok (.iload_n 1, 1) := by decide +kernel
theorem dL_act_1 : decode cL_act 1 = .ok (.bipush 16, 2) := by decide +kernel
theorem dL_act_3 : decode cL_act 3 = .ok (.idiv, 1) := by decide +kernel
theorem dL_act_4 : decode cL_act 4 = .ok (.istore_n 2, 1) := by decide +kernel
theorem dL_act_5 : decode cL_act 5 = .ok (.aload_n 0, 1) := by decide +kernel
theorem dL_act_6 : decode cL_act 6 = .ok (.iconst 2, 1) := by decide +kernel
theorem dL_act_7 : decode cL_act 7 = .ok (.iconst 0, 1) := by decide +kernel
theorem dL_act_8 : decode cL_act 8 = .ok (.iconst 0, 1) := by decide +kernel
theorem dL_act_9 : decode cL_act 9 = .ok (.iconst 0, 1) := by decide +kernel
theorem dL_act_10 : decode cL_act 10 = .ok (.invokestatic 172, 3) := by decide +kernel
theorem dL_act_13 : decode cL_act 13 = .ok (.istore_n 3, 1) := by decide +kernel
theorem dL_act_14 : decode cL_act 14 = .ok (.iload_n 2, 1) := by decide +kernel
theorem dL_act_15 : decode cL_act 15 = .ok (.aload_n 0, 1) := by decide +kernel
theorem dL_act_16 : decode cL_act 16 = .ok (.iconst 2, 1) := by decide +kernel
theorem dL_act_17 : decode cL_act 17 = .ok (.iconst 3, 1) := by decide +kernel
theorem dL_act_18 : decode cL_act 18 = .ok (.iconst 0, 1) := by decide +kernel
theorem dL_act_19 : decode cL_act 19 = .ok (.iconst 0, 1) := by decide +kernel
theorem dL_act_20 : decode cL_act 20 = .ok (.invokestatic 172, 3) := by decide +kernel
theorem dL_act_23 : decode cL_act 23 = .ok (.irem, 1) := by decide +kernel
theorem dL_act_24 : decode cL_act 24 = .ok (.istore 4, 2) := by decide +kernel
theorem dL_act_26 : decode cL_act 26 = .ok (.iload_n 1, 1) := by decide +kernel
theorem dL_act_27 : decode cL_act 27 = .ok (.bipush 16, 2) := by decide +kernel
theorem dL_act_29 : decode cL_act 29 = .ok (.irem, 1) := by decide +kernel
theorem dL_act_30 : decode cL_act 30 = .ok (.tableswitch 289 0 14 #[74, 74, 111, 111, 111, 111, 136, 136, 154, 154, 165, 197, 224, 241, 253], 74) := by decide +kernel
theorem dL_act_104 : decode cL_act 104 = .ok (.aload_n 0, 1) := by decide +kernel
theorem dL_act_105 : decode cL_act 105 = .ok (.bipush 7, 2) := by decide +kernel
theorem dL_act_107 : decode cL_act 107 = .ok (.iload_n 2, 1) := by decide +kernel
theorem dL_act_108 : decode cL_act 108 = .ok (.iconst 4, 1) := by decide +kernel
theorem dL_act_109 : decode cL_act 109 = .ok (.irem, 1) := by decide +kernel
theorem dL_act_110 : decode cL_act 110 = .ok (.iconst 3, 1) := by decide +kernel
theorem dL_act_111 : decode cL_act 111 = .ok (.if_icmp .ge 11, 3) := by decide +kernel
theorem dL_act_114 : decode cL_act 114 = .ok (.iload_n 2, 1) := by decide +kernel
theorem dL_act_115 : decode cL_act 115 = .ok (.iconst 4, 1) := by decide +kernel
theorem dL_act_116 : decode cL_act 116 = .ok (.irem, 1) := by decide +kernel
theorem dL_act_117 : decode cL_act 117 = .ok (.iconst 2, 1) := by decide +kernel
theorem dL_act_118 : decode cL_act 118 = .ok (.irem, 1) := by decide +kernel
theorem dL_act_119 : decode cL_act 119 = .ok (.goto 8, 3) := by decide +kernel
theorem dL_act_122 : decode cL_act 122 = .ok (.iload_n 2, 1) := by decide +kernel
theorem dL_act_123 : decode cL_act 123 = .ok (.iconst 4, 1) := by decide +kernel
theorem dL_act_124 : decode cL_act 124 = .ok (.idiv, 1) := by decide +kernel
theorem dL_act_125 : decode cL_act 125 = .ok (.iconst 4, 1) := by decide +kernel
theorem dL_act_126 : decode cL_act 126 = .ok (.irem, 1) := by decide +kernel
theorem dL_act_127 : decode cL_act 127 = .ok (.iconst 1, 1) := by decide +kernel
theorem dL_act_128 : decode cL_act 128 = .ok (.iload_n 2, 1) := by decide +kernel
theorem dL_act_129 : decode cL_act 129 = .ok (.bipush 16, 2) := by decide +kernel
theorem dL_act_131 : decode cL_act 131 = .ok (.idiv, 1) := by decide +kernel
theorem dL_act_132 : decode cL_act 132 = .ok (.bipush 9, 2) := by decide +kernel
theorem dL_act_134 : decode cL_act 134 = .ok (.irem, 1) := by decide +kernel
theorem dL_act_135 : decode cL_act 135 = .ok (.iadd, 1) := by decide +kernel
theorem dL_act_136 : decode cL_act 136 = .ok (.iconst 0, 1) := by decide +kernel
theorem dL_act_137 : decode cL_act 137 = .ok (.invokestatic 172, 3) := by decide +kernel
theorem dL_act_140 : decode cL_act 140 = .ok (.ireturn, 1) := by decide +kernel
theorem dL_act_141 : decode cL_act 141 = .ok (.aload_n 0, 1) := by decide +kernel
theorem dL_act_142 : decode cL_act 142 = .ok (.iconst 1, 1) := by decide +kernel
theorem dL_act_143 : decode cL_act 143 = .ok (.iload_n 2, 1) := by decide +kernel
theorem dL_act_144 : decode cL_act 144 = .ok (.bipush 15, 2) := by decide +kernel
theorem dL_act_146 : decode cL_act 146 = .ok (.irem, 1) := by decide +kernel
theorem dL_act_147 : decode cL_act 147 = .ok (.iadd, 1) := by decide +kernel
theorem dL_act_148 : decode cL_act 148 = .ok (.iload_n 2, 1) := by decide +kernel
theorem dL_act_149 : decode cL_act 149 = .ok (.bipush 16, 2) := by decide +kernel
theorem dL_act_151 : decode cL_act 151 = .ok (.idiv, 1) := by decide +kernel
theorem dL_act_152 : decode cL_act 152 = .ok (.iconst 4, 1) := by decide +kernel
theorem dL_act_153 : decode cL_act 153 = .ok (.irem, 1) := by decide +kernel
theorem dL_act_154 : decode cL_act 154 = .ok (.ifCond .le 7, 3) := by decide +kernel
theorem dL_act_157 : decode cL_act 157 = .ok (.iconst 1, 1) := by decide +kernel
theorem dL_act_158 : decode cL_act 158 = .ok (.goto 4, 3) := by decide +kernel
theorem dL_act_161 : decode cL_act 161 = .ok (.iconst 0, 1) := by decide +kernel
theorem dL_act_162 : decode cL_act 162 = .ok (.invokestatic 176, 3) := by decide +kernel
theorem dL_act_165 : decode cL_act 165 = .ok (.ireturn, 1) := by decide +kernel
theorem dL_act_166 : decode cL_act 166 = .ok (.aload_n 0, 1) := by decide +kernel
theorem dL_act_167 : decode cL_act 167 = .ok (.bipush 10, 2) := by decide +kernel
theorem dL_act_169 : decode cL_act 169 = .ok (.iload 4, 2) := by decide +kernel
theorem dL_act_171 : decode cL_act 171 = .ok (.iload_n 2, 1) := by decide +kernel
theorem dL_act_172 : decode cL_act 172 = .ok (.bipush 16, 2) := by decide +kernel
theorem dL_act_174 : decode cL_act 174 = .ok (.idiv, 1) := by decide +kernel
theorem dL_act_175 : decode cL_act 175 = .ok (.iconst 3, 1) := by decide +kernel
theorem dL_act_176 : decode cL_act 176 = .ok (.irem, 1) := by decide +kernel
theorem dL_act_177 : decode cL_act 177 = .ok (.iconst 1, 1) := by decide +kernel
theorem dL_act_178 : decode cL_act 178 = .ok (.isub, 1) := by decide +kernel
theorem dL_act_179 : decode cL_act 179 = .ok (.iconst 0, 1) := by decide +kernel
theorem dL_act_180 : decode cL_act 180 = .ok (.invokestatic 172, 3) := by decide +kernel
theorem dL_act_183 : decode cL_act 183 = .ok (.ireturn, 1) := by decide +kernel
theorem dL_act_184 : decode cL_act 184 = .ok (.aload_n 0, 1) := by decide +kernel
theorem dL_act_185 : decode cL_act 185 = .ok (.bipush 11, 2) := by decide +kernel
theorem dL_act_187 : decode cL_act 187 = .ok (.iload 4, 2) := by decide +kernel
theorem dL_act_189 : decode cL_act 189 = .ok (.iconst 0, 1) := by decide +kernel
theorem dL_act_190 : decode cL_act 190 = .ok (.iconst 0, 1) := by decide +kernel
theorem dL_act_191 : decode cL_act 191 = .ok (.invokestatic 172, 3) := by decide +kernel
theorem dL_act_194 : decode cL_act 194 = .ok (.ireturn, 1) := by decide +kernel
theorem dL_act_195 : decode cL_act 195 = .ok (.iload_n 2, 1) := by decide +kernel
theorem dL_act_196 : decode cL_act 196 = .ok (.iconst 2, 1) := by decide +kernel
theorem dL_act_197 : decode cL_act 197 = .ok (.irem, 1) := by decide +kernel
theorem dL_act_198 : decode cL_act 198 = .ok (.ifCond .ne 19, 3) := by decide +kernel
theorem dL_act_201 : decode cL_act 201 = .ok (.aload_n 0, 1) := by decide +kernel
theorem dL_act_202 : decode cL_act 202 = .ok (.bipush 12, 2) := by decide +kernel
theorem dL_act_204 : decode cL_act 204 = .ok (.iload_n 2, 1) := by decide +kernel
theorem dL_act_205 : decode cL_act 205 = .ok (.iconst 2, 1) := by decide +kernel
theorem dL_act_206 : decode cL_act 206 = .ok (.idiv, 1) := by decide +kernel
theorem dL_act_207 : decode cL_act 207 = .ok (.iconst 2, 1) := by decide +kernel
theorem dL_act_208 : decode cL_act 208 = .ok (.irem, 1) := by decide +kernel
theorem dL_act_209 : decode cL_act 209 = .ok (.iconst 0, 1) := by decide +kernel
theorem dL_act_210 : decode cL_act 210 = .ok (.iconst 0, 1) := by decide +kernel
theorem dL_act_211 : decode cL_act 211 = .ok (.invokestatic 172, 3) := by decide +kernel
theorem dL_act_214 : decode cL_act 214 = .ok (.goto 12, 3) := by decide +kernel
theorem dL_act_217 : decode cL_act 217 = .ok (.aload_n 0, 1) := by decide +kernel
theorem dL_act_218 : decode cL_act 218 = .ok (.bipush 13, 2) := by decide +kernel
theorem dL_act_220 : decode cL_act 220 = .ok (.iconst 0, 1) := by decide +kernel
theorem dL_act_221 : decode cL_act 221 = .ok (.iconst 0, 1) := by decide +kernel
theorem dL_act_222 : decode cL_act 222 = .ok (.iconst 0, 1) := by decide +kernel
theorem dL_act_223 : decode cL_act 223 = .ok (.invokestatic 172, 3) := by decide +kernel
theorem dL_act_226 : decode cL_act 226 = .ok (.ireturn, 1) := by decide +kernel
theorem dL_act_227 : decode cL_act 227 = .ok (.iload_n 2, 1) := by decide +kernel
theorem dL_act_228 : decode cL_act 228 = .ok (.iconst 2, 1) := by decide +kernel
theorem dL_act_229 : decode cL_act 229 = .ok (.irem, 1) := by decide +kernel
theorem dL_act_230 : decode cL_act 230 = .ok (.ifCond .ne 19, 3) := by decide +kernel
theorem dL_act_233 : decode cL_act 233 = .ok (.aload_n 0, 1) := by decide +kernel
theorem dL_act_234 : decode cL_act 234 = .ok (.bipush 9, 2) := by decide +kernel
theorem dL_act_236 : decode cL_act 236 = .ok (.iload_n 2, 1) := by decide +kernel
theorem dL_act_237 : decode cL_act 237 = .ok (.iconst 2, 1) := by decide +kernel
theorem dL_act_238 : decode cL_act 238 = .ok (.idiv, 1) := by decide +kernel
theorem dL_act_239 : decode cL_act 239 = .ok (.iload_n 3, 1) := by decide +kernel
theorem dL_act_240 : decode cL_act 240 = .ok (.irem, 1) := by decide +kernel
theorem dL_act_241 : decode cL_act 241 = .ok (.iconst 0, 1) := by decide +kernel
theorem dL_act_242 : decode cL_act 242 = .ok (.iconst 0, 1) := by decide +kernel
theorem dL_act_243 : decode cL_act 243 = .ok (.invokestatic 172, 3) := by decide +kernel
theorem dL_act_246 : decode cL_act 246 = .ok (.goto 7, 3) := by decide +kernel
theorem dL_act_249 : decode cL_act 249 = .ok (.aload_n 0, 1) := by decide +kernel
theorem dL_act_250 : decode cL_act 250 = .ok (.invokevirtual 190, 3) := by decide +kernel
theorem dL_act_253 : decode cL_act 253 = .ok (.ireturn, 1) := by decide +kernel
theorem dL_act_254 : decode cL_act 254 = .ok (.aload_n 0, 1) := by decide +kernel
theorem dL_act_255 : decode cL_act 255 = .ok (.bipush 8, 2) := by decide +kernel
theorem dL_act_257 : decode cL_act 257 = .ok (.iload_n 2, 1) := by decide +kernel
theorem dL_act_258 : decode cL_act 258 = .ok (.iload_n 3, 1) := by decide +kernel
theorem dL_act_259 : decode cL_act 259 = .ok (.irem, 1) := by decide +kernel
theorem dL_act_260 : decode cL_act 260 = .ok (.iload_n 2, 1) := by decide +kernel
theorem dL_act_261 : decode cL_act 261 = .ok (.bipush 16, 2) := by decide +kernel
theorem dL_act_263 : decode cL_act 263 = .ok (.idiv, 1) := by decide +kernel
theorem dL_act_264 : decode cL_act 264 = .ok (.iload_n 3, 1) := by decide +kernel
theorem dL_act_265 : decode cL_act 265 = .ok (.irem, 1) := by decide +kernel
theorem dL_act_266 : decode cL_act 266 = .ok (.iconst 0, 1) := by decide +kernel
theorem dL_act_267 : decode cL_act 267 = .ok (.invokestatic 172, 3) := by decide +kernel
theorem dL_act_270 : decode cL_act 270 = .ok (.ireturn, 1) := by decide +kernel
theorem dL_act_271 : decode cL_act 271 = .ok (.aload_n 0, 1) := by decide +kernel
theorem dL_act_272 : decode cL_act 272 = .ok (.bipush 14, 2) := by decide +kernel
theorem dL_act_274 : decode cL_act 274 = .ok (.iload_n 2, 1) := by decide +kernel
theorem dL_act_275 : decode cL_act 275 = .ok (.iconst 2, 1) := by decide +kernel
theorem dL_act_276 : decode cL_act 276 = .ok (.irem, 1) := by decide +kernel
theorem dL_act_277 : decode cL_act 277 = .ok (.iconst 0, 1) := by decide +kernel
theorem dL_act_278 : decode cL_act 278 = .ok (.iconst 0, 1) := by decide +kernel
theorem dL_act_279 : decode cL_act 279 = .ok (.invokestatic 172, 3) := by decide +kernel
theorem dL_act_282 : decode cL_act 282 = .ok (.ireturn, 1) := by decide +kernel
theorem dL_act_283 : decode cL_act 283 = .ok (.iload_n 2, 1) := by decide +kernel
theorem dL_act_284 : decode cL_act 284 = .ok (.iconst 2, 1) := by decide +kernel
theorem dL_act_285 : decode cL_act 285 = .ok (.irem, 1) := by decide +kernel
theorem dL_act_286 : decode cL_act 286 = .ok (.ifCond .ne 19, 3) := by decide +kernel
theorem dL_act_289 : decode cL_act 289 = .ok (.aload_n 0, 1) := by decide +kernel
theorem dL_act_290 : decode cL_act 290 = .ok (.bipush 20, 2) := by decide +kernel
theorem dL_act_292 : decode cL_act 292 = .ok (.iload_n 2, 1) := by decide +kernel
theorem dL_act_293 : decode cL_act 293 = .ok (.iconst 2, 1) := by decide +kernel
theorem dL_act_294 : decode cL_act 294 = .ok (.idiv, 1) := by decide +kernel
theorem dL_act_295 : decode cL_act 295 = .ok (.iconst 2, 1) := by decide +kernel
theorem dL_act_296 : decode cL_act 296 = .ok (.irem, 1) := by decide +kernel
theorem dL_act_297 : decode cL_act 297 = .ok (.iconst 0, 1) := by decide +kernel
theorem dL_act_298 : decode cL_act 298 = .ok (.iconst 0, 1) := by decide +kernel
theorem dL_act_299 : decode cL_act 299 = .ok (.invokestatic 172, 3) := by decide +kernel
theorem dL_act_302 : decode cL_act 302 = .ok (.goto 16, 3) := by decide +kernel
theorem dL_act_305 : decode cL_act 305 = .ok (.aload_n 0, 1) := by decide +kernel
theorem dL_act_306 : decode cL_act 306 = .ok (.bipush 21, 2) := by decide +kernel
theorem dL_act_308 : decode cL_act 308 = .ok (.iload_n 2, 1) := by decide +kernel
theorem dL_act_309 : decode cL_act 309 = .ok (.iconst 2, 1) := by decide +kernel
theorem dL_act_310 : decode cL_act 310 = .ok (.idiv, 1) := by decide +kernel
theorem dL_act_311 : decode cL_act 311 = .ok (.iconst 2, 1) := by decide +kernel
theorem dL_act_312 : decode cL_act 312 = .ok (.irem, 1) := by decide +kernel
theorem dL_act_313 : decode cL_act 313 = .ok (.iconst 0, 1) := by decide +kernel
theorem dL_act_314 : decode cL_act 314 = .ok (.iconst 0, 1) := by decide +kernel
theorem dL_act_315 : decode cL_act 315 = .ok (.invokestatic 172, 3) := by decide +kernel
theorem dL_act_318 : decode cL_act 318 = .ok (.ireturn, 1) := by decide +kernel
theorem dL_act_319 : decode cL_act 319 = .ok (.iload_n 3, 1) := by decide +kernel
theorem dL_act_320 : decode cL_act 320 = .ok (.iconst 5, 1) := by decide +kernel
theorem dL_act_321 : decode cL_act 321 = .ok (.if_icmp .ge 7, 3) := by decide +kernel
theorem dL_act_324 : decode cL_act 324 = .ok (.iconst (-1), 1) := by decide +kernel
theorem dL_act_325 : decode cL_act 325 = .ok (.goto 12, 3) := by decide +kernel
theorem dL_act_328 : decode cL_act 328 = .ok (.aload_n 0, 1) := by decide +kernel
theorem dL_act_329 : decode cL_act 329 = .ok (.bipush 15, 2) := by decide +kernel
theorem dL_act_331 : decode cL_act 331 = .ok (.iconst 0, 1) := by decide +kernel
theorem dL_act_332 : decode cL_act 332 = .ok (.iconst 0, 1) := by decide +kernel
theorem dL_act_333 : decode cL_act 333 = .ok (.iconst 0, 1) := by decide +kernel
theorem dL_act_334 : decode cL_act 334 = .ok (.invokestatic 172, 3) := by decide +kernel
theorem dL_act_337 : decode cL_act 337 = .ok (.ireturn, 1) := by decide +kernel
theorem dL_alike_0 : decode cL_alike 0 = .ok (.aload_n 0, 1) := by decide +kernel
theorem dL_alike_1 : decode cL_alike 1 = .ok (.iload_n 2, 1) := by decide +kernel
theorem dL_alike_2 : decode cL_alike 2 = .ok (.i2l, 1) := by decide +kernel
theorem dL_alike_3 : decode cL_alike 3 = .ok (.iconst 1, 1) := by decide +kernel
theorem dL_alike_4 : decode cL_alike 4 = .ok (.iload_n 2, 1) := by decide +kernel
theorem dL_alike_5 : decode cL_alike 5 = .ok (.bipush 40, 2) := by decide +kernel
theorem dL_alike_7 : decode cL_alike 7 = .ok (.irem, 1) := by decide +kernel
theorem dL_alike_8 : decode cL_alike 8 = .ok (.iadd, 1) := by decide +kernel
theorem dL_alike_9 : decode cL_alike 9 = .ok (.invokestatic 186, 3) := by decide +kernel
theorem dL_alike_12 : decode cL_alike 12 = .ok (.aload_n 1, 1) := by decide +kernel
theorem dL_alike_13 : decode cL_alike 13 = .ok (.iload_n 2, 1) := by decide +kernel
theorem dL_alike_14 : decode cL_alike 14 = .ok (.i2l, 1) := by decide +kernel
theorem dL_alike_15 : decode cL_alike 15 = .ok (.iconst 1, 1) := by decide +kernel
theorem dL_alike_16 : decode cL_alike 16 = .ok (.iload_n 2, 1) := by decide +kernel
theorem dL_alike_17 : decode cL_alike 17 = .ok (.bipush 40, 2) := by decide +kernel
theorem dL_alike_19 : decode cL_alike 19 = .ok (.irem, 1) := by decide +kernel
theorem dL_alike_20 : decode cL_alike 20 = .ok (.iadd, 1) := by decide +kernel
theorem dL_alike_21 : decode cL_alike 21 = .ok (.invokestatic 186, 3) := by decide +kernel
theorem dL_alike_24 : decode cL_alike 24 = .ok (.if_icmp .ne 18, 3) := by decide +kernel
theorem dL_alike_27 : decode cL_alike 27 = .ok (.aload_n 0, 1) := by decide +kernel
theorem dL_alike_28 : decode cL_alike 28 = .ok (.invokevirtual 193, 3) := by decide +kernel
theorem dL_alike_31 : decode cL_alike 31 = .ok (.aload_n 1, 1) := by decide +kernel
theorem dL_alike_32 : decode cL_alike 32 = .ok (.invokevirtual 193, 3) := by decide +kernel
theorem dL_alike_35 : decode cL_alike 35 = .ok (.if_icmp .ne 7, 3) := by decide +kernel
theorem dL_alike_38 : decode cL_alike 38 = .ok (.iconst 1, 1) := by decide +kernel
theorem dL_alike_39 : decode cL_alike 39 = .ok (.goto 4, 3) := by decide +kernel
theorem dL_alike_42 : decode cL_alike 42 = .ok (.iconst 0, 1) := by decide +kernel
theorem dL_alike_43 : decode cL_alike 43 = .ok (.istore_n 3, 1) := by decide +kernel
theorem dL_alike_44 : decode cL_alike 44 = .ok (.iconst 0, 1) := by decide +kernel
theorem dL_alike_45 : decode cL_alike 45 = .ok (.istore 4, 2) := by decide +kernel
theorem dL_alike_47 : decode cL_alike 47 = .ok (.iload 4, 2) := by decide +kernel
theorem dL_alike_49 : decode cL_alike 49 = .ok (.bipush 16, 2) := by decide +kernel
theorem dL_alike_51 : decode cL_alike 51 = .ok (.if_icmp .ge 115, 3) := by decide +kernel
theorem dL_alike_54 : decode cL_alike 54 = .ok (.iload_n 3, 1) := by decide +kernel
theorem dL_alike_55 : decode cL_alike 55 = .ok (.ifCond .eq 111, 3) := by decide +kernel
theorem dL_alike_58 : decode cL_alike 58 = .ok (.aload_n 0, 1) := by decide +kernel
theorem dL_alike_59 : decode cL_alike 59 = .ok (.iconst 2, 1) := by decide +kernel
theorem dL_alike_60 : decode cL_alike 60 = .ok (.iload 4, 2) := by decide +kernel
theorem dL_alike_62 : decode cL_alike 62 = .ok (.iconst 0, 1) := by decide +kernel
theorem dL_alike_63 : decode cL_alike 63 = .ok (.iconst 0, 1) := by decide +kernel
theorem dL_alike_64 : decode cL_alike 64 = .ok (.invokestatic 172, 3) := by decide +kernel
theorem dL_alike_67 : decode cL_alike 67 = .ok (.aload_n 1, 1) := by decide +kernel
theorem dL_alike_68 : decode cL_alike 68 = .ok (.iconst 2, 1) := by decide +kernel
theorem dL_alike_69 : decode cL_alike 69 = .ok (.iload 4, 2) := by decide +kernel
theorem dL_alike_71 : decode cL_alike 71 = .ok (.iconst 0, 1) := by decide +kernel
theorem dL_alike_72 : decode cL_alike 72 = .ok (.iconst 0, 1) := by decide +kernel
theorem dL_alike_73 : decode cL_alike 73 = .ok (.invokestatic 172, 3) := by decide +kernel
theorem dL_alike_76 : decode cL_alike 76 = .ok (.if_icmp .ne 82, 3) := by decide +kernel
theorem dL_alike_79 : decode cL_alike 79 = .ok (.aload_n 0, 1) := by decide +kernel
theorem dL_alike_80 : decode cL_alike 80 = .ok (.iconst 3, 1) := by decide +kernel
theorem dL_alike_81 : decode cL_alike 81 = .ok (.iload 4, 2) := by decide +kernel
theorem dL_alike_83 : decode cL_alike 83 = .ok (.iload_n 2, 1) := by decide +kernel
theorem dL_alike_84 : decode cL_alike 84 = .ok (.iconst 3, 1) := by decide +kernel
theorem dL_alike_85 : decode cL_alike 85 = .ok (.irem, 1) := by decide +kernel
theorem dL_alike_86 : decode cL_alike 86 = .ok (.iconst 0, 1) := by decide +kernel
theorem dL_alike_87 : decode cL_alike 87 = .ok (.invokestatic 172, 3) := by decide +kernel
theorem dL_alike_90 : decode cL_alike 90 = .ok (.aload_n 1, 1) := by decide +kernel
theorem dL_alike_91 : decode cL_alike 91 = .ok (.iconst 3, 1) := by decide +kernel
theorem dL_alike_92 : decode cL_alike 92 = .ok (.iload 4, 2) := by decide +kernel
theorem dL_alike_94 : decode cL_alike 94 = .ok (.iload_n 2, 1) := by decide +kernel
theorem dL_alike_95 : decode cL_alike 95 = .ok (.iconst 3, 1) := by decide +kernel
theorem dL_alike_96 : decode cL_alike 96 = .ok (.irem, 1) := by decide +kernel
theorem dL_alike_97 : decode cL_alike 97 = .ok (.iconst 0, 1) := by decide +kernel
theorem dL_alike_98 : decode cL_alike 98 = .ok (.invokestatic 172, 3) := by decide +kernel
theorem dL_alike_101 : decode cL_alike 101 = .ok (.if_icmp .ne 57, 3) := by decide +kernel
theorem dL_alike_104 : decode cL_alike 104 = .ok (.aload_n 0, 1) := by decide +kernel
theorem dL_alike_105 : decode cL_alike 105 = .ok (.iconst 4, 1) := by decide +kernel
theorem dL_alike_106 : decode cL_alike 106 = .ok (.iload 4, 2) := by decide +kernel
theorem dL_alike_108 : decode cL_alike 108 = .ok (.iload_n 2, 1) := by decide +kernel
theorem dL_alike_109 : decode cL_alike 109 = .ok (.iconst 4, 1) := by decide +kernel
theorem dL_alike_110 : decode cL_alike 110 = .ok (.irem, 1) := by decide +kernel
theorem dL_alike_111 : decode cL_alike 111 = .ok (.iconst 0, 1) := by decide +kernel
theorem dL_alike_112 : decode cL_alike 112 = .ok (.invokestatic 172, 3) := by decide +kernel
theorem dL_alike_115 : decode cL_alike 115 = .ok (.aload_n 1, 1) := by decide +kernel
theorem dL_alike_116 : decode cL_alike 116 = .ok (.iconst 4, 1) := by decide +kernel
theorem dL_alike_117 : decode cL_alike 117 = .ok (.iload 4, 2) := by decide +kernel
theorem dL_alike_119 : decode cL_alike 119 = .ok (.iload_n 2, 1) := by decide +kernel
theorem dL_alike_120 : decode cL_alike 120 = .ok (.iconst 4, 1) := by decide +kernel
theorem dL_alike_121 : decode cL_alike 121 = .ok (.irem, 1) := by decide +kernel
theorem dL_alike_122 : decode cL_alike 122 = .ok (.iconst 0, 1) := by decide +kernel
theorem dL_alike_123 : decode cL_alike 123 = .ok (.invokestatic 172, 3) := by decide +kernel
theorem dL_alike_126 : decode cL_alike 126 = .ok (.if_icmp .ne 32, 3) := by decide +kernel
theorem dL_alike_129 : decode cL_alike 129 = .ok (.aload_n 0, 1) := by decide +kernel
theorem dL_alike_130 : decode cL_alike 130 = .ok (.iconst 5, 1) := by decide +kernel
theorem dL_alike_131 : decode cL_alike 131 = .ok (.iload 4, 2) := by decide +kernel
theorem dL_alike_133 : decode cL_alike 133 = .ok (.iload_n 2, 1) := by decide +kernel
theorem dL_alike_134 : decode cL_alike 134 = .ok (.iconst 4, 1) := by decide +kernel
theorem dL_alike_135 : decode cL_alike 135 = .ok (.irem, 1) := by decide +kernel
theorem dL_alike_136 : decode cL_alike 136 = .ok (.iconst 0, 1) := by decide +kernel
theorem dL_alike_137 : decode cL_alike 137 = .ok (.invokestatic 172, 3) := by decide +kernel
theorem dL_alike_140 : decode cL_alike 140 = .ok (.aload_n 1, 1) := by decide +kernel
theorem dL_alike_141 : decode cL_alike 141 = .ok (.iconst 5, 1) := by decide +kernel
theorem dL_alike_142 : decode cL_alike 142 = .ok (.iload 4, 2) := by decide +kernel
theorem dL_alike_144 : decode cL_alike 144 = .ok (.iload_n 2, 1) := by decide +kernel
theorem dL_alike_145 : decode cL_alike 145 = .ok (.iconst 4, 1) := by decide +kernel
theorem dL_alike_146 : decode cL_alike 146 = .ok (.irem, 1) := by decide +kernel
theorem dL_alike_147 : decode cL_alike 147 = .ok (.iconst 0, 1) := by decide +kernel
theorem dL_alike_148 : decode cL_alike 148 = .ok (.invokestatic 172, 3) := by decide +kernel
theorem dL_alike_151 : decode cL_alike 151 = .ok (.if_icmp .ne 7, 3) := by decide +kernel
theorem dL_alike_154 : decode cL_alike 154 = .ok (.iconst 1, 1) := by decide +kernel
theorem dL_alike_155 : decode cL_alike 155 = .ok (.goto 4, 3) := by decide +kernel
theorem dL_alike_158 : decode cL_alike 158 = .ok (.iconst 0, 1) := by decide +kernel
theorem dL_alike_159 : decode cL_alike 159 = .ok (.istore_n 3, 1) := by decide +kernel
theorem dL_alike_160 : decode cL_alike 160 = .ok (.iinc 4 1, 3) := by decide +kernel
theorem dL_alike_163 : decode cL_alike 163 = .ok (.goto (-116), 3) := by decide +kernel
theorem dL_alike_166 : decode cL_alike 166 = .ok (.iload_n 3, 1) := by decide +kernel
theorem dL_alike_167 : decode cL_alike 167 = .ok (.ireturn, 1) := by decide +kernel
theorem dL_law_0 : decode cL_law 0 = .ok (.new 8, 3) := by decide +kernel
theorem dL_law_3 : decode cL_law 3 = .ok (.dup, 1) := by decide +kernel
theorem dL_law_4 : decode cL_law 4 = .ok (.invokespecial 196, 3) := by decide +kernel
theorem dL_law_7 : decode cL_law 7 = .ok (.astore_n 1, 1) := by decide +kernel
theorem dL_law_8 : decode cL_law 8 = .ok (.new 8, 3) := by decide +kernel
theorem dL_law_11 : decode cL_law 11 = .ok (.dup, 1) := by decide +kernel
theorem dL_law_12 : decode cL_law 12 = .ok (.invokespecial 196, 3) := by decide +kernel
theorem dL_law_15 : decode cL_law 15 = .ok (.astore_n 2, 1) := by decide +kernel
theorem dL_law_16 : decode cL_law 16 = .ok (.bipush 12, 2) := by decide +kernel
theorem dL_law_18 : decode cL_law 18 = .ok (.aload_n 0, 1) := by decide +kernel
theorem dL_law_19 : decode cL_law 19 = .ok (.iconst 0, 1) := by decide +kernel
theorem dL_law_20 : decode cL_law 20 = .ok (.invokestatic 197, 3) := by decide +kernel
theorem dL_law_23 : decode cL_law 23 = .ok (.bipush 21, 2) := by decide +kernel
theorem dL_law_25 : decode cL_law 25 = .ok (.irem, 1) := by decide +kernel
theorem dL_law_26 : decode cL_law 26 = .ok (.iadd, 1) := by decide +kernel
theorem dL_law_27 : decode cL_law 27 = .ok (.istore_n 3, 1) := by decide +kernel
theorem dL_law_28 : decode cL_law 28 = .ok (.aload_n 0, 1) := by decide +kernel
theorem dL_law_29 : decode cL_law 29 = .ok (.iconst 1, 1) := by decide +kernel
theorem dL_law_30 : decode cL_law 30 = .ok (.invokestatic 197, 3) := by decide +kernel
theorem dL_law_33 : decode cL_law 33 = .ok (.istore 4, 2) := by decide +kernel
theorem dL_law_35 : decode cL_law 35 = .ok (.iconst 1, 1) := by decide +kernel
theorem dL_law_36 : decode cL_law 36 = .ok (.istore 5, 2) := by decide +kernel
theorem dL_law_38 : decode cL_law 38 = .ok (.iconst 0, 1) := by decide +kernel
theorem dL_law_39 : decode cL_law 39 = .ok (.istore 6, 2) := by decide +kernel
theorem dL_law_41 : decode cL_law 41 = .ok (.iload 6, 2) := by decide +kernel
theorem dL_law_43 : decode cL_law 43 = .ok (.iconst 4, 1) := by decide +kernel
theorem dL_law_44 : decode cL_law 44 = .ok (.if_icmp .ge 89, 3) := by decide +kernel
theorem dL_law_47 : decode cL_law 47 = .ok (.iload 5, 2) := by decide +kernel
theorem dL_law_49 : decode cL_law 49 = .ok (.ifCond .eq 84, 3) := by decide +kernel
theorem dL_law_52 : decode cL_law 52 = .ok (.aload_n 1, 1) := by decide +kernel
theorem dL_law_53 : decode cL_law 53 = .ok (.bipush 7, 2) := by decide +kernel
theorem dL_law_55 : decode cL_law 55 = .ok (.iload 4, 2) := by decide +kernel
theorem dL_law_57 : decode cL_law 57 = .ok (.iconst 3, 1) := by decide +kernel
theorem dL_law_58 : decode cL_law 58 = .ok (.iload 6, 2) := by decide +kernel
theorem dL_law_60 : decode cL_law 60 = .ok (.imul, 1) := by decide +kernel
theorem dL_law_61 : decode cL_law 61 = .ok (.ishr, 1) := by decide +kernel
theorem dL_law_62 : decode cL_law 62 = .ok (.iconst 1, 1) := by decide +kernel
theorem dL_law_63 : decode cL_law 63 = .ok (.iand, 1) := by decide +kernel
theorem dL_law_64 : decode cL_law 64 = .ok (.iconst 1, 1) := by decide +kernel
theorem dL_law_65 : decode cL_law 65 = .ok (.iload 4, 2) := by decide +kernel
theorem dL_law_67 : decode cL_law 67 = .ok (.iconst 3, 1) := by decide +kernel
theorem dL_law_68 : decode cL_law 68 = .ok (.iload 6, 2) := by decide +kernel
theorem dL_law_70 : decode cL_law 70 = .ok (.imul, 1) := by decide +kernel
theorem dL_law_71 : decode cL_law 71 = .ok (.iconst 1, 1) := by decide +kernel
theorem dL_law_72 : decode cL_law 72 = .ok (.iadd, 1) := by decide +kernel
theorem dL_law_73 : decode cL_law 73 = .ok (.ishr, 1) := by decide +kernel
theorem dL_law_74 : decode cL_law 74 = .ok (.iconst 3, 1) := by decide +kernel
theorem dL_law_75 : decode cL_law 75 = .ok (.iand, 1) := by decide +kernel
theorem dL_law_76 : decode cL_law 76 = .ok (.iadd, 1) := by decide +kernel
theorem dL_law_77 : decode cL_law 77 = .ok (.iconst 0, 1) := by decide +kernel
theorem dL_law_78 : decode cL_law 78 = .ok (.invokestatic 172, 3) := by decide +kernel
theorem dL_law_81 : decode cL_law 81 = .ok (.iload 6, 2) := by decide +kernel
theorem dL_law_83 : decode cL_law 83 = .ok (.if_icmp .ne 41, 3) := by decide +kernel
theorem dL_law_86 : decode cL_law 86 = .ok (.aload_n 2, 1) := by decide +kernel
theorem dL_law_87 : decode cL_law 87 = .ok (.bipush 7, 2) := by decide +kernel
theorem dL_law_89 : decode cL_law 89 = .ok (.iload 4, 2) := by decide +kernel
theorem dL_law_91 : decode cL_law 91 = .ok (.iconst 3, 1) := by decide +kernel
theorem dL_law_92 : decode cL_law 92 = .ok (.iload 6, 2) := by decide +kernel
theorem dL_law_94 : decode cL_law 94 = .ok (.imul, 1) := by decide +kernel
theorem dL_law_95 : decode cL_law 95 = .ok (.ishr, 1) := by decide +kernel
theorem dL_law_96 : decode cL_law 96 = .ok (.iconst 1, 1) := by decide +kernel
theorem dL_law_97 : decode cL_law 97 = .ok (.iand, 1) := by decide +kernel
theorem dL_law_98 : decode cL_law 98 = .ok (.iconst 1, 1) := by decide +kernel
theorem dL_law_99 : decode cL_law 99 = .ok (.iload 4, 2) := by decide +kernel
theorem dL_law_101 : decode cL_law 101 = .ok (.iconst 3, 1) := by decide +kernel
theorem dL_law_102 : decode cL_law 102 = .ok (.iload 6, 2) := by decide +kernel
theorem dL_law_104 : decode cL_law 104 = .ok (.imul, 1) := by decide +kernel
theorem dL_law_105 : decode cL_law 105 = .ok (.iconst 1, 1) := by decide +kernel
theorem dL_law_106 : decode cL_law 106 = .ok (.iadd, 1) := by decide +kernel
theorem dL_law_107 : decode cL_law 107 = .ok (.ishr, 1) := by decide +kernel
theorem dL_law_108 : decode cL_law 108 = .ok (.iconst 3, 1) := by decide +kernel
theorem dL_law_109 : decode cL_law 109 = .ok (.iand, 1) := by decide +kernel
theorem dL_law_110 : decode cL_law 110 = .ok (.iadd, 1) := by decide +kernel
theorem dL_law_111 : decode cL_law 111 = .ok (.iconst 0, 1) := by decide +kernel
theorem dL_law_112 : decode cL_law 112 = .ok (.invokestatic 172, 3) := by decide +kernel
theorem dL_law_115 : decode cL_law 115 = .ok (.iload 6, 2) := by decide +kernel
theorem dL_law_117 : decode cL_law 117 = .ok (.if_icmp .ne 7, 3) := by decide +kernel
theorem dL_law_120 : decode cL_law 120 = .ok (.iconst 1, 1) := by decide +kernel
theorem dL_law_121 : decode cL_law 121 = .ok (.goto 4, 3) := by decide +kernel
theorem dL_law_124 : decode cL_law 124 = .ok (.iconst 0, 1) := by decide +kernel
theorem dL_law_125 : decode cL_law 125 = .ok (.istore 5, 2) := by decide +kernel
theorem dL_law_127 : decode cL_law 127 = .ok (.iinc 6 1, 3) := by decide +kernel
theorem dL_law_130 : decode cL_law 130 = .ok (.goto (-89), 3) := by decide +kernel
theorem dL_law_133 : decode cL_law 133 = .ok (.iconst 0, 1) := by decide +kernel
theorem dL_law_134 : decode cL_law 134 = .ok (.istore 6, 2) := by decide +kernel
theorem dL_law_136 : decode cL_law 136 = .ok (.iload 6, 2) := by decide +kernel
theorem dL_law_138 : decode cL_law 138 = .ok (.iload_n 3, 1) := by decide +kernel
theorem dL_law_139 : decode cL_law 139 = .ok (.if_icmp .ge 146, 3) := by decide +kernel
theorem dL_law_142 : decode cL_law 142 = .ok (.iload 5, 2) := by decide +kernel
theorem dL_law_144 : decode cL_law 144 = .ok (.ifCond .eq 141, 3) := by decide +kernel
theorem dL_law_147 : decode cL_law 147 = .ok (.aload_n 0, 1) := by decide +kernel
theorem dL_law_148 : decode cL_law 148 = .ok (.iconst 2, 1) := by decide +kernel
theorem dL_law_149 : decode cL_law 149 = .ok (.iload 6, 2) := by decide +kernel
theorem dL_law_151 : decode cL_law 151 = .ok (.iadd, 1) := by decide +kernel
theorem dL_law_152 : decode cL_law 152 = .ok (.invokestatic 197, 3) := by decide +kernel
theorem dL_law_155 : decode cL_law 155 = .ok (.istore 7, 2) := by decide +kernel
theorem dL_law_157 : decode cL_law 157 = .ok (.aload_n 1, 1) := by decide +kernel
theorem dL_law_158 : decode cL_law 158 = .ok (.iload 7, 2) := by decide +kernel
theorem dL_law_160 : decode cL_law 160 = .ok (.invokestatic 201, 3) := by decide +kernel
theorem dL_law_163 : decode cL_law 163 = .ok (.istore 8, 2) := by decide +kernel
theorem dL_law_165 : decode cL_law 165 = .ok (.aload_n 2, 1) := by decide +kernel
theorem dL_law_166 : decode cL_law 166 = .ok (.iload 7, 2) := by decide +kernel
theorem dL_law_168 : decode cL_law 168 = .ok (.ldc 204, 2) := by decide +kernel
theorem dL_law_170 : decode cL_law 170 = .ok (.irem, 1) := by decide +kernel
theorem dL_law_171 : decode cL_law 171 = .ok (.invokestatic 205, 3) := by decide +kernel
theorem dL_law_174 : decode cL_law 174 = .ok (.ifCond .eq 102, 3) := by decide +kernel
theorem dL_law_177 : decode cL_law 177 = .ok (.aload_n 2, 1) := by decide +kernel
theorem dL_law_178 : decode cL_law 178 = .ok (.iload 7, 2) := by decide +kernel
theorem dL_law_180 : decode cL_law 180 = .ok (.invokestatic 201, 3) := by decide +kernel
theorem dL_law_183 : decode cL_law 183 = .ok (.iload 8, 2) := by decide +kernel
theorem dL_law_185 : decode cL_law 185 = .ok (.if_icmp .ne 91, 3) := by decide +kernel
theorem dL_law_188 : decode cL_law 188 = .ok (.aload_n 2, 1) := by decide +kernel
theorem dL_law_189 : decode cL_law 189 = .ok (.iload 7, 2) := by decide +kernel
theorem dL_law_191 : decode cL_law 191 = .ok (.sipush 1000, 3) := by decide +kernel
theorem dL_law_194 : decode cL_law 194 = .ok (.irem, 1) := by decide +kernel
theorem dL_law_195 : decode cL_law 195 = .ok (.invokestatic 205, 3) := by decide +kernel
theorem dL_law_198 : decode cL_law 198 = .ok (.ifCond .eq 78, 3) := by decide +kernel
theorem dL_law_201 : decode cL_law 201 = .ok (.aload_n 1, 1) := by decide +kernel
theorem dL_law_202 : decode cL_law 202 = .ok (.aload_n 2, 1) := by decide +kernel
theorem dL_law_203 : decode cL_law 203 = .ok (.iload 7, 2) := by decide +kernel
theorem dL_law_205 : decode cL_law 205 = .ok (.sipush 5000, 3) := by decide +kernel
theorem dL_law_208 : decode cL_law 208 = .ok (.irem, 1) := by decide +kernel
theorem dL_law_209 : decode cL_law 209 = .ok (.invokestatic 209, 3) := by decide +kernel
theorem dL_law_212 : decode cL_law 212 = .ok (.ifCond .eq 64, 3) := by decide +kernel
theorem dL_law_215 : decode cL_law 215 = .ok (.iload 6, 2) := by decide +kernel
theorem dL_law_217 : decode cL_law 217 = .ok (.iconst 2, 1) := by decide +kernel
theorem dL_law_218 : decode cL_law 218 = .ok (.irem, 1) := by decide +kernel
theorem dL_law_219 : decode cL_law 219 = .ok (.ifCond .ne 13, 3) := by decide +kernel
theorem dL_law_222 : decode cL_law 222 = .ok (.aload_n 1, 1) := by decide +kernel
theorem dL_law_223 : decode cL_law 223 = .ok (.invokestatic 213, 3) := by decide +kernel
theorem dL_law_226 : decode cL_law 226 = .ok (.ifCond .eq 50, 3) := by decide +kernel
theorem dL_law_229 : decode cL_law 229 = .ok (.goto 10, 3) := by decide +kernel
theorem dL_law_232 : decode cL_law 232 = .ok (.aload_n 2, 1) := by decide +kernel
theorem dL_law_233 : decode cL_law 233 = .ok (.invokestatic 213, 3) := by decide +kernel
theorem dL_law_236 : decode cL_law 236 = .ok (.ifCond .eq 40, 3) := by decide +kernel
theorem dL_law_239 : decode cL_law 239 = .ok (.aload_n 1, 1) := by decide +kernel
theorem dL_law_240 : decode cL_law 240 = .ok (.aload_n 2, 1) := by decide +kernel
theorem dL_law_241 : decode cL_law 241 = .ok (.iload 7, 2) := by decide +kernel
theorem dL_law_243 : decode cL_law 243 = .ok (.bipush 7, 2) := by decide +kernel
theorem dL_law_245 : decode cL_law 245 = .ok (.idiv, 1) := by decide +kernel
theorem dL_law_246 : decode cL_law 246 = .ok (.invokestatic 217, 3) := by decide +kernel
theorem dL_law_249 : decode cL_law 249 = .ok (.ifCond .eq 27, 3) := by decide +kernel
theorem dL_law_252 : decode cL_law 252 = .ok (.iload 6, 2) := by decide +kernel
theorem dL_law_254 : decode cL_law 254 = .ok (.iconst 3, 1) := by decide +kernel
theorem dL_law_255 : decode cL_law 255 = .ok (.irem, 1) := by decide +kernel
theorem dL_law_256 : decode cL_law 256 = .ok (.ifCond .gt 16, 3) := by decide +kernel
theorem dL_law_259 : decode cL_law 259 = .ok (.aload_n 1, 1) := by decide +kernel
theorem dL_law_260 : decode cL_law 260 = .ok (.aload_n 2, 1) := by decide +kernel
theorem dL_law_261 : decode cL_law 261 = .ok (.iload 7, 2) := by decide +kernel
theorem dL_law_263 : decode cL_law 263 = .ok (.bipush 11, 2) := by decide +kernel
theorem dL_law_265 : decode cL_law 265 = .ok (.idiv, 1) := by decide +kernel
theorem dL_law_266 : decode cL_law 266 = .ok (.invokestatic 220, 3) := by decide +kernel
theorem dL_law_269 : decode cL_law 269 = .ok (.ifCond .eq 7, 3) := by decide +kernel
theorem dL_law_272 : decode cL_law 272 = .ok (.iconst 1, 1) := by decide +kernel
theorem dL_law_273 : decode cL_law 273 = .ok (.goto 4, 3) := by decide +kernel
theorem dL_law_276 : decode cL_law 276 = .ok (.iconst 0, 1) := by decide +kernel
theorem dL_law_277 : decode cL_law 277 = .ok (.istore 5, 2) := by decide +kernel
theorem dL_law_279 : decode cL_law 279 = .ok (.iinc 6 1, 3) := by decide +kernel
theorem dL_law_282 : decode cL_law 282 = .ok (.goto (-146), 3) := by decide +kernel
theorem dL_law_285 : decode cL_law 285 = .ok (.iload 5, 2) := by decide +kernel
theorem dL_law_287 : decode cL_law 287 = .ok (.ireturn, 1) := by decide +kernel
theorem dL_takes_0 : decode cL_takes 0 = .ok (.aload_n 0, 1) := by decide +kernel
theorem dL_takes_1 : decode cL_takes 1 = .ok (.iconst 2, 1) := by decide +kernel
theorem dL_takes_2 : decode cL_takes 2 = .ok (.iconst 3, 1) := by decide +kernel
theorem dL_takes_3 : decode cL_takes 3 = .ok (.iconst 0, 1) := by decide +kernel
theorem dL_takes_4 : decode cL_takes 4 = .ok (.iconst 0, 1) := by decide +kernel
theorem dL_takes_5 : decode cL_takes 5 = .ok (.invokestatic 172, 3) := by decide +kernel
theorem dL_takes_8 : decode cL_takes 8 = .ok (.istore_n 3, 1) := by decide +kernel
theorem dL_takes_9 : decode cL_takes 9 = .ok (.iload_n 2, 1) := by decide +kernel
theorem dL_takes_10 : decode cL_takes 10 = .ok (.iload_n 3, 1) := by decide +kernel
theorem dL_takes_11 : decode cL_takes 11 = .ok (.irem, 1) := by decide +kernel
theorem dL_takes_12 : decode cL_takes 12 = .ok (.istore 4, 2) := by decide +kernel
theorem dL_takes_14 : decode cL_takes 14 = .ok (.iload_n 2, 1) := by decide +kernel
theorem dL_takes_15 : decode cL_takes 15 = .ok (.bipush 16, 2) := by decide +kernel
theorem dL_takes_17 : decode cL_takes 17 = .ok (.idiv, 1) := by decide +kernel
theorem dL_takes_18 : decode cL_takes 18 = .ok (.iconst 3, 1) := by decide +kernel
theorem dL_takes_19 : decode cL_takes 19 = .ok (.irem, 1) := by decide +kernel
theorem dL_takes_20 : decode cL_takes 20 = .ok (.iconst 1, 1) := by decide +kernel
theorem dL_takes_21 : decode cL_takes 21 = .ok (.isub, 1) := by decide +kernel
theorem dL_takes_22 : decode cL_takes 22 = .ok (.istore 5, 2) := by decide +kernel
theorem dL_takes_24 : decode cL_takes 24 = .ok (.aload_n 0, 1) := by decide +kernel
theorem dL_takes_25 : decode cL_takes 25 = .ok (.iconst 2, 1) := by decide +kernel
theorem dL_takes_26 : decode cL_takes 26 = .ok (.iconst 4, 1) := by decide +kernel
theorem dL_takes_27 : decode cL_takes 27 = .ok (.iconst 0, 1) := by decide +kernel
theorem dL_takes_28 : decode cL_takes 28 = .ok (.iconst 0, 1) := by decide +kernel
theorem dL_takes_29 : decode cL_takes 29 = .ok (.invokestatic 172, 3) := by decide +kernel
theorem dL_takes_32 : decode cL_takes 32 = .ok (.istore 6, 2) := by decide +kernel
theorem dL_takes_34 : decode cL_takes 34 = .ok (.aload_n 0, 1) := by decide +kernel
theorem dL_takes_35 : decode cL_takes 35 = .ok (.bipush 19, 2) := by decide +kernel
theorem dL_takes_37 : decode cL_takes 37 = .ok (.iload 4, 2) := by decide +kernel
theorem dL_takes_39 : decode cL_takes 39 = .ok (.iload 5, 2) := by decide +kernel
theorem dL_takes_41 : decode cL_takes 41 = .ok (.iconst 0, 1) := by decide +kernel
theorem dL_takes_42 : decode cL_takes 42 = .ok (.invokestatic 172, 3) := by decide +kernel
theorem dL_takes_45 : decode cL_takes 45 = .ok (.istore 7, 2) := by decide +kernel
theorem dL_takes_47 : decode cL_takes 47 = .ok (.aload_n 0, 1) := by decide +kernel
theorem dL_takes_48 : decode cL_takes 48 = .ok (.iconst 5, 1) := by decide +kernel
theorem dL_takes_49 : decode cL_takes 49 = .ok (.iload 4, 2) := by decide +kernel
theorem dL_takes_51 : decode cL_takes 51 = .ok (.iconst 2, 1) := by decide +kernel
theorem dL_takes_52 : decode cL_takes 52 = .ok (.iconst 0, 1) := by decide +kernel
theorem dL_takes_53 : decode cL_takes 53 = .ok (.invokestatic 172, 3) := by decide +kernel
theorem dL_takes_56 : decode cL_takes 56 = .ok (.istore 8, 2) := by decide +kernel
theorem dL_takes_58 : decode cL_takes 58 = .ok (.aload_n 0, 1) := by decide +kernel
theorem dL_takes_59 : decode cL_takes 59 = .ok (.bipush 10, 2) := by decide +kernel
theorem dL_takes_61 : decode cL_takes 61 = .ok (.iload 4, 2) := by decide +kernel
theorem dL_takes_63 : decode cL_takes 63 = .ok (.iload 5, 2) := by decide +kernel
theorem dL_takes_65 : decode cL_takes 65 = .ok (.iconst 0, 1) := by decide +kernel
theorem dL_takes_66 : decode cL_takes 66 = .ok (.invokestatic 172, 3) := by decide +kernel
theorem dL_takes_69 : decode cL_takes 69 = .ok (.iload 7, 2) := by decide +kernel
theorem dL_takes_71 : decode cL_takes 71 = .ok (.if_icmp .ne 110, 3) := by decide +kernel
theorem dL_takes_74 : decode cL_takes 74 = .ok (.aload_n 1, 1) := by decide +kernel
theorem dL_takes_75 : decode cL_takes 75 = .ok (.bipush 10, 2) := by decide +kernel
theorem dL_takes_77 : decode cL_takes 77 = .ok (.iload 4, 2) := by decide +kernel
theorem dL_takes_79 : decode cL_takes 79 = .ok (.iload 5, 2) := by decide +kernel
theorem dL_takes_81 : decode cL_takes 81 = .ok (.iconst 0, 1) := by decide +kernel
theorem dL_takes_82 : decode cL_takes 82 = .ok (.invokestatic 172, 3) := by decide +kernel
theorem dL_takes_85 : decode cL_takes 85 = .ok (.iload 7, 2) := by decide +kernel
theorem dL_takes_87 : decode cL_takes 87 = .ok (.if_icmp .ne 94, 3) := by decide +kernel
theorem dL_takes_90 : decode cL_takes 90 = .ok (.aload_n 0, 1) := by decide +kernel
theorem dL_takes_91 : decode cL_takes 91 = .ok (.iconst 2, 1) := by decide +kernel
theorem dL_takes_92 : decode cL_takes 92 = .ok (.iconst 4, 1) := by decide +kernel
theorem dL_takes_93 : decode cL_takes 93 = .ok (.iconst 0, 1) := by decide +kernel
theorem dL_takes_94 : decode cL_takes 94 = .ok (.iconst 0, 1) := by decide +kernel
theorem dL_takes_95 : decode cL_takes 95 = .ok (.invokestatic 172, 3) := by decide +kernel
theorem dL_takes_98 : decode cL_takes 98 = .ok (.iload 7, 2) := by decide +kernel
theorem dL_takes_100 : decode cL_takes 100 = .ok (.if_icmp .ne 81, 3) := by decide +kernel
theorem dL_takes_103 : decode cL_takes 103 = .ok (.aload_n 0, 1) := by decide +kernel
theorem dL_takes_104 : decode cL_takes 104 = .ok (.iconst 5, 1) := by decide +kernel
theorem dL_takes_105 : decode cL_takes 105 = .ok (.iload 4, 2) := by decide +kernel
theorem dL_takes_107 : decode cL_takes 107 = .ok (.iconst 2, 1) := by decide +kernel
theorem dL_takes_108 : decode cL_takes 108 = .ok (.iconst 0, 1) := by decide +kernel
theorem dL_takes_109 : decode cL_takes 109 = .ok (.invokestatic 172, 3) := by decide +kernel
theorem dL_takes_112 : decode cL_takes 112 = .ok (.iload 5, 2) := by decide +kernel
theorem dL_takes_114 : decode cL_takes 114 = .ok (.if_icmp .ne 67, 3) := by decide +kernel
theorem dL_takes_117 : decode cL_takes 117 = .ok (.aload_n 0, 1) := by decide +kernel
theorem dL_takes_118 : decode cL_takes 118 = .ok (.bipush 15, 2) := by decide +kernel
theorem dL_takes_120 : decode cL_takes 120 = .ok (.iconst 0, 1) := by decide +kernel
theorem dL_takes_121 : decode cL_takes 121 = .ok (.iconst 0, 1) := by decide +kernel
theorem dL_takes_122 : decode cL_takes 122 = .ok (.iconst 0, 1) := by decide +kernel
theorem dL_takes_123 : decode cL_takes 123 = .ok (.invokestatic 172, 3) := by decide +kernel
theorem dL_takes_126 : decode cL_takes 126 = .ok (.invokestatic 223, 3) := by decide +kernel
theorem dL_takes_129 : decode cL_takes 129 = .ok (.ifCond .ne 52, 3) := by decide +kernel
theorem dL_takes_132 : decode cL_takes 132 = .ok (.aload_n 1, 1) := by decide +kernel
theorem dL_takes_133 : decode cL_takes 133 = .ok (.bipush 15, 2) := by decide +kernel
theorem dL_takes_135 : decode cL_takes 135 = .ok (.iconst 0, 1) := by decide +kernel
theorem dL_takes_136 : decode cL_takes 136 = .ok (.iconst 0, 1) := by decide +kernel
theorem dL_takes_137 : decode cL_takes 137 = .ok (.iconst 0, 1) := by decide +kernel
theorem dL_takes_138 : decode cL_takes 138 = .ok (.invokestatic 172, 3) := by decide +kernel
theorem dL_takes_141 : decode cL_takes 141 = .ok (.invokestatic 223, 3) := by decide +kernel
theorem dL_takes_144 : decode cL_takes 144 = .ok (.ifCond .ne 37, 3) := by decide +kernel
theorem dL_takes_147 : decode cL_takes 147 = .ok (.aload_n 0, 1) := by decide +kernel
theorem dL_takes_148 : decode cL_takes 148 = .ok (.iconst 5, 1) := by decide +kernel
theorem dL_takes_149 : decode cL_takes 149 = .ok (.iload 4, 2) := by decide +kernel
theorem dL_takes_151 : decode cL_takes 151 = .ok (.iconst 2, 1) := by decide +kernel
theorem dL_takes_152 : decode cL_takes 152 = .ok (.iconst 0, 1) := by decide +kernel
theorem dL_takes_153 : decode cL_takes 153 = .ok (.invokestatic 172, 3) := by decide +kernel
theorem dL_takes_156 : decode cL_takes 156 = .ok (.iload 8, 2) := by decide +kernel
theorem dL_takes_158 : decode cL_takes 158 = .ok (.if_icmp .ne 23, 3) := by decide +kernel
theorem dL_takes_161 : decode cL_takes 161 = .ok (.aload_n 0, 1) := by decide +kernel
theorem dL_takes_162 : decode cL_takes 162 = .ok (.bipush 19, 2) := by decide +kernel
theorem dL_takes_164 : decode cL_takes 164 = .ok (.iload 4, 2) := by decide +kernel
theorem dL_takes_166 : decode cL_takes 166 = .ok (.iload 8, 2) := by decide +kernel
theorem dL_takes_168 : decode cL_takes 168 = .ok (.iconst 0, 1) := by decide +kernel
theorem dL_takes_169 : decode cL_takes 169 = .ok (.invokestatic 172, 3) := by decide +kernel
theorem dL_takes_172 : decode cL_takes 172 = .ok (.iload 6, 2) := by decide +kernel
theorem dL_takes_174 : decode cL_takes 174 = .ok (.if_icmp .ne 7, 3) := by decide +kernel
theorem dL_takes_177 : decode cL_takes 177 = .ok (.iconst 1, 1) := by decide +kernel
theorem dL_takes_178 : decode cL_takes 178 = .ok (.goto 4, 3) := by decide +kernel
theorem dL_takes_181 : decode cL_takes 181 = .ok (.iconst 0, 1) := by decide +kernel
theorem dL_takes_182 : decode cL_takes 182 = .ok (.istore 9, 2) := by decide +kernel
theorem dL_takes_184 : decode cL_takes 184 = .ok (.aload_n 0, 1) := by decide +kernel
theorem dL_takes_185 : decode cL_takes 185 = .ok (.iconst 2, 1) := by decide +kernel
theorem dL_takes_186 : decode cL_takes 186 = .ok (.bipush 6, 2) := by decide +kernel
theorem dL_takes_188 : decode cL_takes 188 = .ok (.iconst 0, 1) := by decide +kernel
theorem dL_takes_189 : decode cL_takes 189 = .ok (.iconst 0, 1) := by decide +kernel
theorem dL_takes_190 : decode cL_takes 190 = .ok (.invokestatic 172, 3) := by decide +kernel
theorem dL_takes_193 : decode cL_takes 193 = .ok (.istore 10, 2) := by decide +kernel
theorem dL_takes_195 : decode cL_takes 195 = .ok (.aload_n 0, 1) := by decide +kernel
theorem dL_takes_196 : decode cL_takes 196 = .ok (.invokevirtual 193, 3) := by decide +kernel
theorem dL_takes_199 : decode cL_takes 199 = .ok (.istore 11, 2) := by decide +kernel
theorem dL_takes_201 : decode cL_takes 201 = .ok (.aload_n 0, 1) := by decide +kernel
theorem dL_takes_202 : decode cL_takes 202 = .ok (.iconst 2, 1) := by decide +kernel
theorem dL_takes_203 : decode cL_takes 203 = .ok (.bipush 8, 2) := by decide +kernel
theorem dL_takes_205 : decode cL_takes 205 = .ok (.iconst 0, 1) := by decide +kernel
theorem dL_takes_206 : decode cL_takes 206 = .ok (.iconst 0, 1) := by decide +kernel
theorem dL_takes_207 : decode cL_takes 207 = .ok (.invokestatic 172, 3) := by decide +kernel
theorem dL_takes_210 : decode cL_takes 210 = .ok (.istore 12, 2) := by decide +kernel
theorem dL_takes_212 : decode cL_takes 212 = .ok (.aload_n 0, 1) := by decide +kernel
theorem dL_takes_213 : decode cL_takes 213 = .ok (.bipush 11, 2) := by decide +kernel
theorem dL_takes_215 : decode cL_takes 215 = .ok (.iload 4, 2) := by decide +kernel
theorem dL_takes_217 : decode cL_takes 217 = .ok (.iconst 0, 1) := by decide +kernel
theorem dL_takes_218 : decode cL_takes 218 = .ok (.iconst 0, 1) := by decide +kernel
theorem dL_takes_219 : decode cL_takes 219 = .ok (.invokestatic 172, 3) := by decide +kernel
theorem dL_takes_222 : decode cL_takes 222 = .ok (.istore 13, 2) := by decide +kernel
theorem dL_takes_224 : decode cL_takes 224 = .ok (.iload 9, 2) := by decide +kernel
theorem dL_takes_226 : decode cL_takes 226 = .ok (.ifCond .eq 124, 3) := by decide +kernel
theorem dL_takes_229 : decode cL_takes 229 = .ok (.aload_n 1, 1) := by decide +kernel
theorem dL_takes_230 : decode cL_takes 230 = .ok (.bipush 11, 2) := by decide +kernel
theorem dL_takes_232 : decode cL_takes 232 = .ok (.iload 4, 2) := by decide +kernel
theorem dL_takes_234 : decode cL_takes 234 = .ok (.iconst 0, 1) := by decide +kernel
theorem dL_takes_235 : decode cL_takes 235 = .ok (.iconst 0, 1) := by decide +kernel
theorem dL_takes_236 : decode cL_takes 236 = .ok (.invokestatic 172, 3) := by decide +kernel
theorem dL_takes_239 : decode cL_takes 239 = .ok (.iload 13, 2) := by decide +kernel
theorem dL_takes_241 : decode cL_takes 241 = .ok (.if_icmp .ne 109, 3) := by decide +kernel
theorem dL_takes_244 : decode cL_takes 244 = .ok (.iload 13, 2) := by decide +kernel
theorem dL_takes_246 : decode cL_takes 246 = .ok (.iload 8, 2) := by decide +kernel
theorem dL_takes_248 : decode cL_takes 248 = .ok (.iconst (-1), 1) := by decide +kernel
theorem dL_takes_249 : decode cL_takes 249 = .ok (.if_icmp .ne 7, 3) := by decide +kernel
theorem dL_takes_252 : decode cL_takes 252 = .ok (.iconst 0, 1) := by decide +kernel
theorem dL_takes_253 : decode cL_takes 253 = .ok (.goto 15, 3) := by decide +kernel
theorem dL_takes_256 : decode cL_takes 256 = .ok (.iload 8, 2) := by decide +kernel
theorem dL_takes_258 : decode cL_takes 258 = .ok (.iload 10, 2) := by decide +kernel
theorem dL_takes_260 : decode cL_takes 260 = .ok (.if_icmp .ne 7, 3) := by decide +kernel
theorem dL_takes_263 : decode cL_takes 263 = .ok (.iconst 2, 1) := by decide +kernel
theorem dL_takes_264 : decode cL_takes 264 = .ok (.goto 4, 3) := by decide +kernel
theorem dL_takes_267 : decode cL_takes 267 = .ok (.iconst 1, 1) := by decide +kernel
theorem dL_takes_268 : decode cL_takes 268 = .ok (.if_icmp .ne 82, 3) := by decide +kernel
theorem dL_takes_271 : decode cL_takes 271 = .ok (.aload_n 0, 1) := by decide +kernel
theorem dL_takes_272 : decode cL_takes 272 = .ok (.iconst 2, 1) := by decide +kernel
theorem dL_takes_273 : decode cL_takes 273 = .ok (.bipush 6, 2) := by decide +kernel
theorem dL_takes_275 : decode cL_takes 275 = .ok (.iconst 0, 1) := by decide +kernel
theorem dL_takes_276 : decode cL_takes 276 = .ok (.iconst 0, 1) := by decide +kernel
theorem dL_takes_277 : decode cL_takes 277 = .ok (.invokestatic 172, 3) := by decide +kernel
theorem dL_takes_280 : decode cL_takes 280 = .ok (.iload 13, 2) := by decide +kernel
theorem dL_takes_282 : decode cL_takes 282 = .ok (.ifCond .ne 10, 3) := by decide +kernel
theorem dL_takes_285 : decode cL_takes 285 = .ok (.iconst 1, 1) := by decide +kernel
theorem dL_takes_286 : decode cL_takes 286 = .ok (.iload 10, 2) := by decide +kernel
theorem dL_takes_288 : decode cL_takes 288 = .ok (.isub, 1) := by decide +kernel
theorem dL_takes_289 : decode cL_takes 289 = .ok (.goto 5, 3) := by decide +kernel
theorem dL_takes_292 : decode cL_takes 292 = .ok (.iload 10, 2) := by decide +kernel
theorem dL_takes_294 : decode cL_takes 294 = .ok (.if_icmp .ne 56, 3) := by decide +kernel
theorem dL_takes_297 : decode cL_takes 297 = .ok (.aload_n 0, 1) := by decide +kernel
theorem dL_takes_298 : decode cL_takes 298 = .ok (.iconst 2, 1) := by decide +kernel
theorem dL_takes_299 : decode cL_takes 299 = .ok (.bipush 8, 2) := by decide +kernel
theorem dL_takes_301 : decode cL_takes 301 = .ok (.iconst 0, 1) := by decide +kernel
theorem dL_takes_302 : decode cL_takes 302 = .ok (.iconst 0, 1) := by decide +kernel
theorem dL_takes_303 : decode cL_takes 303 = .ok (.invokestatic 172, 3) := by decide +kernel
theorem dL_takes_306 : decode cL_takes 306 = .ok (.iload 12, 2) := by decide +kernel
theorem dL_takes_308 : decode cL_takes 308 = .ok (.iload 13, 2) := by decide +kernel
theorem dL_takes_310 : decode cL_takes 310 = .ok (.ifCond .ne 7, 3) := by decide +kernel
theorem dL_takes_313 : decode cL_takes 313 = .ok (.iconst 0, 1) := by decide +kernel
theorem dL_takes_314 : decode cL_takes 314 = .ok (.goto 4, 3) := by decide +kernel
theorem dL_takes_317 : decode cL_takes 317 = .ok (.iconst 1, 1) := by decide +kernel
theorem dL_takes_318 : decode cL_takes 318 = .ok (.iadd, 1) := by decide +kernel
theorem dL_takes_319 : decode cL_takes 319 = .ok (.if_icmp .ne 31, 3) := by decide +kernel
theorem dL_takes_322 : decode cL_takes 322 = .ok (.aload_n 0, 1) := by decide +kernel
theorem dL_takes_323 : decode cL_takes 323 = .ok (.iconst 5, 1) := by decide +kernel
theorem dL_takes_324 : decode cL_takes 324 = .ok (.iload 4, 2) := by decide +kernel
theorem dL_takes_326 : decode cL_takes 326 = .ok (.iconst 2, 1) := by decide +kernel
theorem dL_takes_327 : decode cL_takes 327 = .ok (.iconst 0, 1) := by decide +kernel
theorem dL_takes_328 : decode cL_takes 328 = .ok (.invokestatic 172, 3) := by decide +kernel
theorem dL_takes_331 : decode cL_takes 331 = .ok (.iload 13, 2) := by decide +kernel
theorem dL_takes_333 : decode cL_takes 333 = .ok (.ifCond .ne 8, 3) := by decide +kernel
theorem dL_takes_336 : decode cL_takes 336 = .ok (.iload 10, 2) := by decide +kernel
theorem dL_takes_338 : decode cL_takes 338 = .ok (.goto 5, 3) := by decide +kernel
theorem dL_takes_341 : decode cL_takes 341 = .ok (.iload 8, 2) := by decide +kernel
theorem dL_takes_343 : decode cL_takes 343 = .ok (.if_icmp .ne 7, 3) := by decide +kernel
theorem dL_takes_346 : decode cL_takes 346 = .ok (.iconst 1, 1) := by decide +kernel
theorem dL_takes_347 : decode cL_takes 347 = .ok (.goto 4, 3) := by decide +kernel
theorem dL_takes_350 : decode cL_takes 350 = .ok (.iconst 0, 1) := by decide +kernel
theorem dL_takes_351 : decode cL_takes 351 = .ok (.istore 9, 2) := by decide +kernel
theorem dL_takes_353 : decode cL_takes 353 = .ok (.aload_n 0, 1) := by decide +kernel
theorem dL_takes_354 : decode cL_takes 354 = .ok (.iconst 2, 1) := by decide +kernel
theorem dL_takes_355 : decode cL_takes 355 = .ok (.iconst 4, 1) := by decide +kernel
theorem dL_takes_356 : decode cL_takes 356 = .ok (.iconst 0, 1) := by decide +kernel
theorem dL_takes_357 : decode cL_takes 357 = .ok (.iconst 0, 1) := by decide +kernel
theorem dL_takes_358 : decode cL_takes 358 = .ok (.invokestatic 172, 3) := by decide +kernel
theorem dL_takes_361 : decode cL_takes 361 = .ok (.istore 14, 2) := by decide +kernel
theorem dL_takes_363 : decode cL_takes 363 = .ok (.iload 9, 2) := by decide +kernel
theorem dL_takes_365 : decode cL_takes 365 = .ok (.ifCond .eq 68, 3) := by decide +kernel
theorem dL_takes_368 : decode cL_takes 368 = .ok (.aload_n 0, 1) := by decide +kernel
theorem dL_takes_369 : decode cL_takes 369 = .ok (.bipush 15, 2) := by decide +kernel
theorem dL_takes_371 : decode cL_takes 371 = .ok (.iconst 0, 1) := by decide +kernel
theorem dL_takes_372 : decode cL_takes 372 = .ok (.iconst 0, 1) := by decide +kernel
theorem dL_takes_373 : decode cL_takes 373 = .ok (.iconst 0, 1) := by decide +kernel
theorem dL_takes_374 : decode cL_takes 374 = .ok (.invokestatic 172, 3) := by decide +kernel
theorem dL_takes_377 : decode cL_takes 377 = .ok (.invokestatic 223, 3) := by decide +kernel
theorem dL_takes_380 : decode cL_takes 380 = .ok (.ifCond .ne 53, 3) := by decide +kernel
theorem dL_takes_383 : decode cL_takes 383 = .ok (.aload_n 1, 1) := by decide +kernel
theorem dL_takes_384 : decode cL_takes 384 = .ok (.bipush 15, 2) := by decide +kernel
theorem dL_takes_386 : decode cL_takes 386 = .ok (.iconst 0, 1) := by decide +kernel
theorem dL_takes_387 : decode cL_takes 387 = .ok (.iconst 0, 1) := by decide +kernel
theorem dL_takes_388 : decode cL_takes 388 = .ok (.iconst 0, 1) := by decide +kernel
theorem dL_takes_389 : decode cL_takes 389 = .ok (.invokestatic 172, 3) := by decide +kernel
theorem dL_takes_392 : decode cL_takes 392 = .ok (.invokestatic 223, 3) := by decide +kernel
theorem dL_takes_395 : decode cL_takes 395 = .ok (.ifCond .ne 38, 3) := by decide +kernel
theorem dL_takes_398 : decode cL_takes 398 = .ok (.iload 11, 2) := by decide +kernel
theorem dL_takes_400 : decode cL_takes 400 = .ok (.iconst (-1), 1) := by decide +kernel
theorem dL_takes_401 : decode cL_takes 401 = .ok (.if_icmp .ne 7, 3) := by decide +kernel
theorem dL_takes_404 : decode cL_takes 404 = .ok (.iconst 1, 1) := by decide +kernel
theorem dL_takes_405 : decode cL_takes 405 = .ok (.goto 4, 3) := by decide +kernel
theorem dL_takes_408 : decode cL_takes 408 = .ok (.iconst 0, 1) := by decide +kernel
theorem dL_takes_409 : decode cL_takes 409 = .ok (.aload_n 0, 1) := by decide +kernel
theorem dL_takes_410 : decode cL_takes 410 = .ok (.iconst 2, 1) := by decide +kernel
theorem dL_takes_411 : decode cL_takes 411 = .ok (.bipush 7, 2) := by decide +kernel
theorem dL_takes_413 : decode cL_takes 413 = .ok (.iconst 0, 1) := by decide +kernel
theorem dL_takes_414 : decode cL_takes 414 = .ok (.iconst 0, 1) := by decide +kernel
theorem dL_takes_415 : decode cL_takes 415 = .ok (.invokestatic 172, 3) := by decide +kernel
theorem dL_takes_418 : decode cL_takes 418 = .ok (.ifCond .ne 7, 3) := by decide +kernel
theorem dL_takes_421 : decode cL_takes 421 = .ok (.iconst 1, 1) := by decide +kernel
theorem dL_takes_422 : decode cL_takes 422 = .ok (.goto 4, 3) := by decide +kernel
theorem dL_takes_425 : decode cL_takes 425 = .ok (.iconst 0, 1) := by decide +kernel
theorem dL_takes_426 : decode cL_takes 426 = .ok (.if_icmp .ne 7, 3) := by decide +kernel
theorem dL_takes_429 : decode cL_takes 429 = .ok (.iconst 1, 1) := by decide +kernel
theorem dL_takes_430 : decode cL_takes 430 = .ok (.goto 4, 3) := by decide +kernel
theorem dL_takes_433 : decode cL_takes 433 = .ok (.iconst 0, 1) := by decide +kernel
theorem dL_takes_434 : decode cL_takes 434 = .ok (.istore 9, 2) := by decide +kernel
theorem dL_takes_436 : decode cL_takes 436 = .ok (.iload 11, 2) := by decide +kernel
theorem dL_takes_438 : decode cL_takes 438 = .ok (.iconst (-1), 1) := by decide +kernel
theorem dL_takes_439 : decode cL_takes 439 = .ok (.if_icmp .eq 67, 3) := by decide +kernel
theorem dL_takes_442 : decode cL_takes 442 = .ok (.iload 9, 2) := by decide +kernel
theorem dL_takes_444 : decode cL_takes 444 = .ok (.ifCond .eq 62, 3) := by decide +kernel
theorem dL_takes_447 : decode cL_takes 447 = .ok (.aload_n 0, 1) := by decide +kernel
theorem dL_takes_448 : decode cL_takes 448 = .ok (.bipush 19, 2) := by decide +kernel
theorem dL_takes_450 : decode cL_takes 450 = .ok (.iload 11, 2) := by decide +kernel
theorem dL_takes_452 : decode cL_takes 452 = .ok (.iload 10, 2) := by decide +kernel
theorem dL_takes_454 : decode cL_takes 454 = .ok (.iconst 0, 1) := by decide +kernel
theorem dL_takes_455 : decode cL_takes 455 = .ok (.invokestatic 172, 3) := by decide +kernel
theorem dL_takes_458 : decode cL_takes 458 = .ok (.istore 15, 2) := by decide +kernel
theorem dL_takes_460 : decode cL_takes 460 = .ok (.aload_n 0, 1) := by decide +kernel
theorem dL_takes_461 : decode cL_takes 461 = .ok (.iconst 5, 1) := by decide +kernel
theorem dL_takes_462 : decode cL_takes 462 = .ok (.iload 11, 2) := by decide +kernel
theorem dL_takes_464 : decode cL_takes 464 = .ok (.iconst 2, 1) := by decide +kernel
theorem dL_takes_465 : decode cL_takes 465 = .ok (.iconst 0, 1) := by decide +kernel
theorem dL_takes_466 : decode cL_takes 466 = .ok (.invokestatic 172, 3) := by decide +kernel
theorem dL_takes_469 : decode cL_takes 469 = .ok (.iconst (-1), 1) := by decide +kernel
theorem dL_takes_470 : decode cL_takes 470 = .ok (.if_icmp .ne 33, 3) := by decide +kernel
theorem dL_takes_473 : decode cL_takes 473 = .ok (.iload 13, 2) := by decide +kernel
theorem dL_takes_475 : decode cL_takes 475 = .ok (.ifCond .gt 24, 3) := by decide +kernel
theorem dL_takes_478 : decode cL_takes 478 = .ok (.iload 14, 2) := by decide +kernel
theorem dL_takes_480 : decode cL_takes 480 = .ok (.iload 15, 2) := by decide +kernel
theorem dL_takes_482 : decode cL_takes 482 = .ok (.if_icmp .gt 17, 3) := by decide +kernel
theorem dL_takes_485 : decode cL_takes 485 = .ok (.iload 14, 2) := by decide +kernel
theorem dL_takes_487 : decode cL_takes 487 = .ok (.iload 15, 2) := by decide +kernel
theorem dL_takes_489 : decode cL_takes 489 = .ok (.if_icmp .ne 14, 3) := by decide +kernel
theorem dL_takes_492 : decode cL_takes 492 = .ok (.iload 4, 2) := by decide +kernel
theorem dL_takes_494 : decode cL_takes 494 = .ok (.iload 11, 2) := by decide +kernel
theorem dL_takes_496 : decode cL_takes 496 = .ok (.if_icmp .lt 7, 3) := by decide +kernel
theorem dL_takes_499 : decode cL_takes 499 = .ok (.iconst 1, 1) := by decide +kernel
theorem dL_takes_500 : decode cL_takes 500 = .ok (.goto 4, 3) := by decide +kernel
theorem dL_takes_503 : decode cL_takes 503 = .ok (.iconst 0, 1) := by decide +kernel
theorem dL_takes_504 : decode cL_takes 504 = .ok (.istore 9, 2) := by decide +kernel
theorem dL_takes_506 : decode cL_takes 506 = .ok (.iload 9, 2) := by decide +kernel
theorem dL_takes_508 : decode cL_takes 508 = .ok (.ifCond .eq 34, 3) := by decide +kernel
theorem dL_takes_511 : decode cL_takes 511 = .ok (.aload_n 0, 1) := by decide +kernel
theorem dL_takes_512 : decode cL_takes 512 = .ok (.iconst 2, 1) := by decide +kernel
theorem dL_takes_513 : decode cL_takes 513 = .ok (.bipush 6, 2) := by decide +kernel
theorem dL_takes_515 : decode cL_takes 515 = .ok (.iconst 0, 1) := by decide +kernel
theorem dL_takes_516 : decode cL_takes 516 = .ok (.iconst 0, 1) := by decide +kernel
theorem dL_takes_517 : decode cL_takes 517 = .ok (.invokestatic 172, 3) := by decide +kernel
theorem dL_takes_520 : decode cL_takes 520 = .ok (.iload 10, 2) := by decide +kernel
theorem dL_takes_522 : decode cL_takes 522 = .ok (.if_icmp .ne 20, 3) := by decide +kernel
theorem dL_takes_525 : decode cL_takes 525 = .ok (.aload_n 0, 1) := by decide +kernel
theorem dL_takes_526 : decode cL_takes 526 = .ok (.iconst 2, 1) := by decide +kernel
theorem dL_takes_527 : decode cL_takes 527 = .ok (.iconst 4, 1) := by decide +kernel
theorem dL_takes_528 : decode cL_takes 528 = .ok (.iconst 0, 1) := by decide +kernel
theorem dL_takes_529 : decode cL_takes 529 = .ok (.iconst 0, 1) := by decide +kernel
theorem dL_takes_530 : decode cL_takes 530 = .ok (.invokestatic 172, 3) := by decide +kernel
theorem dL_takes_533 : decode cL_takes 533 = .ok (.iload 6, 2) := by decide +kernel
theorem dL_takes_535 : decode cL_takes 535 = .ok (.if_icmp .ne 7, 3) := by decide +kernel
theorem dL_takes_538 : decode cL_takes 538 = .ok (.iconst 1, 1) := by decide +kernel
theorem dL_takes_539 : decode cL_takes 539 = .ok (.goto 4, 3) := by decide +kernel
theorem dL_takes_542 : decode cL_takes 542 = .ok (.iconst 0, 1) := by decide +kernel
theorem dL_takes_543 : decode cL_takes 543 = .ok (.ireturn, 1) := by decide +kernel
theorem dL_divides_0 : decode cL_divides 0 = .ok (.aload_n 0, 1) := by decide +kernel
theorem dL_divides_1 : decode cL_divides 1 = .ok (.bipush 16, 2) := by decide +kernel
theorem dL_divides_3 : decode cL_divides 3 = .ok (.iconst 0, 1) := by decide +kernel
theorem dL_divides_4 : decode cL_divides 4 = .ok (.iconst 0, 1) := by decide +kernel
theorem dL_divides_5 : decode cL_divides 5 = .ok (.iconst 0, 1) := by decide +kernel
theorem dL_divides_6 : decode cL_divides 6 = .ok (.invokestatic 172, 3) := by decide +kernel
theorem dL_divides_9 : decode cL_divides 9 = .ok (.istore_n 3, 1) := by decide +kernel
theorem dL_divides_10 : decode cL_divides 10 = .ok (.aload_n 0, 1) := by decide +kernel
theorem dL_divides_11 : decode cL_divides 11 = .ok (.bipush 17, 2) := by decide +kernel
theorem dL_divides_13 : decode cL_divides 13 = .ok (.iconst 1, 1) := by decide +kernel
theorem dL_divides_14 : decode cL_divides 14 = .ok (.iconst 0, 1) := by decide +kernel
theorem dL_divides_15 : decode cL_divides 15 = .ok (.iconst 0, 1) := by decide +kernel
theorem dL_divides_16 : decode cL_divides 16 = .ok (.invokestatic 172, 3) := by decide +kernel
theorem dL_divides_19 : decode cL_divides 19 = .ok (.istore 4, 2) := by decide +kernel
theorem dL_divides_21 : decode cL_divides 21 = .ok (.aload_n 0, 1) := by decide +kernel
theorem dL_divides_22 : decode cL_divides 22 = .ok (.iconst 2, 1) := by decide +kernel
theorem dL_divides_23 : decode cL_divides 23 = .ok (.iconst 0, 1) := by decide +kernel
theorem dL_divides_24 : decode cL_divides 24 = .ok (.iconst 0, 1) := by decide +kernel
theorem dL_divides_25 : decode cL_divides 25 = .ok (.iconst 0, 1) := by decide +kernel
theorem dL_divides_26 : decode cL_divides 26 = .ok (.invokestatic 172, 3) := by decide +kernel
theorem dL_divides_29 : decode cL_divides 29 = .ok (.istore 5, 2) := by decide +kernel
theorem dL_divides_31 : decode cL_divides 31 = .ok (.aload_n 0, 1) := by decide +kernel
theorem dL_divides_32 : decode cL_divides 32 = .ok (.invokevirtual 227, 3) := by decide +kernel
theorem dL_divides_35 : decode cL_divides 35 = .ok (.istore 6, 2) := by decide +kernel
theorem dL_divides_37 : decode cL_divides 37 = .ok (.aload_n 0, 1) := by decide +kernel
theorem dL_divides_38 : decode cL_divides 38 = .ok (.iconst 2, 1) := by decide +kernel
theorem dL_divides_39 : decode cL_divides 39 = .ok (.iconst 1, 1) := by decide +kernel
theorem dL_divides_40 : decode cL_divides 40 = .ok (.iconst 0, 1) := by decide +kernel
theorem dL_divides_41 : decode cL_divides 41 = .ok (.iconst 0, 1) := by decide +kernel
theorem dL_divides_42 : decode cL_divides 42 = .ok (.invokestatic 172, 3) := by decide +kernel
theorem dL_divides_45 : decode cL_divides 45 = .ok (.istore 7, 2) := by decide +kernel
theorem dL_divides_47 : decode cL_divides 47 = .ok (.iconst 1, 1) := by decide +kernel
theorem dL_divides_48 : decode cL_divides 48 = .ok (.istore 8, 2) := by decide +kernel
theorem dL_divides_50 : decode cL_divides 50 = .ok (.iload_n 3, 1) := by decide +kernel
theorem dL_divides_51 : decode cL_divides 51 = .ok (.iconst (-1), 1) := by decide +kernel
theorem dL_divides_52 : decode cL_divides 52 = .ok (.if_icmp .ne 41, 3) := by decide +kernel
theorem dL_divides_55 : decode cL_divides 55 = .ok (.aload_n 0, 1) := by decide +kernel
theorem dL_divides_56 : decode cL_divides 56 = .ok (.bipush 13, 2) := by decide +kernel
theorem dL_divides_58 : decode cL_divides 58 = .ok (.iconst 0, 1) := by decide +kernel
theorem dL_divides_59 : decode cL_divides 59 = .ok (.iconst 0, 1) := by decide +kernel
theorem dL_divides_60 : decode cL_divides 60 = .ok (.iconst 0, 1) := by decide +kernel
theorem dL_divides_61 : decode cL_divides 61 = .ok (.invokestatic 172, 3) := by decide +kernel
theorem dL_divides_64 : decode cL_divides 64 = .ok (.ldc 33, 2) := by decide +kernel
theorem dL_divides_66 : decode cL_divides 66 = .ok (.if_icmp .ne 21, 3) := by decide +kernel
theorem dL_divides_69 : decode cL_divides 69 = .ok (.aload_n 1, 1) := by decide +kernel
theorem dL_divides_70 : decode cL_divides 70 = .ok (.bipush 13, 2) := by decide +kernel
theorem dL_divides_72 : decode cL_divides 72 = .ok (.iconst 0, 1) := by decide +kernel
theorem dL_divides_73 : decode cL_divides 73 = .ok (.iconst 0, 1) := by decide +kernel
theorem dL_divides_74 : decode cL_divides 74 = .ok (.iconst 0, 1) := by decide +kernel
theorem dL_divides_75 : decode cL_divides 75 = .ok (.invokestatic 172, 3) := by decide +kernel
theorem dL_divides_78 : decode cL_divides 78 = .ok (.ldc 33, 2) := by decide +kernel
theorem dL_divides_80 : decode cL_divides 80 = .ok (.if_icmp .ne 7, 3) := by decide +kernel
theorem dL_divides_83 : decode cL_divides 83 = .ok (.iconst 1, 1) := by decide +kernel
theorem dL_divides_84 : decode cL_divides 84 = .ok (.goto 4, 3) := by decide +kernel
theorem dL_divides_87 : decode cL_divides 87 = .ok (.iconst 0, 1) := by decide +kernel
theorem dL_divides_88 : decode cL_divides 88 = .ok (.istore 8, 2) := by decide +kernel
theorem dL_divides_90 : decode cL_divides 90 = .ok (.goto 125, 3) := by decide +kernel
theorem dL_divides_93 : decode cL_divides 93 = .ok (.iload 6, 2) := by decide +kernel
theorem dL_divides_95 : decode cL_divides 95 = .ok (.iconst (-1), 1) := by decide +kernel
theorem dL_divides_96 : decode cL_divides 96 = .ok (.if_icmp .eq 116, 3) := by decide +kernel
theorem dL_divides_99 : decode cL_divides 99 = .ok (.aload_n 0, 1) := by decide +kernel
theorem dL_divides_100 : decode cL_divides 100 = .ok (.bipush 13, 2) := by decide +kernel
theorem dL_divides_102 : decode cL_divides 102 = .ok (.iconst 0, 1) := by decide +kernel
theorem dL_divides_103 : decode cL_divides 103 = .ok (.iconst 0, 1) := by decide +kernel
theorem dL_divides_104 : decode cL_divides 104 = .ok (.iconst 0, 1) := by decide +kernel
theorem dL_divides_105 : decode cL_divides 105 = .ok (.invokestatic 172, 3) := by decide +kernel
theorem dL_divides_108 : decode cL_divides 108 = .ok (.iload_n 3, 1) := by decide +kernel
theorem dL_divides_109 : decode cL_divides 109 = .ok (.if_icmp .ne 103, 3) := by decide +kernel
theorem dL_divides_112 : decode cL_divides 112 = .ok (.aload_n 1, 1) := by decide +kernel
theorem dL_divides_113 : decode cL_divides 113 = .ok (.bipush 13, 2) := by decide +kernel
theorem dL_divides_115 : decode cL_divides 115 = .ok (.iconst 0, 1) := by decide +kernel
theorem dL_divides_116 : decode cL_divides 116 = .ok (.iconst 0, 1) := by decide +kernel
theorem dL_divides_117 : decode cL_divides 117 = .ok (.iconst 0, 1) := by decide +kernel
theorem dL_divides_118 : decode cL_divides 118 = .ok (.invokestatic 172, 3) := by decide +kernel
theorem dL_divides_121 : decode cL_divides 121 = .ok (.iload_n 3, 1) := by decide +kernel
theorem dL_divides_122 : decode cL_divides 122 = .ok (.if_icmp .ne 90, 3) := by decide +kernel
theorem dL_divides_125 : decode cL_divides 125 = .ok (.aload_n 0, 1) := by decide +kernel
theorem dL_divides_126 : decode cL_divides 126 = .ok (.iconst 2, 1) := by decide +kernel
theorem dL_divides_127 : decode cL_divides 127 = .ok (.iconst 5, 1) := by decide +kernel
theorem dL_divides_128 : decode cL_divides 128 = .ok (.iconst 0, 1) := by decide +kernel
theorem dL_divides_129 : decode cL_divides 129 = .ok (.iconst 0, 1) := by decide +kernel
theorem dL_divides_130 : decode cL_divides 130 = .ok (.invokestatic 172, 3) := by decide +kernel
theorem dL_divides_133 : decode cL_divides 133 = .ok (.iconst 1, 1) := by decide +kernel
theorem dL_divides_134 : decode cL_divides 134 = .ok (.if_icmp .ne 78, 3) := by decide +kernel
theorem dL_divides_137 : decode cL_divides 137 = .ok (.aload_n 0, 1) := by decide +kernel
theorem dL_divides_138 : decode cL_divides 138 = .ok (.iconst 2, 1) := by decide +kernel
theorem dL_divides_139 : decode cL_divides 139 = .ok (.iconst 2, 1) := by decide +kernel
theorem dL_divides_140 : decode cL_divides 140 = .ok (.iconst 0, 1) := by decide +kernel
theorem dL_divides_141 : decode cL_divides 141 = .ok (.iconst 0, 1) := by decide +kernel
theorem dL_divides_142 : decode cL_divides 142 = .ok (.invokestatic 172, 3) := by decide +kernel
theorem dL_divides_145 : decode cL_divides 145 = .ok (.iload_n 3, 1) := by decide +kernel
theorem dL_divides_146 : decode cL_divides 146 = .ok (.if_icmp .ne 66, 3) := by decide +kernel
theorem dL_divides_149 : decode cL_divides 149 = .ok (.aload_n 0, 1) := by decide +kernel
theorem dL_divides_150 : decode cL_divides 150 = .ok (.iconst 5, 1) := by decide +kernel
theorem dL_divides_151 : decode cL_divides 151 = .ok (.iconst 0, 1) := by decide +kernel
theorem dL_divides_152 : decode cL_divides 152 = .ok (.iconst 2, 1) := by decide +kernel
theorem dL_divides_153 : decode cL_divides 153 = .ok (.iconst 0, 1) := by decide +kernel
theorem dL_divides_154 : decode cL_divides 154 = .ok (.invokestatic 172, 3) := by decide +kernel
theorem dL_divides_157 : decode cL_divides 157 = .ok (.ifCond .ne 55, 3) := by decide +kernel
theorem dL_divides_160 : decode cL_divides 160 = .ok (.iload_n 3, 1) := by decide +kernel
theorem dL_divides_161 : decode cL_divides 161 = .ok (.iconst 2, 1) := by decide +kernel
theorem dL_divides_162 : decode cL_divides 162 = .ok (.if_icmp .lt 16, 3) := by decide +kernel
theorem dL_divides_165 : decode cL_divides 165 = .ok (.aload_n 0, 1) := by decide +kernel
theorem dL_divides_166 : decode cL_divides 166 = .ok (.iconst 5, 1) := by decide +kernel
theorem dL_divides_167 : decode cL_divides 167 = .ok (.iconst 2, 1) := by decide +kernel
theorem dL_divides_168 : decode cL_divides 168 = .ok (.iconst 0, 1) := by decide +kernel
theorem dL_divides_169 : decode cL_divides 169 = .ok (.iconst 0, 1) := by decide +kernel
theorem dL_divides_170 : decode cL_divides 170 = .ok (.invokestatic 172, 3) := by decide +kernel
theorem dL_divides_173 : decode cL_divides 173 = .ok (.iload 4, 2) := by decide +kernel
theorem dL_divides_175 : decode cL_divides 175 = .ok (.if_icmp .ne 37, 3) := by decide +kernel
theorem dL_divides_178 : decode cL_divides 178 = .ok (.aload_n 0, 1) := by decide +kernel
theorem dL_divides_179 : decode cL_divides 179 = .ok (.bipush 15, 2) := by decide +kernel
theorem dL_divides_181 : decode cL_divides 181 = .ok (.iconst 0, 1) := by decide +kernel
theorem dL_divides_182 : decode cL_divides 182 = .ok (.iconst 0, 1) := by decide +kernel
theorem dL_divides_183 : decode cL_divides 183 = .ok (.iconst 0, 1) := by decide +kernel
theorem dL_divides_184 : decode cL_divides 184 = .ok (.invokestatic 172, 3) := by decide +kernel
theorem dL_divides_187 : decode cL_divides 187 = .ok (.invokestatic 223, 3) := by decide +kernel
theorem dL_divides_190 : decode cL_divides 190 = .ok (.ifCond .ne 22, 3) := by decide +kernel
theorem dL_divides_193 : decode cL_divides 193 = .ok (.aload_n 1, 1) := by decide +kernel
theorem dL_divides_194 : decode cL_divides 194 = .ok (.bipush 15, 2) := by decide +kernel
theorem dL_divides_196 : decode cL_divides 196 = .ok (.iconst 0, 1) := by decide +kernel
theorem dL_divides_197 : decode cL_divides 197 = .ok (.iconst 0, 1) := by decide +kernel
theorem dL_divides_198 : decode cL_divides 198 = .ok (.iconst 0, 1) := by decide +kernel
theorem dL_divides_199 : decode cL_divides 199 = .ok (.invokestatic 172, 3) := by decide +kernel
theorem dL_divides_202 : decode cL_divides 202 = .ok (.invokestatic 223, 3) := by decide +kernel
theorem dL_divides_205 : decode cL_divides 205 = .ok (.ifCond .ne 7, 3) := by decide +kernel
theorem dL_divides_208 : decode cL_divides 208 = .ok (.iconst 1, 1) := by decide +kernel
theorem dL_divides_209 : decode cL_divides 209 = .ok (.goto 4, 3) := by decide +kernel
theorem dL_divides_212 : decode cL_divides 212 = .ok (.iconst 0, 1) := by decide +kernel
theorem dL_divides_213 : decode cL_divides 213 = .ok (.istore 8, 2) := by decide +kernel
theorem dL_divides_215 : decode cL_divides 215 = .ok (.iload 6, 2) := by decide +kernel
theorem dL_divides_217 : decode cL_divides 217 = .ok (.iconst (-1), 1) := by decide +kernel
theorem dL_divides_218 : decode cL_divides 218 = .ok (.if_icmp .eq 231, 3) := by decide +kernel
theorem dL_divides_221 : decode cL_divides 221 = .ok (.iload 8, 2) := by decide +kernel
theorem dL_divides_223 : decode cL_divides 223 = .ok (.ifCond .eq 226, 3) := by decide +kernel
theorem dL_divides_226 : decode cL_divides 226 = .ok (.iload_n 2, 1) := by decide +kernel
theorem dL_divides_227 : decode cL_divides 227 = .ok (.iload 5, 2) := by decide +kernel
theorem dL_divides_229 : decode cL_divides 229 = .ok (.irem, 1) := by decide +kernel
theorem dL_divides_230 : decode cL_divides 230 = .ok (.istore 9, 2) := by decide +kernel
theorem dL_divides_232 : decode cL_divides 232 = .ok (.aload_n 0, 1) := by decide +kernel
theorem dL_divides_233 : decode cL_divides 233 = .ok (.bipush 9, 2) := by decide +kernel
theorem dL_divides_235 : decode cL_divides 235 = .ok (.iload 6, 2) := by decide +kernel
theorem dL_divides_237 : decode cL_divides 237 = .ok (.iconst 0, 1) := by decide +kernel
theorem dL_divides_238 : decode cL_divides 238 = .ok (.iconst 0, 1) := by decide +kernel
theorem dL_divides_239 : decode cL_divides 239 = .ok (.invokestatic 172, 3) := by decide +kernel
theorem dL_divides_242 : decode cL_divides 242 = .ok (.iload 7, 2) := by decide +kernel
theorem dL_divides_244 : decode cL_divides 244 = .ok (.if_icmp .ne 22, 3) := by decide +kernel
theorem dL_divides_247 : decode cL_divides 247 = .ok (.aload_n 1, 1) := by decide +kernel
theorem dL_divides_248 : decode cL_divides 248 = .ok (.bipush 9, 2) := by decide +kernel
theorem dL_divides_250 : decode cL_divides 250 = .ok (.iload 6, 2) := by decide +kernel
theorem dL_divides_252 : decode cL_divides 252 = .ok (.iconst 0, 1) := by decide +kernel
theorem dL_divides_253 : decode cL_divides 253 = .ok (.iconst 0, 1) := by decide +kernel
theorem dL_divides_254 : decode cL_divides 254 = .ok (.invokestatic 172, 3) := by decide +kernel
theorem dL_divides_257 : decode cL_divides 257 = .ok (.iload 7, 2) := by decide +kernel
theorem dL_divides_259 : decode cL_divides 259 = .ok (.if_icmp .ne 7, 3) := by decide +kernel
theorem dL_divides_262 : decode cL_divides 262 = .ok (.iconst 1, 1) := by decide +kernel
theorem dL_divides_263 : decode cL_divides 263 = .ok (.goto 4, 3) := by decide +kernel
theorem dL_divides_266 : decode cL_divides 266 = .ok (.iconst 0, 1) := by decide +kernel
theorem dL_divides_267 : decode cL_divides 267 = .ok (.istore 8, 2) := by decide +kernel
theorem dL_divides_269 : decode cL_divides 269 = .ok (.aload_n 0, 1) := by decide +kernel
theorem dL_divides_270 : decode cL_divides 270 = .ok (.bipush 16, 2) := by decide +kernel
theorem dL_divides_272 : decode cL_divides 272 = .ok (.iconst 0, 1) := by decide +kernel
theorem dL_divides_273 : decode cL_divides 273 = .ok (.iconst 0, 1) := by decide +kernel
theorem dL_divides_274 : decode cL_divides 274 = .ok (.iconst 0, 1) := by decide +kernel
theorem dL_divides_275 : decode cL_divides 275 = .ok (.invokestatic 172, 3) := by decide +kernel
theorem dL_divides_278 : decode cL_divides 278 = .ok (.istore 10, 2) := by decide +kernel
theorem dL_divides_280 : decode cL_divides 280 = .ok (.iload 8, 2) := by decide +kernel
theorem dL_divides_282 : decode cL_divides 282 = .ok (.ifCond .eq 54, 3) := by decide +kernel
theorem dL_divides_285 : decode cL_divides 285 = .ok (.iload 10, 2) := by decide +kernel
theorem dL_divides_287 : decode cL_divides 287 = .ok (.iconst (-1), 1) := by decide +kernel
theorem dL_divides_288 : decode cL_divides 288 = .ok (.if_icmp .eq 48, 3) := by decide +kernel
theorem dL_divides_291 : decode cL_divides 291 = .ok (.iload_n 3, 1) := by decide +kernel
theorem dL_divides_292 : decode cL_divides 292 = .ok (.iconst (-1), 1) := by decide +kernel
theorem dL_divides_293 : decode cL_divides 293 = .ok (.if_icmp .eq 9, 3) := by decide +kernel
theorem dL_divides_296 : decode cL_divides 296 = .ok (.iload 10, 2) := by decide +kernel
theorem dL_divides_298 : decode cL_divides 298 = .ok (.iload_n 3, 1) := by decide +kernel
theorem dL_divides_299 : decode cL_divides 299 = .ok (.if_icmp .gt 37, 3) := by decide +kernel
theorem dL_divides_302 : decode cL_divides 302 = .ok (.aload_n 0, 1) := by decide +kernel
theorem dL_divides_303 : decode cL_divides 303 = .ok (.bipush 9, 2) := by decide +kernel
theorem dL_divides_305 : decode cL_divides 305 = .ok (.iload 9, 2) := by decide +kernel
theorem dL_divides_307 : decode cL_divides 307 = .ok (.iconst 0, 1) := by decide +kernel
theorem dL_divides_308 : decode cL_divides 308 = .ok (.iconst 0, 1) := by decide +kernel
theorem dL_divides_309 : decode cL_divides 309 = .ok (.invokestatic 172, 3) := by decide +kernel
theorem dL_divides_312 : decode cL_divides 312 = .ok (.iload 6, 2) := by decide +kernel
theorem dL_divides_314 : decode cL_divides 314 = .ok (.if_icmp .ne 22, 3) := by decide +kernel
theorem dL_divides_317 : decode cL_divides 317 = .ok (.aload_n 1, 1) := by decide +kernel
theorem dL_divides_318 : decode cL_divides 318 = .ok (.bipush 9, 2) := by decide +kernel
theorem dL_divides_320 : decode cL_divides 320 = .ok (.iload 9, 2) := by decide +kernel
theorem dL_divides_322 : decode cL_divides 322 = .ok (.iconst 0, 1) := by decide +kernel
theorem dL_divides_323 : decode cL_divides 323 = .ok (.iconst 0, 1) := by decide +kernel
theorem dL_divides_324 : decode cL_divides 324 = .ok (.invokestatic 172, 3) := by decide +kernel
theorem dL_divides_327 : decode cL_divides 327 = .ok (.iload 6, 2) := by decide +kernel
theorem dL_divides_329 : decode cL_divides 329 = .ok (.if_icmp .ne 7, 3) := by decide +kernel
theorem dL_divides_332 : decode cL_divides 332 = .ok (.iconst 1, 1) := by decide +kernel
theorem dL_divides_333 : decode cL_divides 333 = .ok (.goto 4, 3) := by decide +kernel
theorem dL_divides_336 : decode cL_divides 336 = .ok (.iconst 0, 1) := by decide +kernel
theorem dL_divides_337 : decode cL_divides 337 = .ok (.istore 8, 2) := by decide +kernel
theorem dL_divides_339 : decode cL_divides 339 = .ok (.aload_n 0, 1) := by decide +kernel
theorem dL_divides_340 : decode cL_divides 340 = .ok (.bipush 16, 2) := by decide +kernel
theorem dL_divides_342 : decode cL_divides 342 = .ok (.iconst 1, 1) := by decide +kernel
theorem dL_divides_343 : decode cL_divides 343 = .ok (.iconst 0, 1) := by decide +kernel
theorem dL_divides_344 : decode cL_divides 344 = .ok (.iconst 0, 1) := by decide +kernel
theorem dL_divides_345 : decode cL_divides 345 = .ok (.invokestatic 172, 3) := by decide +kernel
theorem dL_divides_348 : decode cL_divides 348 = .ok (.istore 11, 2) := by decide +kernel
theorem dL_divides_350 : decode cL_divides 350 = .ok (.iload 8, 2) := by decide +kernel
theorem dL_divides_352 : decode cL_divides 352 = .ok (.ifCond .eq 94, 3) := by decide +kernel
theorem dL_divides_355 : decode cL_divides 355 = .ok (.iload 11, 2) := by decide +kernel
theorem dL_divides_357 : decode cL_divides 357 = .ok (.iconst (-1), 1) := by decide +kernel
theorem dL_divides_358 : decode cL_divides 358 = .ok (.if_icmp .eq 24, 3) := by decide +kernel
theorem dL_divides_361 : decode cL_divides 361 = .ok (.iload 11, 2) := by decide +kernel
theorem dL_divides_363 : decode cL_divides 363 = .ok (.iload 10, 2) := by decide +kernel
theorem dL_divides_365 : decode cL_divides 365 = .ok (.if_icmp .gt 17, 3) := by decide +kernel
theorem dL_divides_368 : decode cL_divides 368 = .ok (.iload 11, 2) := by decide +kernel
theorem dL_divides_370 : decode cL_divides 370 = .ok (.iload 10, 2) := by decide +kernel
theorem dL_divides_372 : decode cL_divides 372 = .ok (.if_icmp .ne 74, 3) := by decide +kernel
theorem dL_divides_375 : decode cL_divides 375 = .ok (.iload 9, 2) := by decide +kernel
theorem dL_divides_377 : decode cL_divides 377 = .ok (.iload 6, 2) := by decide +kernel
theorem dL_divides_379 : decode cL_divides 379 = .ok (.if_icmp .lt 67, 3) := by decide +kernel
theorem dL_divides_382 : decode cL_divides 382 = .ok (.aload_n 0, 1) := by decide +kernel
theorem dL_divides_383 : decode cL_divides 383 = .ok (.bipush 15, 2) := by decide +kernel
theorem dL_divides_385 : decode cL_divides 385 = .ok (.iconst 0, 1) := by decide +kernel
theorem dL_divides_386 : decode cL_divides 386 = .ok (.iconst 0, 1) := by decide +kernel
theorem dL_divides_387 : decode cL_divides 387 = .ok (.iconst 0, 1) := by decide +kernel
theorem dL_divides_388 : decode cL_divides 388 = .ok (.invokestatic 172, 3) := by decide +kernel
theorem dL_divides_391 : decode cL_divides 391 = .ok (.invokestatic 223, 3) := by decide +kernel
theorem dL_divides_394 : decode cL_divides 394 = .ok (.ifCond .ne 52, 3) := by decide +kernel
theorem dL_divides_397 : decode cL_divides 397 = .ok (.aload_n 1, 1) := by decide +kernel
theorem dL_divides_398 : decode cL_divides 398 = .ok (.bipush 15, 2) := by decide +kernel
theorem dL_divides_400 : decode cL_divides 400 = .ok (.iconst 0, 1) := by decide +kernel
theorem dL_divides_401 : decode cL_divides 401 = .ok (.iconst 0, 1) := by decide +kernel
theorem dL_divides_402 : decode cL_divides 402 = .ok (.iconst 0, 1) := by decide +kernel
theorem dL_divides_403 : decode cL_divides 403 = .ok (.invokestatic 172, 3) := by decide +kernel
theorem dL_divides_406 : decode cL_divides 406 = .ok (.invokestatic 223, 3) := by decide +kernel
theorem dL_divides_409 : decode cL_divides 409 = .ok (.ifCond .ne 37, 3) := by decide +kernel
theorem dL_divides_412 : decode cL_divides 412 = .ok (.aload_n 0, 1) := by decide +kernel
theorem dL_divides_413 : decode cL_divides 413 = .ok (.bipush 15, 2) := by decide +kernel
theorem dL_divides_415 : decode cL_divides 415 = .ok (.iconst 0, 1) := by decide +kernel
theorem dL_divides_416 : decode cL_divides 416 = .ok (.iconst 0, 1) := by decide +kernel
theorem dL_divides_417 : decode cL_divides 417 = .ok (.iconst 0, 1) := by decide +kernel
theorem dL_divides_418 : decode cL_divides 418 = .ok (.invokestatic 172, 3) := by decide +kernel
theorem dL_divides_421 : decode cL_divides 421 = .ok (.invokestatic 223, 3) := by decide +kernel
theorem dL_divides_424 : decode cL_divides 424 = .ok (.ifCond .ne 22, 3) := by decide +kernel
theorem dL_divides_427 : decode cL_divides 427 = .ok (.aload_n 1, 1) := by decide +kernel
theorem dL_divides_428 : decode cL_divides 428 = .ok (.bipush 15, 2) := by decide +kernel
theorem dL_divides_430 : decode cL_divides 430 = .ok (.iconst 0, 1) := by decide +kernel
theorem dL_divides_431 : decode cL_divides 431 = .ok (.iconst 0, 1) := by decide +kernel
theorem dL_divides_432 : decode cL_divides 432 = .ok (.iconst 0, 1) := by decide +kernel
theorem dL_divides_433 : decode cL_divides 433 = .ok (.invokestatic 172, 3) := by decide +kernel
theorem dL_divides_436 : decode cL_divides 436 = .ok (.invokestatic 223, 3) := by decide +kernel
theorem dL_divides_439 : decode cL_divides 439 = .ok (.ifCond .ne 7, 3) := by decide +kernel
theorem dL_divides_442 : decode cL_divides 442 = .ok (.iconst 1, 1) := by decide +kernel
theorem dL_divides_443 : decode cL_divides 443 = .ok (.goto 4, 3) := by decide +kernel
theorem dL_divides_446 : decode cL_divides 446 = .ok (.iconst 0, 1) := by decide +kernel
theorem dL_divides_447 : decode cL_divides 447 = .ok (.istore 8, 2) := by decide +kernel
theorem dL_divides_449 : decode cL_divides 449 = .ok (.iload 8, 2) := by decide +kernel
theorem dL_divides_451 : decode cL_divides 451 = .ok (.ifCond .eq 33, 3) := by decide +kernel
theorem dL_divides_454 : decode cL_divides 454 = .ok (.aload_n 0, 1) := by decide +kernel
theorem dL_divides_455 : decode cL_divides 455 = .ok (.iconst 2, 1) := by decide +kernel
theorem dL_divides_456 : decode cL_divides 456 = .ok (.iconst 1, 1) := by decide +kernel
theorem dL_divides_457 : decode cL_divides 457 = .ok (.iconst 0, 1) := by decide +kernel
theorem dL_divides_458 : decode cL_divides 458 = .ok (.iconst 0, 1) := by decide +kernel
theorem dL_divides_459 : decode cL_divides 459 = .ok (.invokestatic 172, 3) := by decide +kernel
theorem dL_divides_462 : decode cL_divides 462 = .ok (.iload 7, 2) := by decide +kernel
theorem dL_divides_464 : decode cL_divides 464 = .ok (.if_icmp .ne 20, 3) := by decide +kernel
theorem dL_divides_467 : decode cL_divides 467 = .ok (.aload_n 0, 1) := by decide +kernel
theorem dL_divides_468 : decode cL_divides 468 = .ok (.bipush 16, 2) := by decide +kernel
theorem dL_divides_470 : decode cL_divides 470 = .ok (.iconst 0, 1) := by decide +kernel
theorem dL_divides_471 : decode cL_divides 471 = .ok (.iconst 0, 1) := by decide +kernel
theorem dL_divides_472 : decode cL_divides 472 = .ok (.iconst 0, 1) := by decide +kernel
theorem dL_divides_473 : decode cL_divides 473 = .ok (.invokestatic 172, 3) := by decide +kernel
theorem dL_divides_476 : decode cL_divides 476 = .ok (.iload_n 3, 1) := by decide +kernel
theorem dL_divides_477 : decode cL_divides 477 = .ok (.if_icmp .ne 7, 3) := by decide +kernel
theorem dL_divides_480 : decode cL_divides 480 = .ok (.iconst 1, 1) := by decide +kernel
theorem dL_divides_481 : decode cL_divides 481 = .ok (.goto 4, 3) := by decide +kernel
theorem dL_divides_484 : decode cL_divides 484 = .ok (.iconst 0, 1) := by decide +kernel
theorem dL_divides_485 : decode cL_divides 485 = .ok (.ireturn, 1) := by decide +kernel
