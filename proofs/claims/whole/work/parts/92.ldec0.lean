-- the law's code, read
theorem d_W_0 : decode code 0 = .ok (.new 8, 3) := by decide +kernel
theorem d_W_3 : decode code 3 = .ok (.dup, 1) := by decide +kernel
theorem d_W_4 : decode code 4 = .ok (.invokespecial 55, 3) := by decide +kernel
theorem d_W_7 : decode code 7 = .ok (.astore_n 1, 1) := by decide +kernel
theorem d_W_8 : decode code 8 = .ok (.new 56, 3) := by decide +kernel
theorem d_W_11 : decode code 11 = .ok (.dup, 1) := by decide +kernel
theorem d_W_12 : decode code 12 = .ok (.invokespecial 58, 3) := by decide +kernel
theorem d_W_15 : decode code 15 = .ok (.astore_n 2, 1) := by decide +kernel
theorem d_W_16 : decode code 16 = .ok (.iconst 1, 1) := by decide +kernel
theorem d_W_17 : decode code 17 = .ok (.newarray .long, 2) := by decide +kernel
theorem d_W_19 : decode code 19 = .ok (.astore_n 3, 1) := by decide +kernel
theorem d_W_20 : decode code 20 = .ok (.iconst 0, 1) := by decide +kernel
theorem d_W_21 : decode code 21 = .ok (.istore 4, 2) := by decide +kernel
theorem d_W_23 : decode code 23 = .ok (.iload 4, 2) := by decide +kernel
theorem d_W_25 : decode code 25 = .ok (.aload_n 0, 1) := by decide +kernel
theorem d_W_26 : decode code 26 = .ok (.arraylength, 1) := by decide +kernel
theorem d_W_27 : decode code 27 = .ok (.iconst 5, 1) := by decide +kernel
theorem d_W_28 : decode code 28 = .ok (.isub, 1) := by decide +kernel
theorem d_W_29 : decode code 29 = .ok (.if_icmp .gt 911, 3) := by decide +kernel
theorem d_W_32 : decode code 32 = .ok (.aload_n 0, 1) := by decide +kernel
theorem d_W_33 : decode code 33 = .ok (.iload 4, 2) := by decide +kernel
theorem d_W_35 : decode code 35 = .ok (.iaload, 1) := by decide +kernel
theorem d_W_36 : decode code 36 = .ok (.bipush 15, 2) := by decide +kernel
theorem d_W_38 : decode code 38 = .ok (.iand, 1) := by decide +kernel
theorem d_W_39 : decode code 39 = .ok ((.tableswitch 895 0 12 #[65, 76, 132, 219, 306, 386, 494, 518, 531, 587, 643, 723, 803]), 65) := by decide +kernel
theorem d_W_104 : decode code 104 = .ok (.aload_n 1, 1) := by decide +kernel
theorem d_W_105 : decode code 105 = .ok (.invokevirtual 59, 3) := by decide +kernel
theorem d_W_108 : decode code 108 = .ok (.aload_n 2, 1) := by decide +kernel
theorem d_W_109 : decode code 109 = .ok (.invokevirtual 62, 3) := by decide +kernel
theorem d_W_112 : decode code 112 = .ok (.goto 822, 3) := by decide +kernel
theorem d_W_115 : decode code 115 = .ok (.aload_n 1, 1) := by decide +kernel
theorem d_W_116 : decode code 116 = .ok (.aload_n 0, 1) := by decide +kernel
theorem d_W_117 : decode code 117 = .ok (.iload 4, 2) := by decide +kernel
theorem d_W_119 : decode code 119 = .ok (.iconst 1, 1) := by decide +kernel
theorem d_W_120 : decode code 120 = .ok (.iadd, 1) := by decide +kernel
theorem d_W_121 : decode code 121 = .ok (.iaload, 1) := by decide +kernel
theorem d_W_122 : decode code 122 = .ok (.aload_n 3, 1) := by decide +kernel
theorem d_W_123 : decode code 123 = .ok (.invokestatic 63, 3) := by decide +kernel
theorem d_W_126 : decode code 126 = .ok (.istore 5, 2) := by decide +kernel
theorem d_W_128 : decode code 128 = .ok (.aload_n 2, 1) := by decide +kernel
theorem d_W_129 : decode code 129 = .ok (.aload_n 0, 1) := by decide +kernel
theorem d_W_130 : decode code 130 = .ok (.iload 4, 2) := by decide +kernel
theorem d_W_132 : decode code 132 = .ok (.iconst 1, 1) := by decide +kernel
theorem d_W_133 : decode code 133 = .ok (.iadd, 1) := by decide +kernel
theorem d_W_134 : decode code 134 = .ok (.iaload, 1) := by decide +kernel
theorem d_W_135 : decode code 135 = .ok (.invokevirtual 68, 3) := by decide +kernel
theorem d_W_138 : decode code 138 = .ok (.istore 6, 2) := by decide +kernel
theorem d_W_140 : decode code 140 = .ok (.aload_n 2, 1) := by decide +kernel
theorem d_W_141 : decode code 141 = .ok (.invokevirtual 69, 3) := by decide +kernel
theorem d_W_144 : decode code 144 = .ok (.iload 5, 2) := by decide +kernel
theorem d_W_146 : decode code 146 = .ok (.if_icmp .eq 5, 3) := by decide +kernel
theorem d_W_149 : decode code 149 = .ok (.iconst 0, 1) := by decide +kernel
theorem d_W_150 : decode code 150 = .ok (.ireturn, 1) := by decide +kernel
theorem d_W_151 : decode code 151 = .ok (.iload 5, 2) := by decide +kernel
theorem d_W_153 : decode code 153 = .ok (.ifCond .ne 15, 3) := by decide +kernel
theorem d_W_156 : decode code 156 = .ok (.aload_n 3, 1) := by decide +kernel
theorem d_W_157 : decode code 157 = .ok (.iconst 0, 1) := by decide +kernel
theorem d_W_158 : decode code 158 = .ok (.laload, 1) := by decide +kernel
theorem d_W_159 : decode code 159 = .ok (.iload 6, 2) := by decide +kernel
theorem d_W_161 : decode code 161 = .ok (.i2l, 1) := by decide +kernel
theorem d_W_162 : decode code 162 = .ok (.lcmp, 1) := by decide +kernel
theorem d_W_163 : decode code 163 = .ok (.ifCond .eq 5, 3) := by decide +kernel
theorem d_W_166 : decode code 166 = .ok (.iconst 0, 1) := by decide +kernel
theorem d_W_167 : decode code 167 = .ok (.ireturn, 1) := by decide +kernel
theorem d_W_168 : decode code 168 = .ok (.goto 766, 3) := by decide +kernel
theorem d_W_171 : decode code 171 = .ok (.aload_n 1, 1) := by decide +kernel
theorem d_W_172 : decode code 172 = .ok (.aload_n 0, 1) := by decide +kernel
theorem d_W_173 : decode code 173 = .ok (.iload 4, 2) := by decide +kernel
theorem d_W_175 : decode code 175 = .ok (.iconst 1, 1) := by decide +kernel
theorem d_W_176 : decode code 176 = .ok (.iadd, 1) := by decide +kernel
theorem d_W_177 : decode code 177 = .ok (.iaload, 1) := by decide +kernel
theorem d_W_178 : decode code 178 = .ok (.aload_n 0, 1) := by decide +kernel
theorem d_W_179 : decode code 179 = .ok (.iload 4, 2) := by decide +kernel
theorem d_W_181 : decode code 181 = .ok (.iconst 2, 1) := by decide +kernel
theorem d_W_182 : decode code 182 = .ok (.iadd, 1) := by decide +kernel
theorem d_W_183 : decode code 183 = .ok (.iaload, 1) := by decide +kernel
theorem d_W_184 : decode code 184 = .ok (.aload_n 0, 1) := by decide +kernel
theorem d_W_185 : decode code 185 = .ok (.iload 4, 2) := by decide +kernel
theorem d_W_187 : decode code 187 = .ok (.iconst 3, 1) := by decide +kernel
theorem d_W_188 : decode code 188 = .ok (.iadd, 1) := by decide +kernel
theorem d_W_189 : decode code 189 = .ok (.iaload, 1) := by decide +kernel
theorem d_W_190 : decode code 190 = .ok (.aload_n 3, 1) := by decide +kernel
theorem d_W_191 : decode code 191 = .ok (.invokestatic 73, 3) := by decide +kernel
theorem d_W_194 : decode code 194 = .ok (.istore 5, 2) := by decide +kernel
theorem d_W_196 : decode code 196 = .ok (.aload_n 2, 1) := by decide +kernel
theorem d_W_197 : decode code 197 = .ok (.aload_n 0, 1) := by decide +kernel
theorem d_W_198 : decode code 198 = .ok (.iload 4, 2) := by decide +kernel
theorem d_W_200 : decode code 200 = .ok (.iconst 1, 1) := by decide +kernel
theorem d_W_201 : decode code 201 = .ok (.iadd, 1) := by decide +kernel
theorem d_W_202 : decode code 202 = .ok (.iaload, 1) := by decide +kernel
theorem d_W_203 : decode code 203 = .ok (.aload_n 0, 1) := by decide +kernel
theorem d_W_204 : decode code 204 = .ok (.iload 4, 2) := by decide +kernel
theorem d_W_206 : decode code 206 = .ok (.iconst 2, 1) := by decide +kernel
theorem d_W_207 : decode code 207 = .ok (.iadd, 1) := by decide +kernel
theorem d_W_208 : decode code 208 = .ok (.iaload, 1) := by decide +kernel
theorem d_W_209 : decode code 209 = .ok (.aload_n 0, 1) := by decide +kernel
theorem d_W_210 : decode code 210 = .ok (.iload 4, 2) := by decide +kernel
theorem d_W_212 : decode code 212 = .ok (.iconst 3, 1) := by decide +kernel
theorem d_W_213 : decode code 213 = .ok (.iadd, 1) := by decide +kernel
theorem d_W_214 : decode code 214 = .ok (.iaload, 1) := by decide +kernel
theorem d_W_215 : decode code 215 = .ok (.invokevirtual 76, 3) := by decide +kernel
theorem d_W_218 : decode code 218 = .ok (.istore 6, 2) := by decide +kernel
theorem d_W_220 : decode code 220 = .ok (.aload_n 2, 1) := by decide +kernel
theorem d_W_221 : decode code 221 = .ok (.invokevirtual 69, 3) := by decide +kernel
theorem d_W_224 : decode code 224 = .ok (.iload 5, 2) := by decide +kernel
theorem d_W_226 : decode code 226 = .ok (.if_icmp .eq 5, 3) := by decide +kernel
theorem d_W_229 : decode code 229 = .ok (.iconst 0, 1) := by decide +kernel
theorem d_W_230 : decode code 230 = .ok (.ireturn, 1) := by decide +kernel
theorem d_W_231 : decode code 231 = .ok (.iload 5, 2) := by decide +kernel
theorem d_W_233 : decode code 233 = .ok (.ifCond .ne 22, 3) := by decide +kernel
theorem d_W_236 : decode code 236 = .ok (.aload_n 3, 1) := by decide +kernel
theorem d_W_237 : decode code 237 = .ok (.iconst 0, 1) := by decide +kernel
theorem d_W_238 : decode code 238 = .ok (.laload, 1) := by decide +kernel
theorem d_W_239 : decode code 239 = .ok (.iload 6, 2) := by decide +kernel
theorem d_W_241 : decode code 241 = .ok (.ifCond .eq 7, 3) := by decide +kernel
theorem d_W_244 : decode code 244 = .ok (.lconst 1, 1) := by decide +kernel
theorem d_W_245 : decode code 245 = .ok (.goto 4, 3) := by decide +kernel
theorem d_W_248 : decode code 248 = .ok (.lconst 0, 1) := by decide +kernel
theorem d_W_249 : decode code 249 = .ok (.lcmp, 1) := by decide +kernel
theorem d_W_250 : decode code 250 = .ok (.ifCond .eq 5, 3) := by decide +kernel
theorem d_W_253 : decode code 253 = .ok (.iconst 0, 1) := by decide +kernel
theorem d_W_254 : decode code 254 = .ok (.ireturn, 1) := by decide +kernel
theorem d_W_255 : decode code 255 = .ok (.goto 679, 3) := by decide +kernel
theorem d_W_258 : decode code 258 = .ok (.aload_n 1, 1) := by decide +kernel
theorem d_W_259 : decode code 259 = .ok (.aload_n 0, 1) := by decide +kernel
theorem d_W_260 : decode code 260 = .ok (.iload 4, 2) := by decide +kernel
theorem d_W_262 : decode code 262 = .ok (.iconst 1, 1) := by decide +kernel
theorem d_W_263 : decode code 263 = .ok (.iadd, 1) := by decide +kernel
theorem d_W_264 : decode code 264 = .ok (.iaload, 1) := by decide +kernel
theorem d_W_265 : decode code 265 = .ok (.aload_n 0, 1) := by decide +kernel
theorem d_W_266 : decode code 266 = .ok (.iload 4, 2) := by decide +kernel
theorem d_W_268 : decode code 268 = .ok (.iconst 2, 1) := by decide +kernel
theorem d_W_269 : decode code 269 = .ok (.iadd, 1) := by decide +kernel
theorem d_W_270 : decode code 270 = .ok (.iaload, 1) := by decide +kernel
theorem d_W_271 : decode code 271 = .ok (.aload_n 0, 1) := by decide +kernel
theorem d_W_272 : decode code 272 = .ok (.iload 4, 2) := by decide +kernel
theorem d_W_274 : decode code 274 = .ok (.iconst 3, 1) := by decide +kernel
theorem d_W_275 : decode code 275 = .ok (.iadd, 1) := by decide +kernel
theorem d_W_276 : decode code 276 = .ok (.iaload, 1) := by decide +kernel
theorem d_W_277 : decode code 277 = .ok (.aload_n 3, 1) := by decide +kernel
theorem d_W_278 : decode code 278 = .ok (.invokestatic 77, 3) := by decide +kernel
theorem d_W_281 : decode code 281 = .ok (.istore 5, 2) := by decide +kernel
theorem d_W_283 : decode code 283 = .ok (.aload_n 2, 1) := by decide +kernel
theorem d_W_284 : decode code 284 = .ok (.aload_n 0, 1) := by decide +kernel
theorem d_W_285 : decode code 285 = .ok (.iload 4, 2) := by decide +kernel
theorem d_W_287 : decode code 287 = .ok (.iconst 1, 1) := by decide +kernel
theorem d_W_288 : decode code 288 = .ok (.iadd, 1) := by decide +kernel
theorem d_W_289 : decode code 289 = .ok (.iaload, 1) := by decide +kernel
theorem d_W_290 : decode code 290 = .ok (.aload_n 0, 1) := by decide +kernel
theorem d_W_291 : decode code 291 = .ok (.iload 4, 2) := by decide +kernel
theorem d_W_293 : decode code 293 = .ok (.iconst 2, 1) := by decide +kernel
theorem d_W_294 : decode code 294 = .ok (.iadd, 1) := by decide +kernel
theorem d_W_295 : decode code 295 = .ok (.iaload, 1) := by decide +kernel
theorem d_W_296 : decode code 296 = .ok (.aload_n 0, 1) := by decide +kernel
theorem d_W_297 : decode code 297 = .ok (.iload 4, 2) := by decide +kernel
theorem d_W_299 : decode code 299 = .ok (.iconst 3, 1) := by decide +kernel
theorem d_W_300 : decode code 300 = .ok (.iadd, 1) := by decide +kernel
theorem d_W_301 : decode code 301 = .ok (.iaload, 1) := by decide +kernel
theorem d_W_302 : decode code 302 = .ok (.invokevirtual 79, 3) := by decide +kernel
theorem d_W_305 : decode code 305 = .ok (.istore 6, 2) := by decide +kernel
theorem d_W_307 : decode code 307 = .ok (.aload_n 2, 1) := by decide +kernel
theorem d_W_308 : decode code 308 = .ok (.invokevirtual 69, 3) := by decide +kernel
theorem d_W_311 : decode code 311 = .ok (.iload 5, 2) := by decide +kernel
theorem d_W_313 : decode code 313 = .ok (.if_icmp .eq 5, 3) := by decide +kernel
theorem d_W_316 : decode code 316 = .ok (.iconst 0, 1) := by decide +kernel
theorem d_W_317 : decode code 317 = .ok (.ireturn, 1) := by decide +kernel
theorem d_W_318 : decode code 318 = .ok (.iload 5, 2) := by decide +kernel
theorem d_W_320 : decode code 320 = .ok (.ifCond .ne 22, 3) := by decide +kernel
theorem d_W_323 : decode code 323 = .ok (.aload_n 3, 1) := by decide +kernel
theorem d_W_324 : decode code 324 = .ok (.iconst 0, 1) := by decide +kernel
theorem d_W_325 : decode code 325 = .ok (.laload, 1) := by decide +kernel
theorem d_W_326 : decode code 326 = .ok (.iload 6, 2) := by decide +kernel
theorem d_W_328 : decode code 328 = .ok (.ifCond .eq 7, 3) := by decide +kernel
theorem d_W_331 : decode code 331 = .ok (.lconst 1, 1) := by decide +kernel
theorem d_W_332 : decode code 332 = .ok (.goto 4, 3) := by decide +kernel
theorem d_W_335 : decode code 335 = .ok (.lconst 0, 1) := by decide +kernel
theorem d_W_336 : decode code 336 = .ok (.lcmp, 1) := by decide +kernel
theorem d_W_337 : decode code 337 = .ok (.ifCond .eq 5, 3) := by decide +kernel
theorem d_W_340 : decode code 340 = .ok (.iconst 0, 1) := by decide +kernel
theorem d_W_341 : decode code 341 = .ok (.ireturn, 1) := by decide +kernel
theorem d_W_342 : decode code 342 = .ok (.goto 592, 3) := by decide +kernel
theorem d_W_345 : decode code 345 = .ok (.aload_n 1, 1) := by decide +kernel
theorem d_W_346 : decode code 346 = .ok (.aload_n 0, 1) := by decide +kernel
theorem d_W_347 : decode code 347 = .ok (.iload 4, 2) := by decide +kernel
theorem d_W_349 : decode code 349 = .ok (.iconst 1, 1) := by decide +kernel
theorem d_W_350 : decode code 350 = .ok (.iadd, 1) := by decide +kernel
theorem d_W_351 : decode code 351 = .ok (.iaload, 1) := by decide +kernel
theorem d_W_352 : decode code 352 = .ok (.aload_n 0, 1) := by decide +kernel
theorem d_W_353 : decode code 353 = .ok (.iload 4, 2) := by decide +kernel
theorem d_W_355 : decode code 355 = .ok (.iconst 2, 1) := by decide +kernel
theorem d_W_356 : decode code 356 = .ok (.iadd, 1) := by decide +kernel
theorem d_W_357 : decode code 357 = .ok (.iaload, 1) := by decide +kernel
theorem d_W_358 : decode code 358 = .ok (.aload_n 0, 1) := by decide +kernel
