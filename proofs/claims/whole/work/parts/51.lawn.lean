/-! Names of the law; printed by program. -/
abbrev cXL_law : ByteArray := code
theorem dXL_law_0 : decode cXL_law 0 = .ok (.new 7, 3) := by decide +kernel
theorem dXL_law_3 : decode cXL_law 3 = .ok (.dup, 1) := by decide +kernel
theorem dXL_law_4 : decode cXL_law 4 = .ok (.invokespecial 9, 3) := by decide +kernel
theorem dXL_law_7 : decode cXL_law 7 = .ok (.astore_n 1, 1) := by decide +kernel
theorem dXL_law_8 : decode cXL_law 8 = .ok (.new 10, 3) := by decide +kernel
theorem dXL_law_11 : decode cXL_law 11 = .ok (.dup, 1) := by decide +kernel
theorem dXL_law_12 : decode cXL_law 12 = .ok (.invokespecial 12, 3) := by decide +kernel
theorem dXL_law_15 : decode cXL_law 15 = .ok (.astore_n 2, 1) := by decide +kernel
theorem dXL_law_16 : decode cXL_law 16 = .ok (.iconst 0, 1) := by decide +kernel
theorem dXL_law_17 : decode cXL_law 17 = .ok (.istore_n 3, 1) := by decide +kernel
theorem dXL_law_18 : decode cXL_law 18 = .ok (.iload_n 3, 1) := by decide +kernel
theorem dXL_law_19 : decode cXL_law 19 = .ok (.aload_n 0, 1) := by decide +kernel
theorem dXL_law_20 : decode cXL_law 20 = .ok (.arraylength, 1) := by decide +kernel
theorem dXL_law_21 : decode cXL_law 21 = .ok (.iconst 5, 1) := by decide +kernel
theorem dXL_law_22 : decode cXL_law 22 = .ok (.isub, 1) := by decide +kernel
theorem dXL_law_23 : decode cXL_law 23 = .ok (.if_icmp .gt 563, 3) := by decide +kernel
theorem dXL_law_26 : decode cXL_law 26 = .ok (.aload_n 0, 1) := by decide +kernel
theorem dXL_law_27 : decode cXL_law 27 = .ok (.iload_n 3, 1) := by decide +kernel
theorem dXL_law_28 : decode cXL_law 28 = .ok (.iaload, 1) := by decide +kernel
theorem dXL_law_29 : decode cXL_law 29 = .ok (.bipush 15, 2) := by decide +kernel
theorem dXL_law_31 : decode cXL_law 31 = .ok (.iand, 1) := by decide +kernel
theorem dXL_law_32 : decode cXL_law 32 = .ok (.tableswitch 548 0 15 #[80, 133, 156, 179, 222, 265, 278, 311, 354, 367, 410, 433, 456, 489, 502, 525], 80) := by decide +kernel
theorem dXL_law_112 : decode cXL_law 112 = .ok (.aload_n 1, 1) := by decide +kernel
theorem dXL_law_113 : decode cXL_law 113 = .ok (.aload_n 0, 1) := by decide +kernel
theorem dXL_law_114 : decode cXL_law 114 = .ok (.iload_n 3, 1) := by decide +kernel
theorem dXL_law_115 : decode cXL_law 115 = .ok (.iconst 1, 1) := by decide +kernel
theorem dXL_law_116 : decode cXL_law 116 = .ok (.iadd, 1) := by decide +kernel
theorem dXL_law_117 : decode cXL_law 117 = .ok (.iaload, 1) := by decide +kernel
theorem dXL_law_118 : decode cXL_law 118 = .ok (.aload_n 0, 1) := by decide +kernel
theorem dXL_law_119 : decode cXL_law 119 = .ok (.iload_n 3, 1) := by decide +kernel
theorem dXL_law_120 : decode cXL_law 120 = .ok (.iconst 2, 1) := by decide +kernel
theorem dXL_law_121 : decode cXL_law 121 = .ok (.iadd, 1) := by decide +kernel
theorem dXL_law_122 : decode cXL_law 122 = .ok (.iaload, 1) := by decide +kernel
theorem dXL_law_123 : decode cXL_law 123 = .ok (.aload_n 0, 1) := by decide +kernel
theorem dXL_law_124 : decode cXL_law 124 = .ok (.iload_n 3, 1) := by decide +kernel
theorem dXL_law_125 : decode cXL_law 125 = .ok (.iconst 3, 1) := by decide +kernel
theorem dXL_law_126 : decode cXL_law 126 = .ok (.iadd, 1) := by decide +kernel
theorem dXL_law_127 : decode cXL_law 127 = .ok (.iaload, 1) := by decide +kernel
theorem dXL_law_128 : decode cXL_law 128 = .ok (.aload_n 0, 1) := by decide +kernel
theorem dXL_law_129 : decode cXL_law 129 = .ok (.iload_n 3, 1) := by decide +kernel
theorem dXL_law_130 : decode cXL_law 130 = .ok (.iconst 4, 1) := by decide +kernel
theorem dXL_law_131 : decode cXL_law 131 = .ok (.iadd, 1) := by decide +kernel
theorem dXL_law_132 : decode cXL_law 132 = .ok (.iaload, 1) := by decide +kernel
theorem dXL_law_133 : decode cXL_law 133 = .ok (.invokevirtual 13, 3) := by decide +kernel
theorem dXL_law_136 : decode cXL_law 136 = .ok (.aload_n 2, 1) := by decide +kernel
theorem dXL_law_137 : decode cXL_law 137 = .ok (.aload_n 0, 1) := by decide +kernel
theorem dXL_law_138 : decode cXL_law 138 = .ok (.iload_n 3, 1) := by decide +kernel
theorem dXL_law_139 : decode cXL_law 139 = .ok (.iconst 1, 1) := by decide +kernel
theorem dXL_law_140 : decode cXL_law 140 = .ok (.iadd, 1) := by decide +kernel
theorem dXL_law_141 : decode cXL_law 141 = .ok (.iaload, 1) := by decide +kernel
theorem dXL_law_142 : decode cXL_law 142 = .ok (.aload_n 0, 1) := by decide +kernel
theorem dXL_law_143 : decode cXL_law 143 = .ok (.iload_n 3, 1) := by decide +kernel
theorem dXL_law_144 : decode cXL_law 144 = .ok (.iconst 2, 1) := by decide +kernel
theorem dXL_law_145 : decode cXL_law 145 = .ok (.iadd, 1) := by decide +kernel
theorem dXL_law_146 : decode cXL_law 146 = .ok (.iaload, 1) := by decide +kernel
theorem dXL_law_147 : decode cXL_law 147 = .ok (.aload_n 0, 1) := by decide +kernel
theorem dXL_law_148 : decode cXL_law 148 = .ok (.iload_n 3, 1) := by decide +kernel
theorem dXL_law_149 : decode cXL_law 149 = .ok (.iconst 3, 1) := by decide +kernel
theorem dXL_law_150 : decode cXL_law 150 = .ok (.iadd, 1) := by decide +kernel
theorem dXL_law_151 : decode cXL_law 151 = .ok (.iaload, 1) := by decide +kernel
theorem dXL_law_152 : decode cXL_law 152 = .ok (.aload_n 0, 1) := by decide +kernel
theorem dXL_law_153 : decode cXL_law 153 = .ok (.iload_n 3, 1) := by decide +kernel
theorem dXL_law_154 : decode cXL_law 154 = .ok (.iconst 4, 1) := by decide +kernel
theorem dXL_law_155 : decode cXL_law 155 = .ok (.iadd, 1) := by decide +kernel
theorem dXL_law_156 : decode cXL_law 156 = .ok (.iaload, 1) := by decide +kernel
theorem dXL_law_157 : decode cXL_law 157 = .ok (.invokevirtual 17, 3) := by decide +kernel
theorem dXL_law_160 : decode cXL_law 160 = .ok (.if_icmp .eq 420, 3) := by decide +kernel
theorem dXL_law_163 : decode cXL_law 163 = .ok (.iconst 0, 1) := by decide +kernel
theorem dXL_law_164 : decode cXL_law 164 = .ok (.ireturn, 1) := by decide +kernel
theorem dXL_law_165 : decode cXL_law 165 = .ok (.aload_n 1, 1) := by decide +kernel
theorem dXL_law_166 : decode cXL_law 166 = .ok (.aload_n 0, 1) := by decide +kernel
theorem dXL_law_167 : decode cXL_law 167 = .ok (.iload_n 3, 1) := by decide +kernel
theorem dXL_law_168 : decode cXL_law 168 = .ok (.iconst 1, 1) := by decide +kernel
theorem dXL_law_169 : decode cXL_law 169 = .ok (.iadd, 1) := by decide +kernel
theorem dXL_law_170 : decode cXL_law 170 = .ok (.iaload, 1) := by decide +kernel
theorem dXL_law_171 : decode cXL_law 171 = .ok (.invokevirtual 18, 3) := by decide +kernel
theorem dXL_law_174 : decode cXL_law 174 = .ok (.aload_n 2, 1) := by decide +kernel
theorem dXL_law_175 : decode cXL_law 175 = .ok (.aload_n 0, 1) := by decide +kernel
theorem dXL_law_176 : decode cXL_law 176 = .ok (.iload_n 3, 1) := by decide +kernel
theorem dXL_law_177 : decode cXL_law 177 = .ok (.iconst 1, 1) := by decide +kernel
theorem dXL_law_178 : decode cXL_law 178 = .ok (.iadd, 1) := by decide +kernel
theorem dXL_law_179 : decode cXL_law 179 = .ok (.iaload, 1) := by decide +kernel
theorem dXL_law_180 : decode cXL_law 180 = .ok (.invokevirtual 22, 3) := by decide +kernel
theorem dXL_law_183 : decode cXL_law 183 = .ok (.if_icmp .eq 397, 3) := by decide +kernel
theorem dXL_law_186 : decode cXL_law 186 = .ok (.iconst 0, 1) := by decide +kernel
theorem dXL_law_187 : decode cXL_law 187 = .ok (.ireturn, 1) := by decide +kernel
theorem dXL_law_188 : decode cXL_law 188 = .ok (.aload_n 1, 1) := by decide +kernel
theorem dXL_law_189 : decode cXL_law 189 = .ok (.aload_n 0, 1) := by decide +kernel
theorem dXL_law_190 : decode cXL_law 190 = .ok (.iload_n 3, 1) := by decide +kernel
theorem dXL_law_191 : decode cXL_law 191 = .ok (.iconst 1, 1) := by decide +kernel
theorem dXL_law_192 : decode cXL_law 192 = .ok (.iadd, 1) := by decide +kernel
theorem dXL_law_193 : decode cXL_law 193 = .ok (.iaload, 1) := by decide +kernel
theorem dXL_law_194 : decode cXL_law 194 = .ok (.invokevirtual 23, 3) := by decide +kernel
theorem dXL_law_197 : decode cXL_law 197 = .ok (.aload_n 2, 1) := by decide +kernel
theorem dXL_law_198 : decode cXL_law 198 = .ok (.aload_n 0, 1) := by decide +kernel
theorem dXL_law_199 : decode cXL_law 199 = .ok (.iload_n 3, 1) := by decide +kernel
theorem dXL_law_200 : decode cXL_law 200 = .ok (.iconst 1, 1) := by decide +kernel
theorem dXL_law_201 : decode cXL_law 201 = .ok (.iadd, 1) := by decide +kernel
theorem dXL_law_202 : decode cXL_law 202 = .ok (.iaload, 1) := by decide +kernel
theorem dXL_law_203 : decode cXL_law 203 = .ok (.invokevirtual 27, 3) := by decide +kernel
theorem dXL_law_206 : decode cXL_law 206 = .ok (.if_icmp .eq 374, 3) := by decide +kernel
theorem dXL_law_209 : decode cXL_law 209 = .ok (.iconst 0, 1) := by decide +kernel
theorem dXL_law_210 : decode cXL_law 210 = .ok (.ireturn, 1) := by decide +kernel
theorem dXL_law_211 : decode cXL_law 211 = .ok (.aload_n 1, 1) := by decide +kernel
theorem dXL_law_212 : decode cXL_law 212 = .ok (.aload_n 0, 1) := by decide +kernel
theorem dXL_law_213 : decode cXL_law 213 = .ok (.iload_n 3, 1) := by decide +kernel
theorem dXL_law_214 : decode cXL_law 214 = .ok (.iconst 1, 1) := by decide +kernel
theorem dXL_law_215 : decode cXL_law 215 = .ok (.iadd, 1) := by decide +kernel
theorem dXL_law_216 : decode cXL_law 216 = .ok (.iaload, 1) := by decide +kernel
theorem dXL_law_217 : decode cXL_law 217 = .ok (.aload_n 0, 1) := by decide +kernel
theorem dXL_law_218 : decode cXL_law 218 = .ok (.iload_n 3, 1) := by decide +kernel
theorem dXL_law_219 : decode cXL_law 219 = .ok (.iconst 2, 1) := by decide +kernel
theorem dXL_law_220 : decode cXL_law 220 = .ok (.iadd, 1) := by decide +kernel
theorem dXL_law_221 : decode cXL_law 221 = .ok (.iaload, 1) := by decide +kernel
theorem dXL_law_222 : decode cXL_law 222 = .ok (.aload_n 0, 1) := by decide +kernel
theorem dXL_law_223 : decode cXL_law 223 = .ok (.iload_n 3, 1) := by decide +kernel
theorem dXL_law_224 : decode cXL_law 224 = .ok (.iconst 3, 1) := by decide +kernel
theorem dXL_law_225 : decode cXL_law 225 = .ok (.iadd, 1) := by decide +kernel
theorem dXL_law_226 : decode cXL_law 226 = .ok (.iaload, 1) := by decide +kernel
theorem dXL_law_227 : decode cXL_law 227 = .ok (.invokevirtual 28, 3) := by decide +kernel
theorem dXL_law_230 : decode cXL_law 230 = .ok (.aload_n 2, 1) := by decide +kernel
theorem dXL_law_231 : decode cXL_law 231 = .ok (.aload_n 0, 1) := by decide +kernel
theorem dXL_law_232 : decode cXL_law 232 = .ok (.iload_n 3, 1) := by decide +kernel
theorem dXL_law_233 : decode cXL_law 233 = .ok (.iconst 1, 1) := by decide +kernel
theorem dXL_law_234 : decode cXL_law 234 = .ok (.iadd, 1) := by decide +kernel
theorem dXL_law_235 : decode cXL_law 235 = .ok (.iaload, 1) := by decide +kernel
theorem dXL_law_236 : decode cXL_law 236 = .ok (.aload_n 0, 1) := by decide +kernel
theorem dXL_law_237 : decode cXL_law 237 = .ok (.iload_n 3, 1) := by decide +kernel
theorem dXL_law_238 : decode cXL_law 238 = .ok (.iconst 2, 1) := by decide +kernel
theorem dXL_law_239 : decode cXL_law 239 = .ok (.iadd, 1) := by decide +kernel
theorem dXL_law_240 : decode cXL_law 240 = .ok (.iaload, 1) := by decide +kernel
theorem dXL_law_241 : decode cXL_law 241 = .ok (.aload_n 0, 1) := by decide +kernel
theorem dXL_law_242 : decode cXL_law 242 = .ok (.iload_n 3, 1) := by decide +kernel
theorem dXL_law_243 : decode cXL_law 243 = .ok (.iconst 3, 1) := by decide +kernel
theorem dXL_law_244 : decode cXL_law 244 = .ok (.iadd, 1) := by decide +kernel
theorem dXL_law_245 : decode cXL_law 245 = .ok (.iaload, 1) := by decide +kernel
theorem dXL_law_246 : decode cXL_law 246 = .ok (.invokevirtual 32, 3) := by decide +kernel
theorem dXL_law_249 : decode cXL_law 249 = .ok (.if_icmp .eq 331, 3) := by decide +kernel
theorem dXL_law_252 : decode cXL_law 252 = .ok (.iconst 0, 1) := by decide +kernel
theorem dXL_law_253 : decode cXL_law 253 = .ok (.ireturn, 1) := by decide +kernel
theorem dXL_law_254 : decode cXL_law 254 = .ok (.aload_n 1, 1) := by decide +kernel
theorem dXL_law_255 : decode cXL_law 255 = .ok (.aload_n 0, 1) := by decide +kernel
theorem dXL_law_256 : decode cXL_law 256 = .ok (.iload_n 3, 1) := by decide +kernel
theorem dXL_law_257 : decode cXL_law 257 = .ok (.iconst 1, 1) := by decide +kernel
theorem dXL_law_258 : decode cXL_law 258 = .ok (.iadd, 1) := by decide +kernel
theorem dXL_law_259 : decode cXL_law 259 = .ok (.iaload, 1) := by decide +kernel
theorem dXL_law_260 : decode cXL_law 260 = .ok (.aload_n 0, 1) := by decide +kernel
theorem dXL_law_261 : decode cXL_law 261 = .ok (.iload_n 3, 1) := by decide +kernel
theorem dXL_law_262 : decode cXL_law 262 = .ok (.iconst 2, 1) := by decide +kernel
theorem dXL_law_263 : decode cXL_law 263 = .ok (.iadd, 1) := by decide +kernel
theorem dXL_law_264 : decode cXL_law 264 = .ok (.iaload, 1) := by decide +kernel
theorem dXL_law_265 : decode cXL_law 265 = .ok (.aload_n 0, 1) := by decide +kernel
theorem dXL_law_266 : decode cXL_law 266 = .ok (.iload_n 3, 1) := by decide +kernel
theorem dXL_law_267 : decode cXL_law 267 = .ok (.iconst 3, 1) := by decide +kernel
theorem dXL_law_268 : decode cXL_law 268 = .ok (.iadd, 1) := by decide +kernel
theorem dXL_law_269 : decode cXL_law 269 = .ok (.iaload, 1) := by decide +kernel
theorem dXL_law_270 : decode cXL_law 270 = .ok (.invokevirtual 33, 3) := by decide +kernel
theorem dXL_law_273 : decode cXL_law 273 = .ok (.aload_n 2, 1) := by decide +kernel
theorem dXL_law_274 : decode cXL_law 274 = .ok (.aload_n 0, 1) := by decide +kernel
theorem dXL_law_275 : decode cXL_law 275 = .ok (.iload_n 3, 1) := by decide +kernel
theorem dXL_law_276 : decode cXL_law 276 = .ok (.iconst 1, 1) := by decide +kernel
theorem dXL_law_277 : decode cXL_law 277 = .ok (.iadd, 1) := by decide +kernel
theorem dXL_law_278 : decode cXL_law 278 = .ok (.iaload, 1) := by decide +kernel
theorem dXL_law_279 : decode cXL_law 279 = .ok (.aload_n 0, 1) := by decide +kernel
theorem dXL_law_280 : decode cXL_law 280 = .ok (.iload_n 3, 1) := by decide +kernel
theorem dXL_law_281 : decode cXL_law 281 = .ok (.iconst 2, 1) := by decide +kernel
theorem dXL_law_282 : decode cXL_law 282 = .ok (.iadd, 1) := by decide +kernel
theorem dXL_law_283 : decode cXL_law 283 = .ok (.iaload, 1) := by decide +kernel
theorem dXL_law_284 : decode cXL_law 284 = .ok (.aload_n 0, 1) := by decide +kernel
theorem dXL_law_285 : decode cXL_law 285 = .ok (.iload_n 3, 1) := by decide +kernel
theorem dXL_law_286 : decode cXL_law 286 = .ok (.iconst 3, 1) := by decide +kernel
theorem dXL_law_287 : decode cXL_law 287 = .ok (.iadd, 1) := by decide +kernel
theorem dXL_law_288 : decode cXL_law 288 = .ok (.iaload, 1) := by decide +kernel
theorem dXL_law_289 : decode cXL_law 289 = .ok (.invokevirtual 36, 3) := by decide +kernel
theorem dXL_law_292 : decode cXL_law 292 = .ok (.if_icmp .eq 288, 3) := by decide +kernel
theorem dXL_law_295 : decode cXL_law 295 = .ok (.iconst 0, 1) := by decide +kernel
theorem dXL_law_296 : decode cXL_law 296 = .ok (.ireturn, 1) := by decide +kernel
theorem dXL_law_297 : decode cXL_law 297 = .ok (.aload_n 1, 1) := by decide +kernel
theorem dXL_law_298 : decode cXL_law 298 = .ok (.invokevirtual 37, 3) := by decide +kernel
theorem dXL_law_301 : decode cXL_law 301 = .ok (.aload_n 2, 1) := by decide +kernel
theorem dXL_law_302 : decode cXL_law 302 = .ok (.invokevirtual 41, 3) := by decide +kernel
theorem dXL_law_305 : decode cXL_law 305 = .ok (.if_icmp .eq 275, 3) := by decide +kernel
theorem dXL_law_308 : decode cXL_law 308 = .ok (.iconst 0, 1) := by decide +kernel
theorem dXL_law_309 : decode cXL_law 309 = .ok (.ireturn, 1) := by decide +kernel
theorem dXL_law_310 : decode cXL_law 310 = .ok (.aload_n 1, 1) := by decide +kernel
theorem dXL_law_311 : decode cXL_law 311 = .ok (.aload_n 0, 1) := by decide +kernel
theorem dXL_law_312 : decode cXL_law 312 = .ok (.iload_n 3, 1) := by decide +kernel
theorem dXL_law_313 : decode cXL_law 313 = .ok (.iconst 1, 1) := by decide +kernel
theorem dXL_law_314 : decode cXL_law 314 = .ok (.iadd, 1) := by decide +kernel
theorem dXL_law_315 : decode cXL_law 315 = .ok (.iaload, 1) := by decide +kernel
theorem dXL_law_316 : decode cXL_law 316 = .ok (.aload_n 0, 1) := by decide +kernel
theorem dXL_law_317 : decode cXL_law 317 = .ok (.iload_n 3, 1) := by decide +kernel
theorem dXL_law_318 : decode cXL_law 318 = .ok (.iconst 2, 1) := by decide +kernel
theorem dXL_law_319 : decode cXL_law 319 = .ok (.iadd, 1) := by decide +kernel
theorem dXL_law_320 : decode cXL_law 320 = .ok (.iaload, 1) := by decide +kernel
theorem dXL_law_321 : decode cXL_law 321 = .ok (.invokevirtual 42, 3) := by decide +kernel
theorem dXL_law_324 : decode cXL_law 324 = .ok (.aload_n 2, 1) := by decide +kernel
theorem dXL_law_325 : decode cXL_law 325 = .ok (.aload_n 0, 1) := by decide +kernel
theorem dXL_law_326 : decode cXL_law 326 = .ok (.iload_n 3, 1) := by decide +kernel
theorem dXL_law_327 : decode cXL_law 327 = .ok (.iconst 1, 1) := by decide +kernel
theorem dXL_law_328 : decode cXL_law 328 = .ok (.iadd, 1) := by decide +kernel
theorem dXL_law_329 : decode cXL_law 329 = .ok (.iaload, 1) := by decide +kernel
theorem dXL_law_330 : decode cXL_law 330 = .ok (.aload_n 0, 1) := by decide +kernel
theorem dXL_law_331 : decode cXL_law 331 = .ok (.iload_n 3, 1) := by decide +kernel
theorem dXL_law_332 : decode cXL_law 332 = .ok (.iconst 2, 1) := by decide +kernel
theorem dXL_law_333 : decode cXL_law 333 = .ok (.iadd, 1) := by decide +kernel
theorem dXL_law_334 : decode cXL_law 334 = .ok (.iaload, 1) := by decide +kernel
theorem dXL_law_335 : decode cXL_law 335 = .ok (.invokevirtual 46, 3) := by decide +kernel
theorem dXL_law_338 : decode cXL_law 338 = .ok (.if_icmp .eq 242, 3) := by decide +kernel
theorem dXL_law_341 : decode cXL_law 341 = .ok (.iconst 0, 1) := by decide +kernel
theorem dXL_law_342 : decode cXL_law 342 = .ok (.ireturn, 1) := by decide +kernel
theorem dXL_law_343 : decode cXL_law 343 = .ok (.aload_n 1, 1) := by decide +kernel
theorem dXL_law_344 : decode cXL_law 344 = .ok (.aload_n 0, 1) := by decide +kernel
theorem dXL_law_345 : decode cXL_law 345 = .ok (.iload_n 3, 1) := by decide +kernel
theorem dXL_law_346 : decode cXL_law 346 = .ok (.iconst 1, 1) := by decide +kernel
theorem dXL_law_347 : decode cXL_law 347 = .ok (.iadd, 1) := by decide +kernel
theorem dXL_law_348 : decode cXL_law 348 = .ok (.iaload, 1) := by decide +kernel
theorem dXL_law_349 : decode cXL_law 349 = .ok (.aload_n 0, 1) := by decide +kernel
theorem dXL_law_350 : decode cXL_law 350 = .ok (.iload_n 3, 1) := by decide +kernel
theorem dXL_law_351 : decode cXL_law 351 = .ok (.iconst 2, 1) := by decide +kernel
theorem dXL_law_352 : decode cXL_law 352 = .ok (.iadd, 1) := by decide +kernel
theorem dXL_law_353 : decode cXL_law 353 = .ok (.iaload, 1) := by decide +kernel
theorem dXL_law_354 : decode cXL_law 354 = .ok (.aload_n 0, 1) := by decide +kernel
theorem dXL_law_355 : decode cXL_law 355 = .ok (.iload_n 3, 1) := by decide +kernel
theorem dXL_law_356 : decode cXL_law 356 = .ok (.iconst 3, 1) := by decide +kernel
theorem dXL_law_357 : decode cXL_law 357 = .ok (.iadd, 1) := by decide +kernel
theorem dXL_law_358 : decode cXL_law 358 = .ok (.iaload, 1) := by decide +kernel
theorem dXL_law_359 : decode cXL_law 359 = .ok (.invokevirtual 47, 3) := by decide +kernel
theorem dXL_law_362 : decode cXL_law 362 = .ok (.aload_n 2, 1) := by decide +kernel
theorem dXL_law_363 : decode cXL_law 363 = .ok (.aload_n 0, 1) := by decide +kernel
theorem dXL_law_364 : decode cXL_law 364 = .ok (.iload_n 3, 1) := by decide +kernel
theorem dXL_law_365 : decode cXL_law 365 = .ok (.iconst 1, 1) := by decide +kernel
theorem dXL_law_366 : decode cXL_law 366 = .ok (.iadd, 1) := by decide +kernel
theorem dXL_law_367 : decode cXL_law 367 = .ok (.iaload, 1) := by decide +kernel
theorem dXL_law_368 : decode cXL_law 368 = .ok (.aload_n 0, 1) := by decide +kernel
theorem dXL_law_369 : decode cXL_law 369 = .ok (.iload_n 3, 1) := by decide +kernel
theorem dXL_law_370 : decode cXL_law 370 = .ok (.iconst 2, 1) := by decide +kernel
theorem dXL_law_371 : decode cXL_law 371 = .ok (.iadd, 1) := by decide +kernel
theorem dXL_law_372 : decode cXL_law 372 = .ok (.iaload, 1) := by decide +kernel
theorem dXL_law_373 : decode cXL_law 373 = .ok (.aload_n 0, 1) := by decide +kernel
theorem dXL_law_374 : decode cXL_law 374 = .ok (.iload_n 3, 1) := by decide +kernel
theorem dXL_law_375 : decode cXL_law 375 = .ok (.iconst 3, 1) := by decide +kernel
theorem dXL_law_376 : decode cXL_law 376 = .ok (.iadd, 1) := by decide +kernel
theorem dXL_law_377 : decode cXL_law 377 = .ok (.iaload, 1) := by decide +kernel
theorem dXL_law_378 : decode cXL_law 378 = .ok (.invokevirtual 50, 3) := by decide +kernel
theorem dXL_law_381 : decode cXL_law 381 = .ok (.if_icmp .eq 199, 3) := by decide +kernel
theorem dXL_law_384 : decode cXL_law 384 = .ok (.iconst 0, 1) := by decide +kernel
theorem dXL_law_385 : decode cXL_law 385 = .ok (.ireturn, 1) := by decide +kernel
theorem dXL_law_386 : decode cXL_law 386 = .ok (.aload_n 1, 1) := by decide +kernel
theorem dXL_law_387 : decode cXL_law 387 = .ok (.invokevirtual 51, 3) := by decide +kernel
theorem dXL_law_390 : decode cXL_law 390 = .ok (.aload_n 2, 1) := by decide +kernel
theorem dXL_law_391 : decode cXL_law 391 = .ok (.invokevirtual 55, 3) := by decide +kernel
theorem dXL_law_394 : decode cXL_law 394 = .ok (.if_icmp .eq 186, 3) := by decide +kernel
theorem dXL_law_397 : decode cXL_law 397 = .ok (.iconst 0, 1) := by decide +kernel
theorem dXL_law_398 : decode cXL_law 398 = .ok (.ireturn, 1) := by decide +kernel
theorem dXL_law_399 : decode cXL_law 399 = .ok (.aload_n 1, 1) := by decide +kernel
theorem dXL_law_400 : decode cXL_law 400 = .ok (.aload_n 0, 1) := by decide +kernel
theorem dXL_law_401 : decode cXL_law 401 = .ok (.iload_n 3, 1) := by decide +kernel
theorem dXL_law_402 : decode cXL_law 402 = .ok (.iconst 1, 1) := by decide +kernel
theorem dXL_law_403 : decode cXL_law 403 = .ok (.iadd, 1) := by decide +kernel
theorem dXL_law_404 : decode cXL_law 404 = .ok (.iaload, 1) := by decide +kernel
theorem dXL_law_405 : decode cXL_law 405 = .ok (.aload_n 0, 1) := by decide +kernel
theorem dXL_law_406 : decode cXL_law 406 = .ok (.iload_n 3, 1) := by decide +kernel
theorem dXL_law_407 : decode cXL_law 407 = .ok (.iconst 2, 1) := by decide +kernel
theorem dXL_law_408 : decode cXL_law 408 = .ok (.iadd, 1) := by decide +kernel
theorem dXL_law_409 : decode cXL_law 409 = .ok (.iaload, 1) := by decide +kernel
theorem dXL_law_410 : decode cXL_law 410 = .ok (.aload_n 0, 1) := by decide +kernel
theorem dXL_law_411 : decode cXL_law 411 = .ok (.iload_n 3, 1) := by decide +kernel
theorem dXL_law_412 : decode cXL_law 412 = .ok (.iconst 3, 1) := by decide +kernel
theorem dXL_law_413 : decode cXL_law 413 = .ok (.iadd, 1) := by decide +kernel
theorem dXL_law_414 : decode cXL_law 414 = .ok (.iaload, 1) := by decide +kernel
theorem dXL_law_415 : decode cXL_law 415 = .ok (.invokevirtual 56, 3) := by decide +kernel
theorem dXL_law_418 : decode cXL_law 418 = .ok (.aload_n 2, 1) := by decide +kernel
theorem dXL_law_419 : decode cXL_law 419 = .ok (.aload_n 0, 1) := by decide +kernel
theorem dXL_law_420 : decode cXL_law 420 = .ok (.iload_n 3, 1) := by decide +kernel
theorem dXL_law_421 : decode cXL_law 421 = .ok (.iconst 1, 1) := by decide +kernel
theorem dXL_law_422 : decode cXL_law 422 = .ok (.iadd, 1) := by decide +kernel
theorem dXL_law_423 : decode cXL_law 423 = .ok (.iaload, 1) := by decide +kernel
theorem dXL_law_424 : decode cXL_law 424 = .ok (.aload_n 0, 1) := by decide +kernel
theorem dXL_law_425 : decode cXL_law 425 = .ok (.iload_n 3, 1) := by decide +kernel
theorem dXL_law_426 : decode cXL_law 426 = .ok (.iconst 2, 1) := by decide +kernel
theorem dXL_law_427 : decode cXL_law 427 = .ok (.iadd, 1) := by decide +kernel
theorem dXL_law_428 : decode cXL_law 428 = .ok (.iaload, 1) := by decide +kernel
theorem dXL_law_429 : decode cXL_law 429 = .ok (.aload_n 0, 1) := by decide +kernel
theorem dXL_law_430 : decode cXL_law 430 = .ok (.iload_n 3, 1) := by decide +kernel
theorem dXL_law_431 : decode cXL_law 431 = .ok (.iconst 3, 1) := by decide +kernel
theorem dXL_law_432 : decode cXL_law 432 = .ok (.iadd, 1) := by decide +kernel
theorem dXL_law_433 : decode cXL_law 433 = .ok (.iaload, 1) := by decide +kernel
theorem dXL_law_434 : decode cXL_law 434 = .ok (.invokevirtual 59, 3) := by decide +kernel
theorem dXL_law_437 : decode cXL_law 437 = .ok (.if_icmp .eq 143, 3) := by decide +kernel
theorem dXL_law_440 : decode cXL_law 440 = .ok (.iconst 0, 1) := by decide +kernel
theorem dXL_law_441 : decode cXL_law 441 = .ok (.ireturn, 1) := by decide +kernel
theorem dXL_law_442 : decode cXL_law 442 = .ok (.aload_n 1, 1) := by decide +kernel
theorem dXL_law_443 : decode cXL_law 443 = .ok (.aload_n 0, 1) := by decide +kernel
theorem dXL_law_444 : decode cXL_law 444 = .ok (.iload_n 3, 1) := by decide +kernel
theorem dXL_law_445 : decode cXL_law 445 = .ok (.iconst 1, 1) := by decide +kernel
theorem dXL_law_446 : decode cXL_law 446 = .ok (.iadd, 1) := by decide +kernel
theorem dXL_law_447 : decode cXL_law 447 = .ok (.iaload, 1) := by decide +kernel
theorem dXL_law_448 : decode cXL_law 448 = .ok (.invokevirtual 60, 3) := by decide +kernel
theorem dXL_law_451 : decode cXL_law 451 = .ok (.aload_n 2, 1) := by decide +kernel
theorem dXL_law_452 : decode cXL_law 452 = .ok (.aload_n 0, 1) := by decide +kernel
theorem dXL_law_453 : decode cXL_law 453 = .ok (.iload_n 3, 1) := by decide +kernel
theorem dXL_law_454 : decode cXL_law 454 = .ok (.iconst 1, 1) := by decide +kernel
theorem dXL_law_455 : decode cXL_law 455 = .ok (.iadd, 1) := by decide +kernel
theorem dXL_law_456 : decode cXL_law 456 = .ok (.iaload, 1) := by decide +kernel
theorem dXL_law_457 : decode cXL_law 457 = .ok (.invokevirtual 63, 3) := by decide +kernel
theorem dXL_law_460 : decode cXL_law 460 = .ok (.if_icmp .eq 120, 3) := by decide +kernel
theorem dXL_law_463 : decode cXL_law 463 = .ok (.iconst 0, 1) := by decide +kernel
theorem dXL_law_464 : decode cXL_law 464 = .ok (.ireturn, 1) := by decide +kernel
theorem dXL_law_465 : decode cXL_law 465 = .ok (.aload_n 1, 1) := by decide +kernel
theorem dXL_law_466 : decode cXL_law 466 = .ok (.aload_n 0, 1) := by decide +kernel
theorem dXL_law_467 : decode cXL_law 467 = .ok (.iload_n 3, 1) := by decide +kernel
theorem dXL_law_468 : decode cXL_law 468 = .ok (.iconst 1, 1) := by decide +kernel
theorem dXL_law_469 : decode cXL_law 469 = .ok (.iadd, 1) := by decide +kernel
theorem dXL_law_470 : decode cXL_law 470 = .ok (.iaload, 1) := by decide +kernel
theorem dXL_law_471 : decode cXL_law 471 = .ok (.invokevirtual 64, 3) := by decide +kernel
theorem dXL_law_474 : decode cXL_law 474 = .ok (.aload_n 2, 1) := by decide +kernel
theorem dXL_law_475 : decode cXL_law 475 = .ok (.aload_n 0, 1) := by decide +kernel
theorem dXL_law_476 : decode cXL_law 476 = .ok (.iload_n 3, 1) := by decide +kernel
theorem dXL_law_477 : decode cXL_law 477 = .ok (.iconst 1, 1) := by decide +kernel
theorem dXL_law_478 : decode cXL_law 478 = .ok (.iadd, 1) := by decide +kernel
theorem dXL_law_479 : decode cXL_law 479 = .ok (.iaload, 1) := by decide +kernel
theorem dXL_law_480 : decode cXL_law 480 = .ok (.invokevirtual 67, 3) := by decide +kernel
theorem dXL_law_483 : decode cXL_law 483 = .ok (.if_icmp .eq 97, 3) := by decide +kernel
theorem dXL_law_486 : decode cXL_law 486 = .ok (.iconst 0, 1) := by decide +kernel
theorem dXL_law_487 : decode cXL_law 487 = .ok (.ireturn, 1) := by decide +kernel
theorem dXL_law_488 : decode cXL_law 488 = .ok (.aload_n 1, 1) := by decide +kernel
theorem dXL_law_489 : decode cXL_law 489 = .ok (.aload_n 0, 1) := by decide +kernel
theorem dXL_law_490 : decode cXL_law 490 = .ok (.iload_n 3, 1) := by decide +kernel
theorem dXL_law_491 : decode cXL_law 491 = .ok (.iconst 1, 1) := by decide +kernel
theorem dXL_law_492 : decode cXL_law 492 = .ok (.iadd, 1) := by decide +kernel
theorem dXL_law_493 : decode cXL_law 493 = .ok (.iaload, 1) := by decide +kernel
theorem dXL_law_494 : decode cXL_law 494 = .ok (.aload_n 0, 1) := by decide +kernel
theorem dXL_law_495 : decode cXL_law 495 = .ok (.iload_n 3, 1) := by decide +kernel
theorem dXL_law_496 : decode cXL_law 496 = .ok (.iconst 2, 1) := by decide +kernel
theorem dXL_law_497 : decode cXL_law 497 = .ok (.iadd, 1) := by decide +kernel
theorem dXL_law_498 : decode cXL_law 498 = .ok (.iaload, 1) := by decide +kernel
theorem dXL_law_499 : decode cXL_law 499 = .ok (.invokevirtual 68, 3) := by decide +kernel
theorem dXL_law_502 : decode cXL_law 502 = .ok (.aload_n 2, 1) := by decide +kernel
theorem dXL_law_503 : decode cXL_law 503 = .ok (.aload_n 0, 1) := by decide +kernel
theorem dXL_law_504 : decode cXL_law 504 = .ok (.iload_n 3, 1) := by decide +kernel
theorem dXL_law_505 : decode cXL_law 505 = .ok (.iconst 1, 1) := by decide +kernel
theorem dXL_law_506 : decode cXL_law 506 = .ok (.iadd, 1) := by decide +kernel
theorem dXL_law_507 : decode cXL_law 507 = .ok (.iaload, 1) := by decide +kernel
theorem dXL_law_508 : decode cXL_law 508 = .ok (.aload_n 0, 1) := by decide +kernel
theorem dXL_law_509 : decode cXL_law 509 = .ok (.iload_n 3, 1) := by decide +kernel
theorem dXL_law_510 : decode cXL_law 510 = .ok (.iconst 2, 1) := by decide +kernel
theorem dXL_law_511 : decode cXL_law 511 = .ok (.iadd, 1) := by decide +kernel
theorem dXL_law_512 : decode cXL_law 512 = .ok (.iaload, 1) := by decide +kernel
theorem dXL_law_513 : decode cXL_law 513 = .ok (.invokevirtual 72, 3) := by decide +kernel
theorem dXL_law_516 : decode cXL_law 516 = .ok (.if_icmp .eq 64, 3) := by decide +kernel
theorem dXL_law_519 : decode cXL_law 519 = .ok (.iconst 0, 1) := by decide +kernel
theorem dXL_law_520 : decode cXL_law 520 = .ok (.ireturn, 1) := by decide +kernel
theorem dXL_law_521 : decode cXL_law 521 = .ok (.aload_n 1, 1) := by decide +kernel
theorem dXL_law_522 : decode cXL_law 522 = .ok (.invokevirtual 73, 3) := by decide +kernel
theorem dXL_law_525 : decode cXL_law 525 = .ok (.aload_n 2, 1) := by decide +kernel
theorem dXL_law_526 : decode cXL_law 526 = .ok (.invokevirtual 76, 3) := by decide +kernel
theorem dXL_law_529 : decode cXL_law 529 = .ok (.if_icmp .eq 51, 3) := by decide +kernel
theorem dXL_law_532 : decode cXL_law 532 = .ok (.iconst 0, 1) := by decide +kernel
theorem dXL_law_533 : decode cXL_law 533 = .ok (.ireturn, 1) := by decide +kernel
theorem dXL_law_534 : decode cXL_law 534 = .ok (.aload_n 1, 1) := by decide +kernel
theorem dXL_law_535 : decode cXL_law 535 = .ok (.aload_n 0, 1) := by decide +kernel
theorem dXL_law_536 : decode cXL_law 536 = .ok (.iload_n 3, 1) := by decide +kernel
theorem dXL_law_537 : decode cXL_law 537 = .ok (.iconst 1, 1) := by decide +kernel
theorem dXL_law_538 : decode cXL_law 538 = .ok (.iadd, 1) := by decide +kernel
theorem dXL_law_539 : decode cXL_law 539 = .ok (.iaload, 1) := by decide +kernel
theorem dXL_law_540 : decode cXL_law 540 = .ok (.invokevirtual 77, 3) := by decide +kernel
theorem dXL_law_543 : decode cXL_law 543 = .ok (.aload_n 2, 1) := by decide +kernel
theorem dXL_law_544 : decode cXL_law 544 = .ok (.aload_n 0, 1) := by decide +kernel
theorem dXL_law_545 : decode cXL_law 545 = .ok (.iload_n 3, 1) := by decide +kernel
theorem dXL_law_546 : decode cXL_law 546 = .ok (.iconst 1, 1) := by decide +kernel
theorem dXL_law_547 : decode cXL_law 547 = .ok (.iadd, 1) := by decide +kernel
theorem dXL_law_548 : decode cXL_law 548 = .ok (.iaload, 1) := by decide +kernel
theorem dXL_law_549 : decode cXL_law 549 = .ok (.invokevirtual 80, 3) := by decide +kernel
theorem dXL_law_552 : decode cXL_law 552 = .ok (.if_icmp .eq 28, 3) := by decide +kernel
theorem dXL_law_555 : decode cXL_law 555 = .ok (.iconst 0, 1) := by decide +kernel
theorem dXL_law_556 : decode cXL_law 556 = .ok (.ireturn, 1) := by decide +kernel
theorem dXL_law_557 : decode cXL_law 557 = .ok (.aload_n 1, 1) := by decide +kernel
theorem dXL_law_558 : decode cXL_law 558 = .ok (.aload_n 0, 1) := by decide +kernel
theorem dXL_law_559 : decode cXL_law 559 = .ok (.iload_n 3, 1) := by decide +kernel
theorem dXL_law_560 : decode cXL_law 560 = .ok (.iconst 1, 1) := by decide +kernel
theorem dXL_law_561 : decode cXL_law 561 = .ok (.iadd, 1) := by decide +kernel
theorem dXL_law_562 : decode cXL_law 562 = .ok (.iaload, 1) := by decide +kernel
theorem dXL_law_563 : decode cXL_law 563 = .ok (.invokevirtual 81, 3) := by decide +kernel
theorem dXL_law_566 : decode cXL_law 566 = .ok (.aload_n 2, 1) := by decide +kernel
theorem dXL_law_567 : decode cXL_law 567 = .ok (.aload_n 0, 1) := by decide +kernel
theorem dXL_law_568 : decode cXL_law 568 = .ok (.iload_n 3, 1) := by decide +kernel
theorem dXL_law_569 : decode cXL_law 569 = .ok (.iconst 1, 1) := by decide +kernel
theorem dXL_law_570 : decode cXL_law 570 = .ok (.iadd, 1) := by decide +kernel
theorem dXL_law_571 : decode cXL_law 571 = .ok (.iaload, 1) := by decide +kernel
theorem dXL_law_572 : decode cXL_law 572 = .ok (.invokevirtual 84, 3) := by decide +kernel
theorem dXL_law_575 : decode cXL_law 575 = .ok (.if_icmp .eq 5, 3) := by decide +kernel
theorem dXL_law_578 : decode cXL_law 578 = .ok (.iconst 0, 1) := by decide +kernel
theorem dXL_law_579 : decode cXL_law 579 = .ok (.ireturn, 1) := by decide +kernel
theorem dXL_law_580 : decode cXL_law 580 = .ok (.iinc 3 5, 3) := by decide +kernel
theorem dXL_law_583 : decode cXL_law 583 = .ok (.goto (-565), 3) := by decide +kernel
theorem dXL_law_586 : decode cXL_law 586 = .ok (.iconst 1, 1) := by decide +kernel
theorem dXL_law_587 : decode cXL_law 587 = .ok (.ireturn, 1) := by decide +kernel
theorem wkXL_7 : Cond.classLink RXL 7 RX6 ∈ gw ∧ Cond.instantiable RX6 10 ∈ gw ∧ Cond.initialized RX6 ∈ gw := ⟨(gw_1 (j := 10) rfl rfl), (gw_1 (j := 11) rfl rfl), (gw_1 (j := 1) rfl rfl)⟩
theorem wcXL_9 : pm_cI gw RXL 9 yX6_init cX6_init 2 0 := ⟨(gw_1 (j := 12) rfl rfl), (gw_1 (j := 13) rfl rfl), (gw_1 (j := 1) rfl rfl), (gw_1 (j := 14) rfl rfl), rfl, by decide +kernel, by decide +kernel, by decide +kernel⟩
theorem wkXL_10 : Cond.classLink RXL 10 RX7 ∈ gw ∧ Cond.instantiable RX7 27 ∈ gw ∧ Cond.initialized RX7 ∈ gw := ⟨(gw_3 (j := 30) rfl rfl), (gw_3 (j := 31) rfl rfl), (gw_1 (j := 8) rfl rfl)⟩
theorem wcXL_12 : pm_cI gw RXL 12 yX7_init cX7_init 1 0 := ⟨(gw_3 (j := 32) rfl rfl), (gw_3 (j := 33) rfl rfl), (gw_1 (j := 8) rfl rfl), (gw_3 (j := 34) rfl rfl), rfl, by decide +kernel, by decide +kernel, by decide +kernel⟩
theorem wcXL_13 : pm_cV gw RXL 13 yX6_add cX6_add 5 (some (.boolean)) 4 := ⟨(gw_1 (j := 205) rfl rfl), (gw_1 (j := 206) rfl rfl), (gw_1 (j := 207) rfl rfl), (gw_1 (j := 1) rfl rfl), (gw_1 (j := 208) rfl rfl), by decide +kernel, by decide +kernel, by decide +kernel⟩
theorem wcXL_17 : pm_cV gw RXL 17 yX7_add cX7_add 6 (some (.boolean)) 4 := ⟨(gw_3 (j := 119) rfl rfl), (gw_3 (j := 120) rfl rfl), (gw_3 (j := 121) rfl rfl), (gw_1 (j := 8) rfl rfl), (gw_3 (j := 122) rfl rfl), by decide +kernel, by decide +kernel, by decide +kernel⟩
theorem wcXL_18 : pm_cV gw RXL 18 yX6_rows cX6_rows 2 (some (.int)) 1 := ⟨(gw_1 (j := 216) rfl rfl), (gw_1 (j := 217) rfl rfl), (gw_1 (j := 218) rfl rfl), (gw_1 (j := 1) rfl rfl), (gw_1 (j := 219) rfl rfl), by decide +kernel, by decide +kernel, by decide +kernel⟩
theorem wcXL_22 : pm_cV gw RXL 22 yX7_rows cX7_rows 2 (some (.int)) 1 := ⟨(gw_3 (j := 126) rfl rfl), (gw_3 (j := 127) rfl rfl), (gw_3 (j := 128) rfl rfl), (gw_1 (j := 8) rfl rfl), (gw_3 (j := 129) rfl rfl), by decide +kernel, by decide +kernel, by decide +kernel⟩
theorem wcXL_23 : pm_cV gw RXL 23 yX6_plan cX6_plan 2 (some (.boolean)) 1 := ⟨(gw_1 (j := 220) rfl rfl), (gw_1 (j := 221) rfl rfl), (gw_1 (j := 222) rfl rfl), (gw_1 (j := 1) rfl rfl), (gw_1 (j := 223) rfl rfl), by decide +kernel, by decide +kernel, by decide +kernel⟩
theorem wcXL_27 : pm_cV gw RXL 27 yX7_plan cX7_plan 2 (some (.boolean)) 1 := ⟨(gw_3 (j := 134) rfl rfl), (gw_3 (j := 135) rfl rfl), (gw_3 (j := 136) rfl rfl), (gw_1 (j := 8) rfl rfl), (gw_3 (j := 137) rfl rfl), by decide +kernel, by decide +kernel, by decide +kernel⟩
theorem wcXL_28 : pm_cV gw RXL 28 yX6_filter cX6_filter 4 (some (.boolean)) 3 := ⟨(gw_1 (j := 224) rfl rfl), (gw_1 (j := 225) rfl rfl), (gw_1 (j := 226) rfl rfl), (gw_1 (j := 1) rfl rfl), (gw_1 (j := 227) rfl rfl), by decide +kernel, by decide +kernel, by decide +kernel⟩
theorem wcXL_32 : pm_cV gw RXL 32 yX7_filter cX7_filter 4 (some (.boolean)) 3 := ⟨(gw_3 (j := 138) rfl rfl), (gw_3 (j := 139) rfl rfl), (gw_3 (j := 140) rfl rfl), (gw_1 (j := 8) rfl rfl), (gw_3 (j := 141) rfl rfl), by decide +kernel, by decide +kernel, by decide +kernel⟩
theorem wcXL_33 : pm_cV gw RXL 33 yX6_pick cX6_pick 4 (some (.boolean)) 3 := ⟨(gw_1 (j := 239) rfl rfl), (gw_2 (j := 0) rfl rfl), (gw_2 (j := 1) rfl rfl), (gw_1 (j := 1) rfl rfl), (gw_2 (j := 2) rfl rfl), by decide +kernel, by decide +kernel, by decide +kernel⟩
theorem wcXL_36 : pm_cV gw RXL 36 yX7_pick cX7_pick 4 (some (.boolean)) 3 := ⟨(gw_3 (j := 146) rfl rfl), (gw_3 (j := 147) rfl rfl), (gw_3 (j := 148) rfl rfl), (gw_1 (j := 8) rfl rfl), (gw_3 (j := 149) rfl rfl), by decide +kernel, by decide +kernel, by decide +kernel⟩
theorem wcXL_37 : pm_cV gw RXL 37 yX6_distinct cX6_distinct 1 (some (.boolean)) 0 := ⟨(gw_2 (j := 3) rfl rfl), (gw_2 (j := 4) rfl rfl), (gw_2 (j := 5) rfl rfl), (gw_1 (j := 1) rfl rfl), (gw_2 (j := 6) rfl rfl), by decide +kernel, by decide +kernel, by decide +kernel⟩
theorem wcXL_41 : pm_cV gw RXL 41 yX7_distinct cX7_distinct 1 (some (.boolean)) 0 := ⟨(gw_3 (j := 150) rfl rfl), (gw_3 (j := 151) rfl rfl), (gw_3 (j := 152) rfl rfl), (gw_1 (j := 8) rfl rfl), (gw_3 (j := 153) rfl rfl), by decide +kernel, by decide +kernel, by decide +kernel⟩
theorem wcXL_42 : pm_cV gw RXL 42 yX6_group cX6_group 3 (some (.boolean)) 2 := ⟨(gw_2 (j := 7) rfl rfl), (gw_2 (j := 8) rfl rfl), (gw_2 (j := 9) rfl rfl), (gw_1 (j := 1) rfl rfl), (gw_2 (j := 10) rfl rfl), by decide +kernel, by decide +kernel, by decide +kernel⟩
theorem wcXL_46 : pm_cV gw RXL 46 yX7_group cX7_group 3 (some (.boolean)) 2 := ⟨(gw_3 (j := 154) rfl rfl), (gw_3 (j := 155) rfl rfl), (gw_3 (j := 156) rfl rfl), (gw_1 (j := 8) rfl rfl), (gw_3 (j := 157) rfl rfl), by decide +kernel, by decide +kernel, by decide +kernel⟩
theorem wcXL_47 : pm_cV gw RXL 47 yX6_join cX6_join 4 (some (.boolean)) 3 := ⟨(gw_2 (j := 11) rfl rfl), (gw_2 (j := 12) rfl rfl), (gw_2 (j := 13) rfl rfl), (gw_1 (j := 1) rfl rfl), (gw_2 (j := 14) rfl rfl), by decide +kernel, by decide +kernel, by decide +kernel⟩
theorem wcXL_50 : pm_cV gw RXL 50 yX7_join cX7_join 4 (some (.boolean)) 3 := ⟨(gw_3 (j := 158) rfl rfl), (gw_3 (j := 159) rfl rfl), (gw_3 (j := 160) rfl rfl), (gw_1 (j := 8) rfl rfl), (gw_3 (j := 161) rfl rfl), by decide +kernel, by decide +kernel, by decide +kernel⟩
theorem wcXL_51 : pm_cV gw RXL 51 yX6_run cX6_run 2 (some (.int)) 0 := ⟨(gw_2 (j := 15) rfl rfl), (gw_2 (j := 16) rfl rfl), (gw_2 (j := 17) rfl rfl), (gw_1 (j := 1) rfl rfl), (gw_2 (j := 18) rfl rfl), by decide +kernel, by decide +kernel, by decide +kernel⟩
theorem wcXL_55 : pm_cV gw RXL 55 yX7_run cX7_run 4 (some (.int)) 0 := ⟨(gw_3 (j := 162) rfl rfl), (gw_3 (j := 163) rfl rfl), (gw_3 (j := 164) rfl rfl), (gw_1 (j := 8) rfl rfl), (gw_3 (j := 165) rfl rfl), by decide +kernel, by decide +kernel, by decide +kernel⟩
theorem wcXL_56 : pm_cV gw RXL 56 yX6_put cX6_put 4 (some (.boolean)) 3 := ⟨(gw_2 (j := 218) rfl rfl), (gw_2 (j := 219) rfl rfl), (gw_2 (j := 220) rfl rfl), (gw_1 (j := 1) rfl rfl), (gw_2 (j := 221) rfl rfl), by decide +kernel, by decide +kernel, by decide +kernel⟩
theorem wcXL_59 : pm_cV gw RXL 59 yX7_put cX7_put 4 (some (.boolean)) 3 := ⟨(gw_3 (j := 202) rfl rfl), (gw_3 (j := 203) rfl rfl), (gw_3 (j := 204) rfl rfl), (gw_1 (j := 8) rfl rfl), (gw_3 (j := 205) rfl rfl), by decide +kernel, by decide +kernel, by decide +kernel⟩
theorem wcXL_60 : pm_cV gw RXL 60 yX6_drop cX6_drop 2 (some (.boolean)) 1 := ⟨(gw_2 (j := 226) rfl rfl), (gw_2 (j := 227) rfl rfl), (gw_2 (j := 228) rfl rfl), (gw_1 (j := 1) rfl rfl), (gw_2 (j := 229) rfl rfl), by decide +kernel, by decide +kernel, by decide +kernel⟩
theorem wcXL_63 : pm_cV gw RXL 63 yX7_drop cX7_drop 2 (some (.boolean)) 1 := ⟨(gw_3 (j := 210) rfl rfl), (gw_3 (j := 211) rfl rfl), (gw_3 (j := 212) rfl rfl), (gw_1 (j := 8) rfl rfl), (gw_3 (j := 213) rfl rfl), by decide +kernel, by decide +kernel, by decide +kernel⟩
theorem wcXL_64 : pm_cV gw RXL 64 yX6_apply cX6_apply 3 (some (.int)) 1 := ⟨(gw_2 (j := 230) rfl rfl), (gw_2 (j := 231) rfl rfl), (gw_2 (j := 232) rfl rfl), (gw_1 (j := 1) rfl rfl), (gw_2 (j := 233) rfl rfl), by decide +kernel, by decide +kernel, by decide +kernel⟩
theorem wcXL_67 : pm_cV gw RXL 67 yX7_apply cX7_apply 5 (some (.int)) 1 := ⟨(gw_3 (j := 214) rfl rfl), (gw_3 (j := 215) rfl rfl), (gw_3 (j := 216) rfl rfl), (gw_1 (j := 8) rfl rfl), (gw_3 (j := 217) rfl rfl), by decide +kernel, by decide +kernel, by decide +kernel⟩
theorem wcXL_68 : pm_cV gw RXL 68 yX6_cell cX6_cell 3 (some (.int)) 2 := ⟨(gw_3 (j := 2) rfl rfl), (gw_3 (j := 3) rfl rfl), (gw_3 (j := 4) rfl rfl), (gw_1 (j := 1) rfl rfl), (gw_3 (j := 5) rfl rfl), by decide +kernel, by decide +kernel, by decide +kernel⟩
theorem wcXL_72 : pm_cV gw RXL 72 yX7_cell cX7_cell 3 (some (.int)) 2 := ⟨(gw_3 (j := 218) rfl rfl), (gw_3 (j := 219) rfl rfl), (gw_3 (j := 220) rfl rfl), (gw_1 (j := 8) rfl rfl), (gw_3 (j := 221) rfl rfl), by decide +kernel, by decide +kernel, by decide +kernel⟩
theorem wcXL_73 : pm_cV gw RXL 73 yX6_length cX6_length 1 (some (.int)) 0 := ⟨(gw_3 (j := 10) rfl rfl), (gw_3 (j := 11) rfl rfl), (gw_3 (j := 12) rfl rfl), (gw_1 (j := 1) rfl rfl), (gw_3 (j := 13) rfl rfl), by decide +kernel, by decide +kernel, by decide +kernel⟩
theorem wcXL_76 : pm_cV gw RXL 76 yX7_length cX7_length 1 (some (.int)) 0 := ⟨(gw_3 (j := 222) rfl rfl), (gw_3 (j := 223) rfl rfl), (gw_3 (j := 224) rfl rfl), (gw_1 (j := 8) rfl rfl), (gw_3 (j := 225) rfl rfl), by decide +kernel, by decide +kernel, by decide +kernel⟩
theorem wcXL_77 : pm_cV gw RXL 77 yX6_access cX6_access 2 (some (.int)) 1 := ⟨(gw_3 (j := 14) rfl rfl), (gw_3 (j := 15) rfl rfl), (gw_3 (j := 16) rfl rfl), (gw_1 (j := 1) rfl rfl), (gw_3 (j := 17) rfl rfl), by decide +kernel, by decide +kernel, by decide +kernel⟩
theorem wcXL_80 : pm_cV gw RXL 80 yX7_access cX7_access 2 (some (.int)) 1 := ⟨(gw_4 (j := 30) rfl rfl), (gw_4 (j := 31) rfl rfl), (gw_4 (j := 32) rfl rfl), (gw_1 (j := 8) rfl rfl), (gw_4 (j := 33) rfl rfl), by decide +kernel, by decide +kernel, by decide +kernel⟩
theorem wcXL_81 : pm_cV gw RXL 81 yX6_sum cX6_sum 2 (some (.int)) 1 := ⟨(gw_3 (j := 22) rfl rfl), (gw_3 (j := 23) rfl rfl), (gw_3 (j := 24) rfl rfl), (gw_1 (j := 1) rfl rfl), (gw_3 (j := 25) rfl rfl), by decide +kernel, by decide +kernel, by decide +kernel⟩
theorem wcXL_84 : pm_cV gw RXL 84 yX7_sum cX7_sum 4 (some (.int)) 1 := ⟨(gw_3 (j := 130) rfl rfl), (gw_3 (j := 131) rfl rfl), (gw_3 (j := 132) rfl rfl), (gw_1 (j := 8) rfl rfl), (gw_3 (j := 133) rfl rfl), by decide +kernel, by decide +kernel, by decide +kernel⟩
