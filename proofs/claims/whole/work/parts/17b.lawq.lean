set_option maxRecDepth 100000 in
theorem lq_0 : lwl lawC 0 = some (.new 7, 3) := by decide +kernel
set_option maxRecDepth 100000 in
theorem lq_3 : lwl lawC 3 = some (.dup, 1) := by decide +kernel
set_option maxRecDepth 100000 in
theorem lq_4 : lwl lawC 4 = some (.invokespecial 9, 3) := by decide +kernel
set_option maxRecDepth 100000 in
theorem lq_7 : lwl lawC 7 = some (.astore_n 1, 1) := by decide +kernel
set_option maxRecDepth 100000 in
theorem lq_8 : lwl lawC 8 = some (.new 10, 3) := by decide +kernel
set_option maxRecDepth 100000 in
theorem lq_11 : lwl lawC 11 = some (.dup, 1) := by decide +kernel
set_option maxRecDepth 100000 in
theorem lq_12 : lwl lawC 12 = some (.invokespecial 12, 3) := by decide +kernel
set_option maxRecDepth 100000 in
theorem lq_15 : lwl lawC 15 = some (.astore_n 2, 1) := by decide +kernel
set_option maxRecDepth 100000 in
theorem lq_16 : lwl lawC 16 = some (.iconst 0, 1) := by decide +kernel
set_option maxRecDepth 100000 in
theorem lq_17 : lwl lawC 17 = some (.istore_n 3, 1) := by decide +kernel
set_option maxRecDepth 100000 in
theorem lq_18 : lwl lawC 18 = some (.iload_n 3, 1) := by decide +kernel
set_option maxRecDepth 100000 in
theorem lq_19 : lwl lawC 19 = some (.aload_n 0, 1) := by decide +kernel
set_option maxRecDepth 100000 in
theorem lq_20 : lwl lawC 20 = some (.arraylength, 1) := by decide +kernel
set_option maxRecDepth 100000 in
theorem lq_21 : lwl lawC 21 = some (.bipush 6, 2) := by decide +kernel
set_option maxRecDepth 100000 in
theorem lq_23 : lwl lawC 23 = some (.isub, 1) := by decide +kernel
set_option maxRecDepth 100000 in
theorem lq_24 : lwl lawC 24 = some (.if_icmp .gt 807, 3) := by decide +kernel
set_option maxRecDepth 100000 in
theorem lq_27 : lwl lawC 27 = some (.aload_n 0, 1) := by decide +kernel
set_option maxRecDepth 100000 in
theorem lq_28 : lwl lawC 28 = some (.iload_n 3, 1) := by decide +kernel
set_option maxRecDepth 100000 in
theorem lq_29 : lwl lawC 29 = some (.iaload, 1) := by decide +kernel
set_option maxRecDepth 100000 in
theorem lq_30 : lwl lawC 30 = some (.bipush 31, 2) := by decide +kernel
set_option maxRecDepth 100000 in
theorem lq_32 : lwl lawC 32 = some (.iand, 1) := by decide +kernel
set_option maxRecDepth 100000 in
theorem lq_33 : lwl lawC 33 = some (.tableswitch 792 0 20 #[99, 152, 175, 188, 211, 254, 287, 310, 343, 366, 429, 452, 475, 538, 561, 604, 617, 640, 703, 756, 769], 99) := by decide +kernel
set_option maxRecDepth 100000 in
theorem lq_132 : lwl lawC 132 = some (.aload_n 1, 1) := by decide +kernel
set_option maxRecDepth 100000 in
theorem lq_133 : lwl lawC 133 = some (.aload_n 0, 1) := by decide +kernel
set_option maxRecDepth 100000 in
theorem lq_134 : lwl lawC 134 = some (.iload_n 3, 1) := by decide +kernel
set_option maxRecDepth 100000 in
theorem lq_135 : lwl lawC 135 = some (.iconst 1, 1) := by decide +kernel
set_option maxRecDepth 100000 in
theorem lq_136 : lwl lawC 136 = some (.iadd, 1) := by decide +kernel
set_option maxRecDepth 100000 in
theorem lq_137 : lwl lawC 137 = some (.iaload, 1) := by decide +kernel
set_option maxRecDepth 100000 in
theorem lq_138 : lwl lawC 138 = some (.aload_n 0, 1) := by decide +kernel
set_option maxRecDepth 100000 in
theorem lq_139 : lwl lawC 139 = some (.iload_n 3, 1) := by decide +kernel
set_option maxRecDepth 100000 in
theorem lq_140 : lwl lawC 140 = some (.iconst 2, 1) := by decide +kernel
set_option maxRecDepth 100000 in
theorem lq_141 : lwl lawC 141 = some (.iadd, 1) := by decide +kernel
set_option maxRecDepth 100000 in
theorem lq_142 : lwl lawC 142 = some (.iaload, 1) := by decide +kernel
set_option maxRecDepth 100000 in
theorem lq_143 : lwl lawC 143 = some (.aload_n 0, 1) := by decide +kernel
set_option maxRecDepth 100000 in
theorem lq_144 : lwl lawC 144 = some (.iload_n 3, 1) := by decide +kernel
set_option maxRecDepth 100000 in
theorem lq_145 : lwl lawC 145 = some (.iconst 3, 1) := by decide +kernel
set_option maxRecDepth 100000 in
theorem lq_146 : lwl lawC 146 = some (.iadd, 1) := by decide +kernel
set_option maxRecDepth 100000 in
theorem lq_147 : lwl lawC 147 = some (.iaload, 1) := by decide +kernel
set_option maxRecDepth 100000 in
theorem lq_148 : lwl lawC 148 = some (.aload_n 0, 1) := by decide +kernel
set_option maxRecDepth 100000 in
theorem lq_149 : lwl lawC 149 = some (.iload_n 3, 1) := by decide +kernel
set_option maxRecDepth 100000 in
theorem lq_150 : lwl lawC 150 = some (.iconst 4, 1) := by decide +kernel
set_option maxRecDepth 100000 in
theorem lq_151 : lwl lawC 151 = some (.iadd, 1) := by decide +kernel
set_option maxRecDepth 100000 in
theorem lq_152 : lwl lawC 152 = some (.iaload, 1) := by decide +kernel
set_option maxRecDepth 100000 in
theorem lq_153 : lwl lawC 153 = some (.invokevirtual 13, 3) := by decide +kernel
set_option maxRecDepth 100000 in
theorem lq_156 : lwl lawC 156 = some (.aload_n 2, 1) := by decide +kernel
set_option maxRecDepth 100000 in
theorem lq_157 : lwl lawC 157 = some (.aload_n 0, 1) := by decide +kernel
set_option maxRecDepth 100000 in
theorem lq_158 : lwl lawC 158 = some (.iload_n 3, 1) := by decide +kernel
set_option maxRecDepth 100000 in
theorem lq_159 : lwl lawC 159 = some (.iconst 1, 1) := by decide +kernel
set_option maxRecDepth 100000 in
theorem lq_160 : lwl lawC 160 = some (.iadd, 1) := by decide +kernel
set_option maxRecDepth 100000 in
theorem lq_161 : lwl lawC 161 = some (.iaload, 1) := by decide +kernel
set_option maxRecDepth 100000 in
theorem lq_162 : lwl lawC 162 = some (.aload_n 0, 1) := by decide +kernel
set_option maxRecDepth 100000 in
theorem lq_163 : lwl lawC 163 = some (.iload_n 3, 1) := by decide +kernel
set_option maxRecDepth 100000 in
theorem lq_164 : lwl lawC 164 = some (.iconst 2, 1) := by decide +kernel
set_option maxRecDepth 100000 in
theorem lq_165 : lwl lawC 165 = some (.iadd, 1) := by decide +kernel
set_option maxRecDepth 100000 in
theorem lq_166 : lwl lawC 166 = some (.iaload, 1) := by decide +kernel
set_option maxRecDepth 100000 in
theorem lq_167 : lwl lawC 167 = some (.aload_n 0, 1) := by decide +kernel
set_option maxRecDepth 100000 in
theorem lq_168 : lwl lawC 168 = some (.iload_n 3, 1) := by decide +kernel
set_option maxRecDepth 100000 in
theorem lq_169 : lwl lawC 169 = some (.iconst 3, 1) := by decide +kernel
set_option maxRecDepth 100000 in
theorem lq_170 : lwl lawC 170 = some (.iadd, 1) := by decide +kernel
set_option maxRecDepth 100000 in
theorem lq_171 : lwl lawC 171 = some (.iaload, 1) := by decide +kernel
set_option maxRecDepth 100000 in
theorem lq_172 : lwl lawC 172 = some (.aload_n 0, 1) := by decide +kernel
set_option maxRecDepth 100000 in
theorem lq_173 : lwl lawC 173 = some (.iload_n 3, 1) := by decide +kernel
set_option maxRecDepth 100000 in
theorem lq_174 : lwl lawC 174 = some (.iconst 4, 1) := by decide +kernel
set_option maxRecDepth 100000 in
theorem lq_175 : lwl lawC 175 = some (.iadd, 1) := by decide +kernel
set_option maxRecDepth 100000 in
theorem lq_176 : lwl lawC 176 = some (.iaload, 1) := by decide +kernel
set_option maxRecDepth 100000 in
theorem lq_177 : lwl lawC 177 = some (.invokevirtual 17, 3) := by decide +kernel
set_option maxRecDepth 100000 in
theorem lq_180 : lwl lawC 180 = some (.if_icmp .eq 645, 3) := by decide +kernel
set_option maxRecDepth 100000 in
theorem lq_185 : lwl lawC 185 = some (.aload_n 1, 1) := by decide +kernel
set_option maxRecDepth 100000 in
theorem lq_186 : lwl lawC 186 = some (.aload_n 0, 1) := by decide +kernel
set_option maxRecDepth 100000 in
theorem lq_187 : lwl lawC 187 = some (.iload_n 3, 1) := by decide +kernel
set_option maxRecDepth 100000 in
theorem lq_188 : lwl lawC 188 = some (.iconst 1, 1) := by decide +kernel
set_option maxRecDepth 100000 in
theorem lq_189 : lwl lawC 189 = some (.iadd, 1) := by decide +kernel
set_option maxRecDepth 100000 in
theorem lq_190 : lwl lawC 190 = some (.iaload, 1) := by decide +kernel
set_option maxRecDepth 100000 in
theorem lq_191 : lwl lawC 191 = some (.invokevirtual 18, 3) := by decide +kernel
set_option maxRecDepth 100000 in
theorem lq_194 : lwl lawC 194 = some (.aload_n 2, 1) := by decide +kernel
set_option maxRecDepth 100000 in
theorem lq_195 : lwl lawC 195 = some (.aload_n 0, 1) := by decide +kernel
set_option maxRecDepth 100000 in
theorem lq_196 : lwl lawC 196 = some (.iload_n 3, 1) := by decide +kernel
set_option maxRecDepth 100000 in
theorem lq_197 : lwl lawC 197 = some (.iconst 1, 1) := by decide +kernel
set_option maxRecDepth 100000 in
theorem lq_198 : lwl lawC 198 = some (.iadd, 1) := by decide +kernel
set_option maxRecDepth 100000 in
theorem lq_199 : lwl lawC 199 = some (.iaload, 1) := by decide +kernel
set_option maxRecDepth 100000 in
theorem lq_200 : lwl lawC 200 = some (.invokevirtual 22, 3) := by decide +kernel
set_option maxRecDepth 100000 in
theorem lq_203 : lwl lawC 203 = some (.if_icmp .eq 622, 3) := by decide +kernel
set_option maxRecDepth 100000 in
theorem lq_208 : lwl lawC 208 = some (.aload_n 1, 1) := by decide +kernel
set_option maxRecDepth 100000 in
theorem lq_209 : lwl lawC 209 = some (.invokevirtual 23, 3) := by decide +kernel
set_option maxRecDepth 100000 in
theorem lq_212 : lwl lawC 212 = some (.aload_n 2, 1) := by decide +kernel
set_option maxRecDepth 100000 in
theorem lq_213 : lwl lawC 213 = some (.invokevirtual 27, 3) := by decide +kernel
set_option maxRecDepth 100000 in
theorem lq_216 : lwl lawC 216 = some (.if_icmp .eq 609, 3) := by decide +kernel
set_option maxRecDepth 100000 in
theorem lq_221 : lwl lawC 221 = some (.aload_n 1, 1) := by decide +kernel
set_option maxRecDepth 100000 in
theorem lq_222 : lwl lawC 222 = some (.aload_n 0, 1) := by decide +kernel
set_option maxRecDepth 100000 in
theorem lq_223 : lwl lawC 223 = some (.iload_n 3, 1) := by decide +kernel
set_option maxRecDepth 100000 in
theorem lq_224 : lwl lawC 224 = some (.iconst 1, 1) := by decide +kernel
set_option maxRecDepth 100000 in
theorem lq_225 : lwl lawC 225 = some (.iadd, 1) := by decide +kernel
set_option maxRecDepth 100000 in
theorem lq_226 : lwl lawC 226 = some (.iaload, 1) := by decide +kernel
set_option maxRecDepth 100000 in
theorem lq_227 : lwl lawC 227 = some (.invokevirtual 28, 3) := by decide +kernel
set_option maxRecDepth 100000 in
theorem lq_230 : lwl lawC 230 = some (.aload_n 2, 1) := by decide +kernel
set_option maxRecDepth 100000 in
theorem lq_231 : lwl lawC 231 = some (.aload_n 0, 1) := by decide +kernel
set_option maxRecDepth 100000 in
theorem lq_232 : lwl lawC 232 = some (.iload_n 3, 1) := by decide +kernel
set_option maxRecDepth 100000 in
theorem lq_233 : lwl lawC 233 = some (.iconst 1, 1) := by decide +kernel
set_option maxRecDepth 100000 in
theorem lq_234 : lwl lawC 234 = some (.iadd, 1) := by decide +kernel
set_option maxRecDepth 100000 in
theorem lq_235 : lwl lawC 235 = some (.iaload, 1) := by decide +kernel
set_option maxRecDepth 100000 in
theorem lq_236 : lwl lawC 236 = some (.invokevirtual 31, 3) := by decide +kernel
set_option maxRecDepth 100000 in
theorem lq_239 : lwl lawC 239 = some (.if_icmp .eq 586, 3) := by decide +kernel
set_option maxRecDepth 100000 in
theorem lq_244 : lwl lawC 244 = some (.aload_n 1, 1) := by decide +kernel
set_option maxRecDepth 100000 in
theorem lq_245 : lwl lawC 245 = some (.aload_n 0, 1) := by decide +kernel
set_option maxRecDepth 100000 in
theorem lq_246 : lwl lawC 246 = some (.iload_n 3, 1) := by decide +kernel
set_option maxRecDepth 100000 in
theorem lq_247 : lwl lawC 247 = some (.iconst 1, 1) := by decide +kernel
set_option maxRecDepth 100000 in
theorem lq_248 : lwl lawC 248 = some (.iadd, 1) := by decide +kernel
set_option maxRecDepth 100000 in
theorem lq_249 : lwl lawC 249 = some (.iaload, 1) := by decide +kernel
set_option maxRecDepth 100000 in
theorem lq_250 : lwl lawC 250 = some (.aload_n 0, 1) := by decide +kernel
set_option maxRecDepth 100000 in
theorem lq_251 : lwl lawC 251 = some (.iload_n 3, 1) := by decide +kernel
set_option maxRecDepth 100000 in
theorem lq_252 : lwl lawC 252 = some (.iconst 2, 1) := by decide +kernel
set_option maxRecDepth 100000 in
theorem lq_253 : lwl lawC 253 = some (.iadd, 1) := by decide +kernel
set_option maxRecDepth 100000 in
theorem lq_254 : lwl lawC 254 = some (.iaload, 1) := by decide +kernel
set_option maxRecDepth 100000 in
theorem lq_255 : lwl lawC 255 = some (.aload_n 0, 1) := by decide +kernel
set_option maxRecDepth 100000 in
theorem lq_256 : lwl lawC 256 = some (.iload_n 3, 1) := by decide +kernel
set_option maxRecDepth 100000 in
theorem lq_257 : lwl lawC 257 = some (.iconst 3, 1) := by decide +kernel
set_option maxRecDepth 100000 in
theorem lq_258 : lwl lawC 258 = some (.iadd, 1) := by decide +kernel
set_option maxRecDepth 100000 in
theorem lq_259 : lwl lawC 259 = some (.iaload, 1) := by decide +kernel
set_option maxRecDepth 100000 in
theorem lq_260 : lwl lawC 260 = some (.invokevirtual 32, 3) := by decide +kernel
set_option maxRecDepth 100000 in
theorem lq_263 : lwl lawC 263 = some (.aload_n 2, 1) := by decide +kernel
set_option maxRecDepth 100000 in
theorem lq_264 : lwl lawC 264 = some (.aload_n 0, 1) := by decide +kernel
set_option maxRecDepth 100000 in
theorem lq_265 : lwl lawC 265 = some (.iload_n 3, 1) := by decide +kernel
set_option maxRecDepth 100000 in
theorem lq_266 : lwl lawC 266 = some (.iconst 1, 1) := by decide +kernel
set_option maxRecDepth 100000 in
theorem lq_267 : lwl lawC 267 = some (.iadd, 1) := by decide +kernel
set_option maxRecDepth 100000 in
theorem lq_268 : lwl lawC 268 = some (.iaload, 1) := by decide +kernel
set_option maxRecDepth 100000 in
theorem lq_269 : lwl lawC 269 = some (.aload_n 0, 1) := by decide +kernel
set_option maxRecDepth 100000 in
theorem lq_270 : lwl lawC 270 = some (.iload_n 3, 1) := by decide +kernel
set_option maxRecDepth 100000 in
theorem lq_271 : lwl lawC 271 = some (.iconst 2, 1) := by decide +kernel
set_option maxRecDepth 100000 in
theorem lq_272 : lwl lawC 272 = some (.iadd, 1) := by decide +kernel
set_option maxRecDepth 100000 in
theorem lq_273 : lwl lawC 273 = some (.iaload, 1) := by decide +kernel
set_option maxRecDepth 100000 in
theorem lq_274 : lwl lawC 274 = some (.aload_n 0, 1) := by decide +kernel
set_option maxRecDepth 100000 in
theorem lq_275 : lwl lawC 275 = some (.iload_n 3, 1) := by decide +kernel
set_option maxRecDepth 100000 in
theorem lq_276 : lwl lawC 276 = some (.iconst 3, 1) := by decide +kernel
set_option maxRecDepth 100000 in
theorem lq_277 : lwl lawC 277 = some (.iadd, 1) := by decide +kernel
set_option maxRecDepth 100000 in
theorem lq_278 : lwl lawC 278 = some (.iaload, 1) := by decide +kernel
set_option maxRecDepth 100000 in
theorem lq_279 : lwl lawC 279 = some (.invokevirtual 36, 3) := by decide +kernel
set_option maxRecDepth 100000 in
theorem lq_282 : lwl lawC 282 = some (.if_icmp .eq 543, 3) := by decide +kernel
set_option maxRecDepth 100000 in
theorem lq_287 : lwl lawC 287 = some (.aload_n 1, 1) := by decide +kernel
set_option maxRecDepth 100000 in
theorem lq_288 : lwl lawC 288 = some (.aload_n 0, 1) := by decide +kernel
set_option maxRecDepth 100000 in
theorem lq_289 : lwl lawC 289 = some (.iload_n 3, 1) := by decide +kernel
set_option maxRecDepth 100000 in
theorem lq_290 : lwl lawC 290 = some (.iconst 1, 1) := by decide +kernel
set_option maxRecDepth 100000 in
theorem lq_291 : lwl lawC 291 = some (.iadd, 1) := by decide +kernel
set_option maxRecDepth 100000 in
theorem lq_292 : lwl lawC 292 = some (.iaload, 1) := by decide +kernel
set_option maxRecDepth 100000 in
theorem lq_293 : lwl lawC 293 = some (.aload_n 0, 1) := by decide +kernel
set_option maxRecDepth 100000 in
theorem lq_294 : lwl lawC 294 = some (.iload_n 3, 1) := by decide +kernel
set_option maxRecDepth 100000 in
theorem lq_295 : lwl lawC 295 = some (.iconst 2, 1) := by decide +kernel
set_option maxRecDepth 100000 in
theorem lq_296 : lwl lawC 296 = some (.iadd, 1) := by decide +kernel
set_option maxRecDepth 100000 in
theorem lq_297 : lwl lawC 297 = some (.iaload, 1) := by decide +kernel
set_option maxRecDepth 100000 in
theorem lq_298 : lwl lawC 298 = some (.invokevirtual 37, 3) := by decide +kernel
set_option maxRecDepth 100000 in
theorem lq_301 : lwl lawC 301 = some (.aload_n 2, 1) := by decide +kernel
set_option maxRecDepth 100000 in
theorem lq_302 : lwl lawC 302 = some (.aload_n 0, 1) := by decide +kernel
set_option maxRecDepth 100000 in
theorem lq_303 : lwl lawC 303 = some (.iload_n 3, 1) := by decide +kernel
set_option maxRecDepth 100000 in
theorem lq_304 : lwl lawC 304 = some (.iconst 1, 1) := by decide +kernel
set_option maxRecDepth 100000 in
theorem lq_305 : lwl lawC 305 = some (.iadd, 1) := by decide +kernel
set_option maxRecDepth 100000 in
theorem lq_306 : lwl lawC 306 = some (.iaload, 1) := by decide +kernel
set_option maxRecDepth 100000 in
theorem lq_307 : lwl lawC 307 = some (.aload_n 0, 1) := by decide +kernel
set_option maxRecDepth 100000 in
theorem lq_308 : lwl lawC 308 = some (.iload_n 3, 1) := by decide +kernel
set_option maxRecDepth 100000 in
theorem lq_309 : lwl lawC 309 = some (.iconst 2, 1) := by decide +kernel
set_option maxRecDepth 100000 in
theorem lq_310 : lwl lawC 310 = some (.iadd, 1) := by decide +kernel
set_option maxRecDepth 100000 in
theorem lq_311 : lwl lawC 311 = some (.iaload, 1) := by decide +kernel
set_option maxRecDepth 100000 in
theorem lq_312 : lwl lawC 312 = some (.invokevirtual 41, 3) := by decide +kernel
set_option maxRecDepth 100000 in
theorem lq_315 : lwl lawC 315 = some (.if_icmp .eq 510, 3) := by decide +kernel
set_option maxRecDepth 100000 in
theorem lq_320 : lwl lawC 320 = some (.aload_n 1, 1) := by decide +kernel
set_option maxRecDepth 100000 in
theorem lq_321 : lwl lawC 321 = some (.aload_n 0, 1) := by decide +kernel
set_option maxRecDepth 100000 in
theorem lq_322 : lwl lawC 322 = some (.iload_n 3, 1) := by decide +kernel
set_option maxRecDepth 100000 in
theorem lq_323 : lwl lawC 323 = some (.iconst 1, 1) := by decide +kernel
set_option maxRecDepth 100000 in
theorem lq_324 : lwl lawC 324 = some (.iadd, 1) := by decide +kernel
set_option maxRecDepth 100000 in
theorem lq_325 : lwl lawC 325 = some (.iaload, 1) := by decide +kernel
set_option maxRecDepth 100000 in
theorem lq_326 : lwl lawC 326 = some (.invokevirtual 42, 3) := by decide +kernel
set_option maxRecDepth 100000 in
theorem lq_329 : lwl lawC 329 = some (.aload_n 2, 1) := by decide +kernel
set_option maxRecDepth 100000 in
theorem lq_330 : lwl lawC 330 = some (.aload_n 0, 1) := by decide +kernel
set_option maxRecDepth 100000 in
theorem lq_331 : lwl lawC 331 = some (.iload_n 3, 1) := by decide +kernel
set_option maxRecDepth 100000 in
theorem lq_332 : lwl lawC 332 = some (.iconst 1, 1) := by decide +kernel
set_option maxRecDepth 100000 in
theorem lq_333 : lwl lawC 333 = some (.iadd, 1) := by decide +kernel
set_option maxRecDepth 100000 in
theorem lq_334 : lwl lawC 334 = some (.iaload, 1) := by decide +kernel
set_option maxRecDepth 100000 in
theorem lq_335 : lwl lawC 335 = some (.invokevirtual 45, 3) := by decide +kernel
set_option maxRecDepth 100000 in
theorem lq_338 : lwl lawC 338 = some (.if_icmp .eq 487, 3) := by decide +kernel
set_option maxRecDepth 100000 in
theorem lq_343 : lwl lawC 343 = some (.aload_n 1, 1) := by decide +kernel
set_option maxRecDepth 100000 in
theorem lq_344 : lwl lawC 344 = some (.aload_n 0, 1) := by decide +kernel
set_option maxRecDepth 100000 in
theorem lq_345 : lwl lawC 345 = some (.iload_n 3, 1) := by decide +kernel
set_option maxRecDepth 100000 in
theorem lq_346 : lwl lawC 346 = some (.iconst 1, 1) := by decide +kernel
set_option maxRecDepth 100000 in
theorem lq_347 : lwl lawC 347 = some (.iadd, 1) := by decide +kernel
set_option maxRecDepth 100000 in
theorem lq_348 : lwl lawC 348 = some (.iaload, 1) := by decide +kernel
set_option maxRecDepth 100000 in
theorem lq_349 : lwl lawC 349 = some (.aload_n 0, 1) := by decide +kernel
set_option maxRecDepth 100000 in
theorem lq_350 : lwl lawC 350 = some (.iload_n 3, 1) := by decide +kernel
set_option maxRecDepth 100000 in
theorem lq_351 : lwl lawC 351 = some (.iconst 2, 1) := by decide +kernel
set_option maxRecDepth 100000 in
theorem lq_352 : lwl lawC 352 = some (.iadd, 1) := by decide +kernel
set_option maxRecDepth 100000 in
theorem lq_353 : lwl lawC 353 = some (.iaload, 1) := by decide +kernel
set_option maxRecDepth 100000 in
theorem lq_354 : lwl lawC 354 = some (.invokevirtual 46, 3) := by decide +kernel
set_option maxRecDepth 100000 in
theorem lq_357 : lwl lawC 357 = some (.aload_n 2, 1) := by decide +kernel
set_option maxRecDepth 100000 in
theorem lq_358 : lwl lawC 358 = some (.aload_n 0, 1) := by decide +kernel
set_option maxRecDepth 100000 in
theorem lq_359 : lwl lawC 359 = some (.iload_n 3, 1) := by decide +kernel
set_option maxRecDepth 100000 in
theorem lq_360 : lwl lawC 360 = some (.iconst 1, 1) := by decide +kernel
set_option maxRecDepth 100000 in
theorem lq_361 : lwl lawC 361 = some (.iadd, 1) := by decide +kernel
set_option maxRecDepth 100000 in
theorem lq_362 : lwl lawC 362 = some (.iaload, 1) := by decide +kernel
set_option maxRecDepth 100000 in
theorem lq_363 : lwl lawC 363 = some (.aload_n 0, 1) := by decide +kernel
set_option maxRecDepth 100000 in
theorem lq_364 : lwl lawC 364 = some (.iload_n 3, 1) := by decide +kernel
set_option maxRecDepth 100000 in
theorem lq_365 : lwl lawC 365 = some (.iconst 2, 1) := by decide +kernel
set_option maxRecDepth 100000 in
theorem lq_366 : lwl lawC 366 = some (.iadd, 1) := by decide +kernel
set_option maxRecDepth 100000 in
theorem lq_367 : lwl lawC 367 = some (.iaload, 1) := by decide +kernel
set_option maxRecDepth 100000 in
theorem lq_368 : lwl lawC 368 = some (.invokevirtual 49, 3) := by decide +kernel
set_option maxRecDepth 100000 in
theorem lq_371 : lwl lawC 371 = some (.if_icmp .eq 454, 3) := by decide +kernel
set_option maxRecDepth 100000 in
theorem lq_376 : lwl lawC 376 = some (.aload_n 1, 1) := by decide +kernel
set_option maxRecDepth 100000 in
theorem lq_377 : lwl lawC 377 = some (.aload_n 0, 1) := by decide +kernel
set_option maxRecDepth 100000 in
theorem lq_378 : lwl lawC 378 = some (.iload_n 3, 1) := by decide +kernel
set_option maxRecDepth 100000 in
theorem lq_379 : lwl lawC 379 = some (.iconst 1, 1) := by decide +kernel
set_option maxRecDepth 100000 in
theorem lq_380 : lwl lawC 380 = some (.iadd, 1) := by decide +kernel
set_option maxRecDepth 100000 in
theorem lq_381 : lwl lawC 381 = some (.iaload, 1) := by decide +kernel
set_option maxRecDepth 100000 in
theorem lq_382 : lwl lawC 382 = some (.invokevirtual 50, 3) := by decide +kernel
set_option maxRecDepth 100000 in
theorem lq_385 : lwl lawC 385 = some (.aload_n 2, 1) := by decide +kernel
set_option maxRecDepth 100000 in
theorem lq_386 : lwl lawC 386 = some (.aload_n 0, 1) := by decide +kernel
set_option maxRecDepth 100000 in
theorem lq_387 : lwl lawC 387 = some (.iload_n 3, 1) := by decide +kernel
set_option maxRecDepth 100000 in
theorem lq_388 : lwl lawC 388 = some (.iconst 1, 1) := by decide +kernel
set_option maxRecDepth 100000 in
theorem lq_389 : lwl lawC 389 = some (.iadd, 1) := by decide +kernel
set_option maxRecDepth 100000 in
theorem lq_390 : lwl lawC 390 = some (.iaload, 1) := by decide +kernel
set_option maxRecDepth 100000 in
theorem lq_391 : lwl lawC 391 = some (.invokevirtual 53, 3) := by decide +kernel
set_option maxRecDepth 100000 in
theorem lq_394 : lwl lawC 394 = some (.if_icmp .eq 431, 3) := by decide +kernel
set_option maxRecDepth 100000 in
theorem lq_399 : lwl lawC 399 = some (.aload_n 1, 1) := by decide +kernel
set_option maxRecDepth 100000 in
theorem lq_400 : lwl lawC 400 = some (.aload_n 0, 1) := by decide +kernel
set_option maxRecDepth 100000 in
theorem lq_401 : lwl lawC 401 = some (.iload_n 3, 1) := by decide +kernel
set_option maxRecDepth 100000 in
theorem lq_402 : lwl lawC 402 = some (.iconst 1, 1) := by decide +kernel
set_option maxRecDepth 100000 in
theorem lq_403 : lwl lawC 403 = some (.iadd, 1) := by decide +kernel
set_option maxRecDepth 100000 in
theorem lq_404 : lwl lawC 404 = some (.iaload, 1) := by decide +kernel
set_option maxRecDepth 100000 in
theorem lq_405 : lwl lawC 405 = some (.aload_n 0, 1) := by decide +kernel
set_option maxRecDepth 100000 in
theorem lq_406 : lwl lawC 406 = some (.iload_n 3, 1) := by decide +kernel
set_option maxRecDepth 100000 in
theorem lq_407 : lwl lawC 407 = some (.iconst 2, 1) := by decide +kernel
set_option maxRecDepth 100000 in
theorem lq_408 : lwl lawC 408 = some (.iadd, 1) := by decide +kernel
set_option maxRecDepth 100000 in
theorem lq_409 : lwl lawC 409 = some (.iaload, 1) := by decide +kernel
set_option maxRecDepth 100000 in
theorem lq_410 : lwl lawC 410 = some (.aload_n 0, 1) := by decide +kernel
set_option maxRecDepth 100000 in
theorem lq_411 : lwl lawC 411 = some (.iload_n 3, 1) := by decide +kernel
set_option maxRecDepth 100000 in
theorem lq_412 : lwl lawC 412 = some (.iconst 3, 1) := by decide +kernel
set_option maxRecDepth 100000 in
theorem lq_413 : lwl lawC 413 = some (.iadd, 1) := by decide +kernel
set_option maxRecDepth 100000 in
theorem lq_414 : lwl lawC 414 = some (.iaload, 1) := by decide +kernel
set_option maxRecDepth 100000 in
theorem lq_415 : lwl lawC 415 = some (.aload_n 0, 1) := by decide +kernel
set_option maxRecDepth 100000 in
theorem lq_416 : lwl lawC 416 = some (.iload_n 3, 1) := by decide +kernel
set_option maxRecDepth 100000 in
theorem lq_417 : lwl lawC 417 = some (.iconst 4, 1) := by decide +kernel
set_option maxRecDepth 100000 in
theorem lq_418 : lwl lawC 418 = some (.iadd, 1) := by decide +kernel
set_option maxRecDepth 100000 in
theorem lq_419 : lwl lawC 419 = some (.iaload, 1) := by decide +kernel
set_option maxRecDepth 100000 in
theorem lq_420 : lwl lawC 420 = some (.aload_n 0, 1) := by decide +kernel
set_option maxRecDepth 100000 in
theorem lq_421 : lwl lawC 421 = some (.iload_n 3, 1) := by decide +kernel
set_option maxRecDepth 100000 in
theorem lq_422 : lwl lawC 422 = some (.iconst 5, 1) := by decide +kernel
set_option maxRecDepth 100000 in
theorem lq_423 : lwl lawC 423 = some (.iadd, 1) := by decide +kernel
set_option maxRecDepth 100000 in
theorem lq_424 : lwl lawC 424 = some (.iaload, 1) := by decide +kernel
set_option maxRecDepth 100000 in
theorem lq_425 : lwl lawC 425 = some (.invokevirtual 54, 3) := by decide +kernel
set_option maxRecDepth 100000 in
theorem lq_428 : lwl lawC 428 = some (.aload_n 2, 1) := by decide +kernel
set_option maxRecDepth 100000 in
theorem lq_429 : lwl lawC 429 = some (.aload_n 0, 1) := by decide +kernel
set_option maxRecDepth 100000 in
theorem lq_430 : lwl lawC 430 = some (.iload_n 3, 1) := by decide +kernel
set_option maxRecDepth 100000 in
theorem lq_431 : lwl lawC 431 = some (.iconst 1, 1) := by decide +kernel
set_option maxRecDepth 100000 in
theorem lq_432 : lwl lawC 432 = some (.iadd, 1) := by decide +kernel
set_option maxRecDepth 100000 in
theorem lq_433 : lwl lawC 433 = some (.iaload, 1) := by decide +kernel
set_option maxRecDepth 100000 in
theorem lq_434 : lwl lawC 434 = some (.aload_n 0, 1) := by decide +kernel
set_option maxRecDepth 100000 in
theorem lq_435 : lwl lawC 435 = some (.iload_n 3, 1) := by decide +kernel
set_option maxRecDepth 100000 in
theorem lq_436 : lwl lawC 436 = some (.iconst 2, 1) := by decide +kernel
set_option maxRecDepth 100000 in
theorem lq_437 : lwl lawC 437 = some (.iadd, 1) := by decide +kernel
set_option maxRecDepth 100000 in
theorem lq_438 : lwl lawC 438 = some (.iaload, 1) := by decide +kernel
set_option maxRecDepth 100000 in
theorem lq_439 : lwl lawC 439 = some (.aload_n 0, 1) := by decide +kernel
set_option maxRecDepth 100000 in
theorem lq_440 : lwl lawC 440 = some (.iload_n 3, 1) := by decide +kernel
set_option maxRecDepth 100000 in
theorem lq_441 : lwl lawC 441 = some (.iconst 3, 1) := by decide +kernel
set_option maxRecDepth 100000 in
theorem lq_442 : lwl lawC 442 = some (.iadd, 1) := by decide +kernel
set_option maxRecDepth 100000 in
theorem lq_443 : lwl lawC 443 = some (.iaload, 1) := by decide +kernel
set_option maxRecDepth 100000 in
theorem lq_444 : lwl lawC 444 = some (.aload_n 0, 1) := by decide +kernel
set_option maxRecDepth 100000 in
theorem lq_445 : lwl lawC 445 = some (.iload_n 3, 1) := by decide +kernel
set_option maxRecDepth 100000 in
theorem lq_446 : lwl lawC 446 = some (.iconst 4, 1) := by decide +kernel
set_option maxRecDepth 100000 in
theorem lq_447 : lwl lawC 447 = some (.iadd, 1) := by decide +kernel
set_option maxRecDepth 100000 in
theorem lq_448 : lwl lawC 448 = some (.iaload, 1) := by decide +kernel
set_option maxRecDepth 100000 in
theorem lq_449 : lwl lawC 449 = some (.aload_n 0, 1) := by decide +kernel
set_option maxRecDepth 100000 in
theorem lq_450 : lwl lawC 450 = some (.iload_n 3, 1) := by decide +kernel
set_option maxRecDepth 100000 in
theorem lq_451 : lwl lawC 451 = some (.iconst 5, 1) := by decide +kernel
set_option maxRecDepth 100000 in
theorem lq_452 : lwl lawC 452 = some (.iadd, 1) := by decide +kernel
set_option maxRecDepth 100000 in
theorem lq_453 : lwl lawC 453 = some (.iaload, 1) := by decide +kernel
set_option maxRecDepth 100000 in
theorem lq_454 : lwl lawC 454 = some (.invokevirtual 58, 3) := by decide +kernel
set_option maxRecDepth 100000 in
theorem lq_457 : lwl lawC 457 = some (.if_icmp .eq 368, 3) := by decide +kernel
set_option maxRecDepth 100000 in
theorem lq_462 : lwl lawC 462 = some (.aload_n 1, 1) := by decide +kernel
set_option maxRecDepth 100000 in
theorem lq_463 : lwl lawC 463 = some (.aload_n 0, 1) := by decide +kernel
set_option maxRecDepth 100000 in
theorem lq_464 : lwl lawC 464 = some (.iload_n 3, 1) := by decide +kernel
set_option maxRecDepth 100000 in
theorem lq_465 : lwl lawC 465 = some (.iconst 1, 1) := by decide +kernel
set_option maxRecDepth 100000 in
theorem lq_466 : lwl lawC 466 = some (.iadd, 1) := by decide +kernel
set_option maxRecDepth 100000 in
theorem lq_467 : lwl lawC 467 = some (.iaload, 1) := by decide +kernel
set_option maxRecDepth 100000 in
theorem lq_468 : lwl lawC 468 = some (.invokevirtual 59, 3) := by decide +kernel
set_option maxRecDepth 100000 in
theorem lq_471 : lwl lawC 471 = some (.aload_n 2, 1) := by decide +kernel
set_option maxRecDepth 100000 in
theorem lq_472 : lwl lawC 472 = some (.aload_n 0, 1) := by decide +kernel
set_option maxRecDepth 100000 in
theorem lq_473 : lwl lawC 473 = some (.iload_n 3, 1) := by decide +kernel
set_option maxRecDepth 100000 in
theorem lq_474 : lwl lawC 474 = some (.iconst 1, 1) := by decide +kernel
set_option maxRecDepth 100000 in
theorem lq_475 : lwl lawC 475 = some (.iadd, 1) := by decide +kernel
set_option maxRecDepth 100000 in
theorem lq_476 : lwl lawC 476 = some (.iaload, 1) := by decide +kernel
set_option maxRecDepth 100000 in
theorem lq_477 : lwl lawC 477 = some (.invokevirtual 62, 3) := by decide +kernel
set_option maxRecDepth 100000 in
theorem lq_480 : lwl lawC 480 = some (.if_icmp .eq 345, 3) := by decide +kernel
set_option maxRecDepth 100000 in
theorem lq_485 : lwl lawC 485 = some (.aload_n 1, 1) := by decide +kernel
set_option maxRecDepth 100000 in
theorem lq_486 : lwl lawC 486 = some (.aload_n 0, 1) := by decide +kernel
set_option maxRecDepth 100000 in
theorem lq_487 : lwl lawC 487 = some (.iload_n 3, 1) := by decide +kernel
set_option maxRecDepth 100000 in
theorem lq_488 : lwl lawC 488 = some (.iconst 1, 1) := by decide +kernel
set_option maxRecDepth 100000 in
theorem lq_489 : lwl lawC 489 = some (.iadd, 1) := by decide +kernel
set_option maxRecDepth 100000 in
theorem lq_490 : lwl lawC 490 = some (.iaload, 1) := by decide +kernel
set_option maxRecDepth 100000 in
theorem lq_491 : lwl lawC 491 = some (.invokevirtual 63, 3) := by decide +kernel
set_option maxRecDepth 100000 in
theorem lq_494 : lwl lawC 494 = some (.aload_n 2, 1) := by decide +kernel
set_option maxRecDepth 100000 in
theorem lq_495 : lwl lawC 495 = some (.aload_n 0, 1) := by decide +kernel
set_option maxRecDepth 100000 in
theorem lq_496 : lwl lawC 496 = some (.iload_n 3, 1) := by decide +kernel
set_option maxRecDepth 100000 in
theorem lq_497 : lwl lawC 497 = some (.iconst 1, 1) := by decide +kernel
set_option maxRecDepth 100000 in
theorem lq_498 : lwl lawC 498 = some (.iadd, 1) := by decide +kernel
set_option maxRecDepth 100000 in
theorem lq_499 : lwl lawC 499 = some (.iaload, 1) := by decide +kernel
set_option maxRecDepth 100000 in
theorem lq_500 : lwl lawC 500 = some (.invokevirtual 66, 3) := by decide +kernel
set_option maxRecDepth 100000 in
theorem lq_503 : lwl lawC 503 = some (.if_icmp .eq 322, 3) := by decide +kernel
set_option maxRecDepth 100000 in
theorem lq_508 : lwl lawC 508 = some (.aload_n 1, 1) := by decide +kernel
set_option maxRecDepth 100000 in
theorem lq_509 : lwl lawC 509 = some (.aload_n 0, 1) := by decide +kernel
set_option maxRecDepth 100000 in
theorem lq_510 : lwl lawC 510 = some (.iload_n 3, 1) := by decide +kernel
set_option maxRecDepth 100000 in
theorem lq_511 : lwl lawC 511 = some (.iconst 1, 1) := by decide +kernel
set_option maxRecDepth 100000 in
theorem lq_512 : lwl lawC 512 = some (.iadd, 1) := by decide +kernel
set_option maxRecDepth 100000 in
theorem lq_513 : lwl lawC 513 = some (.iaload, 1) := by decide +kernel
set_option maxRecDepth 100000 in
theorem lq_514 : lwl lawC 514 = some (.aload_n 0, 1) := by decide +kernel
set_option maxRecDepth 100000 in
theorem lq_515 : lwl lawC 515 = some (.iload_n 3, 1) := by decide +kernel
set_option maxRecDepth 100000 in
theorem lq_516 : lwl lawC 516 = some (.iconst 2, 1) := by decide +kernel
set_option maxRecDepth 100000 in
theorem lq_517 : lwl lawC 517 = some (.iadd, 1) := by decide +kernel
set_option maxRecDepth 100000 in
theorem lq_518 : lwl lawC 518 = some (.iaload, 1) := by decide +kernel
set_option maxRecDepth 100000 in
theorem lq_519 : lwl lawC 519 = some (.aload_n 0, 1) := by decide +kernel
set_option maxRecDepth 100000 in
theorem lq_520 : lwl lawC 520 = some (.iload_n 3, 1) := by decide +kernel
set_option maxRecDepth 100000 in
theorem lq_521 : lwl lawC 521 = some (.iconst 3, 1) := by decide +kernel
set_option maxRecDepth 100000 in
theorem lq_522 : lwl lawC 522 = some (.iadd, 1) := by decide +kernel
set_option maxRecDepth 100000 in
theorem lq_523 : lwl lawC 523 = some (.iaload, 1) := by decide +kernel
set_option maxRecDepth 100000 in
theorem lq_524 : lwl lawC 524 = some (.aload_n 0, 1) := by decide +kernel
set_option maxRecDepth 100000 in
theorem lq_525 : lwl lawC 525 = some (.iload_n 3, 1) := by decide +kernel
set_option maxRecDepth 100000 in
theorem lq_526 : lwl lawC 526 = some (.iconst 4, 1) := by decide +kernel
set_option maxRecDepth 100000 in
theorem lq_527 : lwl lawC 527 = some (.iadd, 1) := by decide +kernel
set_option maxRecDepth 100000 in
theorem lq_528 : lwl lawC 528 = some (.iaload, 1) := by decide +kernel
set_option maxRecDepth 100000 in
theorem lq_529 : lwl lawC 529 = some (.aload_n 0, 1) := by decide +kernel
set_option maxRecDepth 100000 in
theorem lq_530 : lwl lawC 530 = some (.iload_n 3, 1) := by decide +kernel
set_option maxRecDepth 100000 in
theorem lq_531 : lwl lawC 531 = some (.iconst 5, 1) := by decide +kernel
set_option maxRecDepth 100000 in
theorem lq_532 : lwl lawC 532 = some (.iadd, 1) := by decide +kernel
set_option maxRecDepth 100000 in
theorem lq_533 : lwl lawC 533 = some (.iaload, 1) := by decide +kernel
set_option maxRecDepth 100000 in
theorem lq_534 : lwl lawC 534 = some (.invokevirtual 67, 3) := by decide +kernel
set_option maxRecDepth 100000 in
theorem lq_537 : lwl lawC 537 = some (.aload_n 2, 1) := by decide +kernel
set_option maxRecDepth 100000 in
theorem lq_538 : lwl lawC 538 = some (.aload_n 0, 1) := by decide +kernel
set_option maxRecDepth 100000 in
theorem lq_539 : lwl lawC 539 = some (.iload_n 3, 1) := by decide +kernel
set_option maxRecDepth 100000 in
theorem lq_540 : lwl lawC 540 = some (.iconst 1, 1) := by decide +kernel
set_option maxRecDepth 100000 in
theorem lq_541 : lwl lawC 541 = some (.iadd, 1) := by decide +kernel
set_option maxRecDepth 100000 in
theorem lq_542 : lwl lawC 542 = some (.iaload, 1) := by decide +kernel
set_option maxRecDepth 100000 in
theorem lq_543 : lwl lawC 543 = some (.aload_n 0, 1) := by decide +kernel
set_option maxRecDepth 100000 in
theorem lq_544 : lwl lawC 544 = some (.iload_n 3, 1) := by decide +kernel
set_option maxRecDepth 100000 in
theorem lq_545 : lwl lawC 545 = some (.iconst 2, 1) := by decide +kernel
set_option maxRecDepth 100000 in
theorem lq_546 : lwl lawC 546 = some (.iadd, 1) := by decide +kernel
set_option maxRecDepth 100000 in
theorem lq_547 : lwl lawC 547 = some (.iaload, 1) := by decide +kernel
set_option maxRecDepth 100000 in
theorem lq_548 : lwl lawC 548 = some (.aload_n 0, 1) := by decide +kernel
set_option maxRecDepth 100000 in
theorem lq_549 : lwl lawC 549 = some (.iload_n 3, 1) := by decide +kernel
set_option maxRecDepth 100000 in
theorem lq_550 : lwl lawC 550 = some (.iconst 3, 1) := by decide +kernel
set_option maxRecDepth 100000 in
theorem lq_551 : lwl lawC 551 = some (.iadd, 1) := by decide +kernel
set_option maxRecDepth 100000 in
theorem lq_552 : lwl lawC 552 = some (.iaload, 1) := by decide +kernel
set_option maxRecDepth 100000 in
theorem lq_553 : lwl lawC 553 = some (.aload_n 0, 1) := by decide +kernel
set_option maxRecDepth 100000 in
theorem lq_554 : lwl lawC 554 = some (.iload_n 3, 1) := by decide +kernel
set_option maxRecDepth 100000 in
theorem lq_555 : lwl lawC 555 = some (.iconst 4, 1) := by decide +kernel
set_option maxRecDepth 100000 in
theorem lq_556 : lwl lawC 556 = some (.iadd, 1) := by decide +kernel
set_option maxRecDepth 100000 in
theorem lq_557 : lwl lawC 557 = some (.iaload, 1) := by decide +kernel
set_option maxRecDepth 100000 in
theorem lq_558 : lwl lawC 558 = some (.aload_n 0, 1) := by decide +kernel
set_option maxRecDepth 100000 in
theorem lq_559 : lwl lawC 559 = some (.iload_n 3, 1) := by decide +kernel
set_option maxRecDepth 100000 in
theorem lq_560 : lwl lawC 560 = some (.iconst 5, 1) := by decide +kernel
set_option maxRecDepth 100000 in
theorem lq_561 : lwl lawC 561 = some (.iadd, 1) := by decide +kernel
set_option maxRecDepth 100000 in
theorem lq_562 : lwl lawC 562 = some (.iaload, 1) := by decide +kernel
set_option maxRecDepth 100000 in
theorem lq_563 : lwl lawC 563 = some (.invokevirtual 70, 3) := by decide +kernel
set_option maxRecDepth 100000 in
theorem lq_566 : lwl lawC 566 = some (.if_icmp .eq 259, 3) := by decide +kernel
set_option maxRecDepth 100000 in
theorem lq_571 : lwl lawC 571 = some (.aload_n 1, 1) := by decide +kernel
set_option maxRecDepth 100000 in
theorem lq_572 : lwl lawC 572 = some (.aload_n 0, 1) := by decide +kernel
set_option maxRecDepth 100000 in
theorem lq_573 : lwl lawC 573 = some (.iload_n 3, 1) := by decide +kernel
set_option maxRecDepth 100000 in
theorem lq_574 : lwl lawC 574 = some (.iconst 1, 1) := by decide +kernel
set_option maxRecDepth 100000 in
theorem lq_575 : lwl lawC 575 = some (.iadd, 1) := by decide +kernel
set_option maxRecDepth 100000 in
theorem lq_576 : lwl lawC 576 = some (.iaload, 1) := by decide +kernel
set_option maxRecDepth 100000 in
theorem lq_577 : lwl lawC 577 = some (.invokevirtual 71, 3) := by decide +kernel
set_option maxRecDepth 100000 in
theorem lq_580 : lwl lawC 580 = some (.aload_n 2, 1) := by decide +kernel
set_option maxRecDepth 100000 in
theorem lq_581 : lwl lawC 581 = some (.aload_n 0, 1) := by decide +kernel
set_option maxRecDepth 100000 in
theorem lq_582 : lwl lawC 582 = some (.iload_n 3, 1) := by decide +kernel
set_option maxRecDepth 100000 in
theorem lq_583 : lwl lawC 583 = some (.iconst 1, 1) := by decide +kernel
set_option maxRecDepth 100000 in
theorem lq_584 : lwl lawC 584 = some (.iadd, 1) := by decide +kernel
set_option maxRecDepth 100000 in
theorem lq_585 : lwl lawC 585 = some (.iaload, 1) := by decide +kernel
set_option maxRecDepth 100000 in
theorem lq_586 : lwl lawC 586 = some (.invokevirtual 74, 3) := by decide +kernel
set_option maxRecDepth 100000 in
theorem lq_589 : lwl lawC 589 = some (.if_icmp .eq 236, 3) := by decide +kernel
set_option maxRecDepth 100000 in
theorem lq_594 : lwl lawC 594 = some (.aload_n 1, 1) := by decide +kernel
set_option maxRecDepth 100000 in
theorem lq_595 : lwl lawC 595 = some (.aload_n 0, 1) := by decide +kernel
set_option maxRecDepth 100000 in
theorem lq_596 : lwl lawC 596 = some (.iload_n 3, 1) := by decide +kernel
set_option maxRecDepth 100000 in
theorem lq_597 : lwl lawC 597 = some (.iconst 1, 1) := by decide +kernel
set_option maxRecDepth 100000 in
theorem lq_598 : lwl lawC 598 = some (.iadd, 1) := by decide +kernel
set_option maxRecDepth 100000 in
theorem lq_599 : lwl lawC 599 = some (.iaload, 1) := by decide +kernel
set_option maxRecDepth 100000 in
theorem lq_600 : lwl lawC 600 = some (.aload_n 0, 1) := by decide +kernel
set_option maxRecDepth 100000 in
theorem lq_601 : lwl lawC 601 = some (.iload_n 3, 1) := by decide +kernel
set_option maxRecDepth 100000 in
theorem lq_602 : lwl lawC 602 = some (.iconst 2, 1) := by decide +kernel
set_option maxRecDepth 100000 in
theorem lq_603 : lwl lawC 603 = some (.iadd, 1) := by decide +kernel
set_option maxRecDepth 100000 in
theorem lq_604 : lwl lawC 604 = some (.iaload, 1) := by decide +kernel
set_option maxRecDepth 100000 in
theorem lq_605 : lwl lawC 605 = some (.aload_n 0, 1) := by decide +kernel
set_option maxRecDepth 100000 in
theorem lq_606 : lwl lawC 606 = some (.iload_n 3, 1) := by decide +kernel
set_option maxRecDepth 100000 in
theorem lq_607 : lwl lawC 607 = some (.iconst 3, 1) := by decide +kernel
set_option maxRecDepth 100000 in
theorem lq_608 : lwl lawC 608 = some (.iadd, 1) := by decide +kernel
set_option maxRecDepth 100000 in
theorem lq_609 : lwl lawC 609 = some (.iaload, 1) := by decide +kernel
set_option maxRecDepth 100000 in
theorem lq_610 : lwl lawC 610 = some (.invokevirtual 75, 3) := by decide +kernel
set_option maxRecDepth 100000 in
theorem lq_613 : lwl lawC 613 = some (.aload_n 2, 1) := by decide +kernel
set_option maxRecDepth 100000 in
theorem lq_614 : lwl lawC 614 = some (.aload_n 0, 1) := by decide +kernel
set_option maxRecDepth 100000 in
theorem lq_615 : lwl lawC 615 = some (.iload_n 3, 1) := by decide +kernel
set_option maxRecDepth 100000 in
theorem lq_616 : lwl lawC 616 = some (.iconst 1, 1) := by decide +kernel
set_option maxRecDepth 100000 in
theorem lq_617 : lwl lawC 617 = some (.iadd, 1) := by decide +kernel
set_option maxRecDepth 100000 in
theorem lq_618 : lwl lawC 618 = some (.iaload, 1) := by decide +kernel
set_option maxRecDepth 100000 in
theorem lq_619 : lwl lawC 619 = some (.aload_n 0, 1) := by decide +kernel
set_option maxRecDepth 100000 in
theorem lq_620 : lwl lawC 620 = some (.iload_n 3, 1) := by decide +kernel
set_option maxRecDepth 100000 in
theorem lq_621 : lwl lawC 621 = some (.iconst 2, 1) := by decide +kernel
set_option maxRecDepth 100000 in
theorem lq_622 : lwl lawC 622 = some (.iadd, 1) := by decide +kernel
set_option maxRecDepth 100000 in
theorem lq_623 : lwl lawC 623 = some (.iaload, 1) := by decide +kernel
set_option maxRecDepth 100000 in
theorem lq_624 : lwl lawC 624 = some (.aload_n 0, 1) := by decide +kernel
set_option maxRecDepth 100000 in
theorem lq_625 : lwl lawC 625 = some (.iload_n 3, 1) := by decide +kernel
set_option maxRecDepth 100000 in
theorem lq_626 : lwl lawC 626 = some (.iconst 3, 1) := by decide +kernel
set_option maxRecDepth 100000 in
theorem lq_627 : lwl lawC 627 = some (.iadd, 1) := by decide +kernel
set_option maxRecDepth 100000 in
theorem lq_628 : lwl lawC 628 = some (.iaload, 1) := by decide +kernel
set_option maxRecDepth 100000 in
theorem lq_629 : lwl lawC 629 = some (.invokevirtual 78, 3) := by decide +kernel
set_option maxRecDepth 100000 in
theorem lq_632 : lwl lawC 632 = some (.if_icmp .eq 193, 3) := by decide +kernel
set_option maxRecDepth 100000 in
theorem lq_637 : lwl lawC 637 = some (.aload_n 1, 1) := by decide +kernel
set_option maxRecDepth 100000 in
theorem lq_638 : lwl lawC 638 = some (.invokevirtual 79, 3) := by decide +kernel
set_option maxRecDepth 100000 in
theorem lq_641 : lwl lawC 641 = some (.aload_n 2, 1) := by decide +kernel
set_option maxRecDepth 100000 in
theorem lq_642 : lwl lawC 642 = some (.invokevirtual 82, 3) := by decide +kernel
set_option maxRecDepth 100000 in
theorem lq_645 : lwl lawC 645 = some (.if_icmp .eq 180, 3) := by decide +kernel
set_option maxRecDepth 100000 in
theorem lq_650 : lwl lawC 650 = some (.aload_n 1, 1) := by decide +kernel
set_option maxRecDepth 100000 in
theorem lq_651 : lwl lawC 651 = some (.aload_n 0, 1) := by decide +kernel
set_option maxRecDepth 100000 in
theorem lq_652 : lwl lawC 652 = some (.iload_n 3, 1) := by decide +kernel
set_option maxRecDepth 100000 in
theorem lq_653 : lwl lawC 653 = some (.iconst 1, 1) := by decide +kernel
set_option maxRecDepth 100000 in
theorem lq_654 : lwl lawC 654 = some (.iadd, 1) := by decide +kernel
set_option maxRecDepth 100000 in
theorem lq_655 : lwl lawC 655 = some (.iaload, 1) := by decide +kernel
set_option maxRecDepth 100000 in
theorem lq_656 : lwl lawC 656 = some (.invokevirtual 83, 3) := by decide +kernel
set_option maxRecDepth 100000 in
theorem lq_659 : lwl lawC 659 = some (.aload_n 2, 1) := by decide +kernel
set_option maxRecDepth 100000 in
theorem lq_660 : lwl lawC 660 = some (.aload_n 0, 1) := by decide +kernel
set_option maxRecDepth 100000 in
theorem lq_661 : lwl lawC 661 = some (.iload_n 3, 1) := by decide +kernel
set_option maxRecDepth 100000 in
theorem lq_662 : lwl lawC 662 = some (.iconst 1, 1) := by decide +kernel
set_option maxRecDepth 100000 in
theorem lq_663 : lwl lawC 663 = some (.iadd, 1) := by decide +kernel
set_option maxRecDepth 100000 in
theorem lq_664 : lwl lawC 664 = some (.iaload, 1) := by decide +kernel
set_option maxRecDepth 100000 in
theorem lq_665 : lwl lawC 665 = some (.invokevirtual 86, 3) := by decide +kernel
set_option maxRecDepth 100000 in
theorem lq_668 : lwl lawC 668 = some (.if_icmp .eq 157, 3) := by decide +kernel
set_option maxRecDepth 100000 in
theorem lq_673 : lwl lawC 673 = some (.aload_n 1, 1) := by decide +kernel
set_option maxRecDepth 100000 in
theorem lq_674 : lwl lawC 674 = some (.aload_n 0, 1) := by decide +kernel
set_option maxRecDepth 100000 in
theorem lq_675 : lwl lawC 675 = some (.iload_n 3, 1) := by decide +kernel
set_option maxRecDepth 100000 in
theorem lq_676 : lwl lawC 676 = some (.iconst 1, 1) := by decide +kernel
set_option maxRecDepth 100000 in
theorem lq_677 : lwl lawC 677 = some (.iadd, 1) := by decide +kernel
set_option maxRecDepth 100000 in
theorem lq_678 : lwl lawC 678 = some (.iaload, 1) := by decide +kernel
set_option maxRecDepth 100000 in
theorem lq_679 : lwl lawC 679 = some (.aload_n 0, 1) := by decide +kernel
set_option maxRecDepth 100000 in
theorem lq_680 : lwl lawC 680 = some (.iload_n 3, 1) := by decide +kernel
set_option maxRecDepth 100000 in
theorem lq_681 : lwl lawC 681 = some (.iconst 2, 1) := by decide +kernel
set_option maxRecDepth 100000 in
theorem lq_682 : lwl lawC 682 = some (.iadd, 1) := by decide +kernel
set_option maxRecDepth 100000 in
theorem lq_683 : lwl lawC 683 = some (.iaload, 1) := by decide +kernel
set_option maxRecDepth 100000 in
theorem lq_684 : lwl lawC 684 = some (.aload_n 0, 1) := by decide +kernel
set_option maxRecDepth 100000 in
theorem lq_685 : lwl lawC 685 = some (.iload_n 3, 1) := by decide +kernel
set_option maxRecDepth 100000 in
theorem lq_686 : lwl lawC 686 = some (.iconst 3, 1) := by decide +kernel
set_option maxRecDepth 100000 in
theorem lq_687 : lwl lawC 687 = some (.iadd, 1) := by decide +kernel
set_option maxRecDepth 100000 in
theorem lq_688 : lwl lawC 688 = some (.iaload, 1) := by decide +kernel
set_option maxRecDepth 100000 in
theorem lq_689 : lwl lawC 689 = some (.aload_n 0, 1) := by decide +kernel
set_option maxRecDepth 100000 in
theorem lq_690 : lwl lawC 690 = some (.iload_n 3, 1) := by decide +kernel
set_option maxRecDepth 100000 in
theorem lq_691 : lwl lawC 691 = some (.iconst 4, 1) := by decide +kernel
set_option maxRecDepth 100000 in
theorem lq_692 : lwl lawC 692 = some (.iadd, 1) := by decide +kernel
set_option maxRecDepth 100000 in
theorem lq_693 : lwl lawC 693 = some (.iaload, 1) := by decide +kernel
set_option maxRecDepth 100000 in
theorem lq_694 : lwl lawC 694 = some (.aload_n 0, 1) := by decide +kernel
set_option maxRecDepth 100000 in
theorem lq_695 : lwl lawC 695 = some (.iload_n 3, 1) := by decide +kernel
set_option maxRecDepth 100000 in
theorem lq_696 : lwl lawC 696 = some (.iconst 5, 1) := by decide +kernel
set_option maxRecDepth 100000 in
theorem lq_697 : lwl lawC 697 = some (.iadd, 1) := by decide +kernel
set_option maxRecDepth 100000 in
theorem lq_698 : lwl lawC 698 = some (.iaload, 1) := by decide +kernel
set_option maxRecDepth 100000 in
theorem lq_699 : lwl lawC 699 = some (.invokevirtual 87, 3) := by decide +kernel
set_option maxRecDepth 100000 in
theorem lq_702 : lwl lawC 702 = some (.aload_n 2, 1) := by decide +kernel
set_option maxRecDepth 100000 in
theorem lq_703 : lwl lawC 703 = some (.aload_n 0, 1) := by decide +kernel
set_option maxRecDepth 100000 in
theorem lq_704 : lwl lawC 704 = some (.iload_n 3, 1) := by decide +kernel
set_option maxRecDepth 100000 in
theorem lq_705 : lwl lawC 705 = some (.iconst 1, 1) := by decide +kernel
set_option maxRecDepth 100000 in
theorem lq_706 : lwl lawC 706 = some (.iadd, 1) := by decide +kernel
set_option maxRecDepth 100000 in
theorem lq_707 : lwl lawC 707 = some (.iaload, 1) := by decide +kernel
set_option maxRecDepth 100000 in
theorem lq_708 : lwl lawC 708 = some (.aload_n 0, 1) := by decide +kernel
set_option maxRecDepth 100000 in
theorem lq_709 : lwl lawC 709 = some (.iload_n 3, 1) := by decide +kernel
set_option maxRecDepth 100000 in
theorem lq_710 : lwl lawC 710 = some (.iconst 2, 1) := by decide +kernel
set_option maxRecDepth 100000 in
theorem lq_711 : lwl lawC 711 = some (.iadd, 1) := by decide +kernel
set_option maxRecDepth 100000 in
theorem lq_712 : lwl lawC 712 = some (.iaload, 1) := by decide +kernel
set_option maxRecDepth 100000 in
theorem lq_713 : lwl lawC 713 = some (.aload_n 0, 1) := by decide +kernel
set_option maxRecDepth 100000 in
theorem lq_714 : lwl lawC 714 = some (.iload_n 3, 1) := by decide +kernel
set_option maxRecDepth 100000 in
theorem lq_715 : lwl lawC 715 = some (.iconst 3, 1) := by decide +kernel
set_option maxRecDepth 100000 in
theorem lq_716 : lwl lawC 716 = some (.iadd, 1) := by decide +kernel
set_option maxRecDepth 100000 in
theorem lq_717 : lwl lawC 717 = some (.iaload, 1) := by decide +kernel
set_option maxRecDepth 100000 in
theorem lq_718 : lwl lawC 718 = some (.aload_n 0, 1) := by decide +kernel
set_option maxRecDepth 100000 in
theorem lq_719 : lwl lawC 719 = some (.iload_n 3, 1) := by decide +kernel
set_option maxRecDepth 100000 in
theorem lq_720 : lwl lawC 720 = some (.iconst 4, 1) := by decide +kernel
set_option maxRecDepth 100000 in
theorem lq_721 : lwl lawC 721 = some (.iadd, 1) := by decide +kernel
set_option maxRecDepth 100000 in
theorem lq_722 : lwl lawC 722 = some (.iaload, 1) := by decide +kernel
set_option maxRecDepth 100000 in
theorem lq_723 : lwl lawC 723 = some (.aload_n 0, 1) := by decide +kernel
set_option maxRecDepth 100000 in
theorem lq_724 : lwl lawC 724 = some (.iload_n 3, 1) := by decide +kernel
set_option maxRecDepth 100000 in
theorem lq_725 : lwl lawC 725 = some (.iconst 5, 1) := by decide +kernel
set_option maxRecDepth 100000 in
theorem lq_726 : lwl lawC 726 = some (.iadd, 1) := by decide +kernel
set_option maxRecDepth 100000 in
theorem lq_727 : lwl lawC 727 = some (.iaload, 1) := by decide +kernel
set_option maxRecDepth 100000 in
theorem lq_728 : lwl lawC 728 = some (.invokevirtual 90, 3) := by decide +kernel
set_option maxRecDepth 100000 in
theorem lq_731 : lwl lawC 731 = some (.if_icmp .eq 94, 3) := by decide +kernel
set_option maxRecDepth 100000 in
theorem lq_736 : lwl lawC 736 = some (.aload_n 1, 1) := by decide +kernel
set_option maxRecDepth 100000 in
theorem lq_737 : lwl lawC 737 = some (.aload_n 0, 1) := by decide +kernel
set_option maxRecDepth 100000 in
theorem lq_738 : lwl lawC 738 = some (.iload_n 3, 1) := by decide +kernel
set_option maxRecDepth 100000 in
theorem lq_739 : lwl lawC 739 = some (.iconst 1, 1) := by decide +kernel
set_option maxRecDepth 100000 in
theorem lq_740 : lwl lawC 740 = some (.iadd, 1) := by decide +kernel
set_option maxRecDepth 100000 in
theorem lq_741 : lwl lawC 741 = some (.iaload, 1) := by decide +kernel
set_option maxRecDepth 100000 in
theorem lq_742 : lwl lawC 742 = some (.aload_n 0, 1) := by decide +kernel
set_option maxRecDepth 100000 in
theorem lq_743 : lwl lawC 743 = some (.iload_n 3, 1) := by decide +kernel
set_option maxRecDepth 100000 in
theorem lq_744 : lwl lawC 744 = some (.iconst 2, 1) := by decide +kernel
set_option maxRecDepth 100000 in
theorem lq_745 : lwl lawC 745 = some (.iadd, 1) := by decide +kernel
set_option maxRecDepth 100000 in
theorem lq_746 : lwl lawC 746 = some (.iaload, 1) := by decide +kernel
set_option maxRecDepth 100000 in
theorem lq_747 : lwl lawC 747 = some (.aload_n 0, 1) := by decide +kernel
set_option maxRecDepth 100000 in
theorem lq_748 : lwl lawC 748 = some (.iload_n 3, 1) := by decide +kernel
set_option maxRecDepth 100000 in
theorem lq_749 : lwl lawC 749 = some (.iconst 3, 1) := by decide +kernel
set_option maxRecDepth 100000 in
theorem lq_750 : lwl lawC 750 = some (.iadd, 1) := by decide +kernel
set_option maxRecDepth 100000 in
theorem lq_751 : lwl lawC 751 = some (.iaload, 1) := by decide +kernel
set_option maxRecDepth 100000 in
theorem lq_752 : lwl lawC 752 = some (.aload_n 0, 1) := by decide +kernel
set_option maxRecDepth 100000 in
theorem lq_753 : lwl lawC 753 = some (.iload_n 3, 1) := by decide +kernel
set_option maxRecDepth 100000 in
theorem lq_754 : lwl lawC 754 = some (.iconst 4, 1) := by decide +kernel
set_option maxRecDepth 100000 in
theorem lq_755 : lwl lawC 755 = some (.iadd, 1) := by decide +kernel
set_option maxRecDepth 100000 in
theorem lq_756 : lwl lawC 756 = some (.iaload, 1) := by decide +kernel
set_option maxRecDepth 100000 in
theorem lq_757 : lwl lawC 757 = some (.invokevirtual 91, 3) := by decide +kernel
set_option maxRecDepth 100000 in
theorem lq_760 : lwl lawC 760 = some (.aload_n 2, 1) := by decide +kernel
set_option maxRecDepth 100000 in
theorem lq_761 : lwl lawC 761 = some (.aload_n 0, 1) := by decide +kernel
set_option maxRecDepth 100000 in
theorem lq_762 : lwl lawC 762 = some (.iload_n 3, 1) := by decide +kernel
set_option maxRecDepth 100000 in
theorem lq_763 : lwl lawC 763 = some (.iconst 1, 1) := by decide +kernel
set_option maxRecDepth 100000 in
theorem lq_764 : lwl lawC 764 = some (.iadd, 1) := by decide +kernel
set_option maxRecDepth 100000 in
theorem lq_765 : lwl lawC 765 = some (.iaload, 1) := by decide +kernel
set_option maxRecDepth 100000 in
theorem lq_766 : lwl lawC 766 = some (.aload_n 0, 1) := by decide +kernel
set_option maxRecDepth 100000 in
theorem lq_767 : lwl lawC 767 = some (.iload_n 3, 1) := by decide +kernel
set_option maxRecDepth 100000 in
theorem lq_768 : lwl lawC 768 = some (.iconst 2, 1) := by decide +kernel
set_option maxRecDepth 100000 in
theorem lq_769 : lwl lawC 769 = some (.iadd, 1) := by decide +kernel
set_option maxRecDepth 100000 in
theorem lq_770 : lwl lawC 770 = some (.iaload, 1) := by decide +kernel
set_option maxRecDepth 100000 in
theorem lq_771 : lwl lawC 771 = some (.aload_n 0, 1) := by decide +kernel
set_option maxRecDepth 100000 in
theorem lq_772 : lwl lawC 772 = some (.iload_n 3, 1) := by decide +kernel
set_option maxRecDepth 100000 in
theorem lq_773 : lwl lawC 773 = some (.iconst 3, 1) := by decide +kernel
set_option maxRecDepth 100000 in
theorem lq_774 : lwl lawC 774 = some (.iadd, 1) := by decide +kernel
set_option maxRecDepth 100000 in
theorem lq_775 : lwl lawC 775 = some (.iaload, 1) := by decide +kernel
set_option maxRecDepth 100000 in
theorem lq_776 : lwl lawC 776 = some (.aload_n 0, 1) := by decide +kernel
set_option maxRecDepth 100000 in
theorem lq_777 : lwl lawC 777 = some (.iload_n 3, 1) := by decide +kernel
set_option maxRecDepth 100000 in
theorem lq_778 : lwl lawC 778 = some (.iconst 4, 1) := by decide +kernel
set_option maxRecDepth 100000 in
theorem lq_779 : lwl lawC 779 = some (.iadd, 1) := by decide +kernel
set_option maxRecDepth 100000 in
theorem lq_780 : lwl lawC 780 = some (.iaload, 1) := by decide +kernel
set_option maxRecDepth 100000 in
theorem lq_781 : lwl lawC 781 = some (.invokevirtual 94, 3) := by decide +kernel
set_option maxRecDepth 100000 in
theorem lq_784 : lwl lawC 784 = some (.if_icmp .eq 41, 3) := by decide +kernel
set_option maxRecDepth 100000 in
theorem lq_789 : lwl lawC 789 = some (.aload_n 1, 1) := by decide +kernel
set_option maxRecDepth 100000 in
theorem lq_790 : lwl lawC 790 = some (.invokevirtual 95, 3) := by decide +kernel
set_option maxRecDepth 100000 in
theorem lq_793 : lwl lawC 793 = some (.aload_n 2, 1) := by decide +kernel
set_option maxRecDepth 100000 in
theorem lq_794 : lwl lawC 794 = some (.invokevirtual 98, 3) := by decide +kernel
set_option maxRecDepth 100000 in
theorem lq_797 : lwl lawC 797 = some (.if_icmp .eq 28, 3) := by decide +kernel
set_option maxRecDepth 100000 in
theorem lq_802 : lwl lawC 802 = some (.aload_n 1, 1) := by decide +kernel
set_option maxRecDepth 100000 in
theorem lq_803 : lwl lawC 803 = some (.aload_n 0, 1) := by decide +kernel
set_option maxRecDepth 100000 in
theorem lq_804 : lwl lawC 804 = some (.iload_n 3, 1) := by decide +kernel
set_option maxRecDepth 100000 in
theorem lq_805 : lwl lawC 805 = some (.iconst 1, 1) := by decide +kernel
set_option maxRecDepth 100000 in
theorem lq_806 : lwl lawC 806 = some (.iadd, 1) := by decide +kernel
set_option maxRecDepth 100000 in
theorem lq_807 : lwl lawC 807 = some (.iaload, 1) := by decide +kernel
set_option maxRecDepth 100000 in
theorem lq_808 : lwl lawC 808 = some (.invokevirtual 99, 3) := by decide +kernel
set_option maxRecDepth 100000 in
theorem lq_811 : lwl lawC 811 = some (.aload_n 2, 1) := by decide +kernel
set_option maxRecDepth 100000 in
theorem lq_812 : lwl lawC 812 = some (.aload_n 0, 1) := by decide +kernel
set_option maxRecDepth 100000 in
theorem lq_813 : lwl lawC 813 = some (.iload_n 3, 1) := by decide +kernel
set_option maxRecDepth 100000 in
theorem lq_814 : lwl lawC 814 = some (.iconst 1, 1) := by decide +kernel
set_option maxRecDepth 100000 in
theorem lq_815 : lwl lawC 815 = some (.iadd, 1) := by decide +kernel
set_option maxRecDepth 100000 in
theorem lq_816 : lwl lawC 816 = some (.iaload, 1) := by decide +kernel
set_option maxRecDepth 100000 in
theorem lq_817 : lwl lawC 817 = some (.invokevirtual 102, 3) := by decide +kernel
set_option maxRecDepth 100000 in
theorem lq_820 : lwl lawC 820 = some (.if_icmp .eq 5, 3) := by decide +kernel
set_option maxRecDepth 100000 in
theorem lq_825 : lwl lawC 825 = some (.iinc 3 6, 3) := by decide +kernel
set_option maxRecDepth 100000 in
theorem lq_828 : lwl lawC 828 = some (.goto (-810), 3) := by decide +kernel
set_option maxRecDepth 100000 in
theorem lq_831 : lwl lawC 831 = some (.iconst 1, 1) := by decide +kernel
set_option maxRecDepth 100000 in
theorem lq_832 : lwl lawC 832 = some (.ireturn, 1) := by decide +kernel
