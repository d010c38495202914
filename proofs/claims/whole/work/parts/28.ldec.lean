theorem dd_La_cell_0 : decode bb_La_cell 0 = .ok (.iload_n 1, 1) := by decide +kernel
theorem dd_La_cell_1 : decode bb_La_cell 1 = .ok (.aload_n 0, 1) := by decide +kernel
theorem dd_La_cell_2 : decode bb_La_cell 2 = .ok (.arraylength, 1) := by decide +kernel
theorem dd_La_cell_3 : decode bb_La_cell 3 = .ok (.if_icmp .ge 9, 3) := by decide +kernel
theorem dd_La_cell_6 : decode bb_La_cell 6 = .ok (.aload_n 0, 1) := by decide +kernel
theorem dd_La_cell_7 : decode bb_La_cell 7 = .ok (.iload_n 1, 1) := by decide +kernel
theorem dd_La_cell_8 : decode bb_La_cell 8 = .ok (.iaload, 1) := by decide +kernel
theorem dd_La_cell_9 : decode bb_La_cell 9 = .ok (.goto 4, 3) := by decide +kernel
theorem dd_La_cell_12 : decode bb_La_cell 12 = .ok (.iconst 0, 1) := by decide +kernel
theorem dd_La_cell_13 : decode bb_La_cell 13 = .ok (.ireturn, 1) := by decide +kernel
theorem dd_La_law_0 : decode bb_La_law 0 = .ok (.new 7, 3) := by decide +kernel
theorem dd_La_law_3 : decode bb_La_law 3 = .ok (.dup, 1) := by decide +kernel
theorem dd_La_law_4 : decode bb_La_law 4 = .ok (.aload_n 0, 1) := by decide +kernel
theorem dd_La_law_5 : decode bb_La_law 5 = .ok (.iconst 0, 1) := by decide +kernel
theorem dd_La_law_6 : decode bb_La_law 6 = .ok (.invokestatic 9, 3) := by decide +kernel
theorem dd_La_law_9 : decode bb_La_law 9 = .ok (.invokespecial 15, 3) := by decide +kernel
theorem dd_La_law_12 : decode bb_La_law 12 = .ok (.astore_n 1, 1) := by decide +kernel
theorem dd_La_law_13 : decode bb_La_law 13 = .ok (.new 18, 3) := by decide +kernel
theorem dd_La_law_16 : decode bb_La_law 16 = .ok (.dup, 1) := by decide +kernel
theorem dd_La_law_17 : decode bb_La_law 17 = .ok (.aload_n 0, 1) := by decide +kernel
theorem dd_La_law_18 : decode bb_La_law 18 = .ok (.iconst 0, 1) := by decide +kernel
theorem dd_La_law_19 : decode bb_La_law 19 = .ok (.invokestatic 9, 3) := by decide +kernel
theorem dd_La_law_22 : decode bb_La_law 22 = .ok (.invokespecial 20, 3) := by decide +kernel
theorem dd_La_law_25 : decode bb_La_law 25 = .ok (.astore_n 2, 1) := by decide +kernel
theorem dd_La_law_26 : decode bb_La_law 26 = .ok (.iconst 1, 1) := by decide +kernel
theorem dd_La_law_27 : decode bb_La_law 27 = .ok (.istore_n 3, 1) := by decide +kernel
theorem dd_La_law_28 : decode bb_La_law 28 = .ok (.iload_n 3, 1) := by decide +kernel
theorem dd_La_law_29 : decode bb_La_law 29 = .ok (.aload_n 0, 1) := by decide +kernel
theorem dd_La_law_30 : decode bb_La_law 30 = .ok (.arraylength, 1) := by decide +kernel
theorem dd_La_law_31 : decode bb_La_law 31 = .ok (.iconst 5, 1) := by decide +kernel
theorem dd_La_law_32 : decode bb_La_law 32 = .ok (.isub, 1) := by decide +kernel
theorem dd_La_law_33 : decode bb_La_law 33 = .ok (.if_icmp .gt 590, 3) := by decide +kernel
theorem dd_La_law_36 : decode bb_La_law 36 = .ok (.aload_n 0, 1) := by decide +kernel
theorem dd_La_law_37 : decode bb_La_law 37 = .ok (.iload_n 3, 1) := by decide +kernel
theorem dd_La_law_38 : decode bb_La_law 38 = .ok (.iaload, 1) := by decide +kernel
theorem dd_La_law_39 : decode bb_La_law 39 = .ok (.bipush 31, 2) := by decide +kernel
theorem dd_La_law_41 : decode bb_La_law 41 = .ok (.iand, 1) := by decide +kernel
theorem dd_La_law_42 : decode bb_La_law 42 = .ok (.tableswitch 575 0 16 #[82, 155, 188, 202, 225, 248, 291, 324, 347, 370, 403, 426, 449, 483, 516, 539, 562], 82) := by decide +kernel
theorem dd_La_law_124 : decode bb_La_law 124 = .ok (.aload_n 1, 1) := by decide +kernel
theorem dd_La_law_125 : decode bb_La_law 125 = .ok (.aload_n 0, 1) := by decide +kernel
theorem dd_La_law_126 : decode bb_La_law 126 = .ok (.iload_n 3, 1) := by decide +kernel
theorem dd_La_law_127 : decode bb_La_law 127 = .ok (.iconst 1, 1) := by decide +kernel
theorem dd_La_law_128 : decode bb_La_law 128 = .ok (.iadd, 1) := by decide +kernel
theorem dd_La_law_129 : decode bb_La_law 129 = .ok (.iaload, 1) := by decide +kernel
theorem dd_La_law_130 : decode bb_La_law 130 = .ok (.aload_n 0, 1) := by decide +kernel
theorem dd_La_law_131 : decode bb_La_law 131 = .ok (.iload_n 3, 1) := by decide +kernel
theorem dd_La_law_132 : decode bb_La_law 132 = .ok (.iconst 2, 1) := by decide +kernel
theorem dd_La_law_133 : decode bb_La_law 133 = .ok (.iadd, 1) := by decide +kernel
theorem dd_La_law_134 : decode bb_La_law 134 = .ok (.iaload, 1) := by decide +kernel
theorem dd_La_law_135 : decode bb_La_law 135 = .ok (.aload_n 0, 1) := by decide +kernel
theorem dd_La_law_136 : decode bb_La_law 136 = .ok (.iload_n 3, 1) := by decide +kernel
theorem dd_La_law_137 : decode bb_La_law 137 = .ok (.iconst 3, 1) := by decide +kernel
theorem dd_La_law_138 : decode bb_La_law 138 = .ok (.iadd, 1) := by decide +kernel
theorem dd_La_law_139 : decode bb_La_law 139 = .ok (.iaload, 1) := by decide +kernel
theorem dd_La_law_140 : decode bb_La_law 140 = .ok (.i2l, 1) := by decide +kernel
theorem dd_La_law_141 : decode bb_La_law 141 = .ok (.bipush 32, 2) := by decide +kernel
theorem dd_La_law_143 : decode bb_La_law 143 = .ok (.lshl, 1) := by decide +kernel
theorem dd_La_law_144 : decode bb_La_law 144 = .ok (.aload_n 0, 1) := by decide +kernel
theorem dd_La_law_145 : decode bb_La_law 145 = .ok (.iload_n 3, 1) := by decide +kernel
theorem dd_La_law_146 : decode bb_La_law 146 = .ok (.iconst 4, 1) := by decide +kernel
theorem dd_La_law_147 : decode bb_La_law 147 = .ok (.iadd, 1) := by decide +kernel
theorem dd_La_law_148 : decode bb_La_law 148 = .ok (.iaload, 1) := by decide +kernel
theorem dd_La_law_149 : decode bb_La_law 149 = .ok (.i2l, 1) := by decide +kernel
theorem dd_La_law_150 : decode bb_La_law 150 = .ok (.ldc2_w 21, 3) := by decide +kernel
theorem dd_La_law_153 : decode bb_La_law 153 = .ok (.land, 1) := by decide +kernel
theorem dd_La_law_154 : decode bb_La_law 154 = .ok (.lor, 1) := by decide +kernel
theorem dd_La_law_155 : decode bb_La_law 155 = .ok (.invokevirtual 23, 3) := by decide +kernel
theorem dd_La_law_158 : decode bb_La_law 158 = .ok (.aload_n 2, 1) := by decide +kernel
theorem dd_La_law_159 : decode bb_La_law 159 = .ok (.aload_n 0, 1) := by decide +kernel
theorem dd_La_law_160 : decode bb_La_law 160 = .ok (.iload_n 3, 1) := by decide +kernel
theorem dd_La_law_161 : decode bb_La_law 161 = .ok (.iconst 1, 1) := by decide +kernel
theorem dd_La_law_162 : decode bb_La_law 162 = .ok (.iadd, 1) := by decide +kernel
theorem dd_La_law_163 : decode bb_La_law 163 = .ok (.iaload, 1) := by decide +kernel
theorem dd_La_law_164 : decode bb_La_law 164 = .ok (.aload_n 0, 1) := by decide +kernel
theorem dd_La_law_165 : decode bb_La_law 165 = .ok (.iload_n 3, 1) := by decide +kernel
theorem dd_La_law_166 : decode bb_La_law 166 = .ok (.iconst 2, 1) := by decide +kernel
theorem dd_La_law_167 : decode bb_La_law 167 = .ok (.iadd, 1) := by decide +kernel
theorem dd_La_law_168 : decode bb_La_law 168 = .ok (.iaload, 1) := by decide +kernel
theorem dd_La_law_169 : decode bb_La_law 169 = .ok (.aload_n 0, 1) := by decide +kernel
theorem dd_La_law_170 : decode bb_La_law 170 = .ok (.iload_n 3, 1) := by decide +kernel
theorem dd_La_law_171 : decode bb_La_law 171 = .ok (.iconst 3, 1) := by decide +kernel
theorem dd_La_law_172 : decode bb_La_law 172 = .ok (.iadd, 1) := by decide +kernel
theorem dd_La_law_173 : decode bb_La_law 173 = .ok (.iaload, 1) := by decide +kernel
theorem dd_La_law_174 : decode bb_La_law 174 = .ok (.i2l, 1) := by decide +kernel
theorem dd_La_law_175 : decode bb_La_law 175 = .ok (.bipush 32, 2) := by decide +kernel
theorem dd_La_law_177 : decode bb_La_law 177 = .ok (.lshl, 1) := by decide +kernel
theorem dd_La_law_178 : decode bb_La_law 178 = .ok (.aload_n 0, 1) := by decide +kernel
theorem dd_La_law_179 : decode bb_La_law 179 = .ok (.iload_n 3, 1) := by decide +kernel
theorem dd_La_law_180 : decode bb_La_law 180 = .ok (.iconst 4, 1) := by decide +kernel
theorem dd_La_law_181 : decode bb_La_law 181 = .ok (.iadd, 1) := by decide +kernel
theorem dd_La_law_182 : decode bb_La_law 182 = .ok (.iaload, 1) := by decide +kernel
theorem dd_La_law_183 : decode bb_La_law 183 = .ok (.i2l, 1) := by decide +kernel
theorem dd_La_law_184 : decode bb_La_law 184 = .ok (.ldc2_w 21, 3) := by decide +kernel
theorem dd_La_law_187 : decode bb_La_law 187 = .ok (.land, 1) := by decide +kernel
theorem dd_La_law_188 : decode bb_La_law 188 = .ok (.lor, 1) := by decide +kernel
theorem dd_La_law_189 : decode bb_La_law 189 = .ok (.invokevirtual 27, 3) := by decide +kernel
theorem dd_La_law_192 : decode bb_La_law 192 = .ok (.if_icmp .eq 425, 3) := by decide +kernel
theorem dd_La_law_195 : decode bb_La_law 195 = .ok (.iconst 0, 1) := by decide +kernel
theorem dd_La_law_196 : decode bb_La_law 196 = .ok (.ireturn, 1) := by decide +kernel
theorem dd_La_law_197 : decode bb_La_law 197 = .ok (.aload_n 1, 1) := by decide +kernel
theorem dd_La_law_198 : decode bb_La_law 198 = .ok (.aload_n 0, 1) := by decide +kernel
theorem dd_La_law_199 : decode bb_La_law 199 = .ok (.iload_n 3, 1) := by decide +kernel
theorem dd_La_law_200 : decode bb_La_law 200 = .ok (.iconst 1, 1) := by decide +kernel
theorem dd_La_law_201 : decode bb_La_law 201 = .ok (.iadd, 1) := by decide +kernel
theorem dd_La_law_202 : decode bb_La_law 202 = .ok (.iaload, 1) := by decide +kernel
theorem dd_La_law_203 : decode bb_La_law 203 = .ok (.aload_n 0, 1) := by decide +kernel
theorem dd_La_law_204 : decode bb_La_law 204 = .ok (.iload_n 3, 1) := by decide +kernel
theorem dd_La_law_205 : decode bb_La_law 205 = .ok (.iconst 2, 1) := by decide +kernel
theorem dd_La_law_206 : decode bb_La_law 206 = .ok (.iadd, 1) := by decide +kernel
theorem dd_La_law_207 : decode bb_La_law 207 = .ok (.iaload, 1) := by decide +kernel
theorem dd_La_law_208 : decode bb_La_law 208 = .ok (.invokevirtual 28, 3) := by decide +kernel
theorem dd_La_law_211 : decode bb_La_law 211 = .ok (.aload_n 2, 1) := by decide +kernel
theorem dd_La_law_212 : decode bb_La_law 212 = .ok (.aload_n 0, 1) := by decide +kernel
theorem dd_La_law_213 : decode bb_La_law 213 = .ok (.iload_n 3, 1) := by decide +kernel
theorem dd_La_law_214 : decode bb_La_law 214 = .ok (.iconst 1, 1) := by decide +kernel
theorem dd_La_law_215 : decode bb_La_law 215 = .ok (.iadd, 1) := by decide +kernel
theorem dd_La_law_216 : decode bb_La_law 216 = .ok (.iaload, 1) := by decide +kernel
theorem dd_La_law_217 : decode bb_La_law 217 = .ok (.aload_n 0, 1) := by decide +kernel
theorem dd_La_law_218 : decode bb_La_law 218 = .ok (.iload_n 3, 1) := by decide +kernel
theorem dd_La_law_219 : decode bb_La_law 219 = .ok (.iconst 2, 1) := by decide +kernel
theorem dd_La_law_220 : decode bb_La_law 220 = .ok (.iadd, 1) := by decide +kernel
theorem dd_La_law_221 : decode bb_La_law 221 = .ok (.iaload, 1) := by decide +kernel
theorem dd_La_law_222 : decode bb_La_law 222 = .ok (.invokevirtual 32, 3) := by decide +kernel
theorem dd_La_law_225 : decode bb_La_law 225 = .ok (.if_icmp .eq 392, 3) := by decide +kernel
theorem dd_La_law_228 : decode bb_La_law 228 = .ok (.iconst 0, 1) := by decide +kernel
theorem dd_La_law_229 : decode bb_La_law 229 = .ok (.ireturn, 1) := by decide +kernel
theorem dd_La_law_230 : decode bb_La_law 230 = .ok (.aload_n 1, 1) := by decide +kernel
theorem dd_La_law_231 : decode bb_La_law 231 = .ok (.invokevirtual 33, 3) := by decide +kernel
theorem dd_La_law_234 : decode bb_La_law 234 = .ok (.aload_n 2, 1) := by decide +kernel
theorem dd_La_law_235 : decode bb_La_law 235 = .ok (.invokevirtual 37, 3) := by decide +kernel
theorem dd_La_law_238 : decode bb_La_law 238 = .ok (.lcmp, 1) := by decide +kernel
theorem dd_La_law_239 : decode bb_La_law 239 = .ok (.ifCond .eq 378, 3) := by decide +kernel
theorem dd_La_law_242 : decode bb_La_law 242 = .ok (.iconst 0, 1) := by decide +kernel
theorem dd_La_law_243 : decode bb_La_law 243 = .ok (.ireturn, 1) := by decide +kernel
theorem dd_La_law_244 : decode bb_La_law 244 = .ok (.aload_n 1, 1) := by decide +kernel
theorem dd_La_law_245 : decode bb_La_law 245 = .ok (.aload_n 0, 1) := by decide +kernel
theorem dd_La_law_246 : decode bb_La_law 246 = .ok (.iload_n 3, 1) := by decide +kernel
theorem dd_La_law_247 : decode bb_La_law 247 = .ok (.iconst 1, 1) := by decide +kernel
theorem dd_La_law_248 : decode bb_La_law 248 = .ok (.iadd, 1) := by decide +kernel
theorem dd_La_law_249 : decode bb_La_law 249 = .ok (.iaload, 1) := by decide +kernel
theorem dd_La_law_250 : decode bb_La_law 250 = .ok (.invokevirtual 38, 3) := by decide +kernel
theorem dd_La_law_253 : decode bb_La_law 253 = .ok (.aload_n 2, 1) := by decide +kernel
theorem dd_La_law_254 : decode bb_La_law 254 = .ok (.aload_n 0, 1) := by decide +kernel
theorem dd_La_law_255 : decode bb_La_law 255 = .ok (.iload_n 3, 1) := by decide +kernel
theorem dd_La_law_256 : decode bb_La_law 256 = .ok (.iconst 1, 1) := by decide +kernel
theorem dd_La_law_257 : decode bb_La_law 257 = .ok (.iadd, 1) := by decide +kernel
theorem dd_La_law_258 : decode bb_La_law 258 = .ok (.iaload, 1) := by decide +kernel
theorem dd_La_law_259 : decode bb_La_law 259 = .ok (.invokevirtual 42, 3) := by decide +kernel
theorem dd_La_law_262 : decode bb_La_law 262 = .ok (.if_icmp .eq 355, 3) := by decide +kernel
theorem dd_La_law_265 : decode bb_La_law 265 = .ok (.iconst 0, 1) := by decide +kernel
theorem dd_La_law_266 : decode bb_La_law 266 = .ok (.ireturn, 1) := by decide +kernel
theorem dd_La_law_267 : decode bb_La_law 267 = .ok (.aload_n 1, 1) := by decide +kernel
theorem dd_La_law_268 : decode bb_La_law 268 = .ok (.aload_n 0, 1) := by decide +kernel
theorem dd_La_law_269 : decode bb_La_law 269 = .ok (.iload_n 3, 1) := by decide +kernel
theorem dd_La_law_270 : decode bb_La_law 270 = .ok (.iconst 1, 1) := by decide +kernel
theorem dd_La_law_271 : decode bb_La_law 271 = .ok (.iadd, 1) := by decide +kernel
theorem dd_La_law_272 : decode bb_La_law 272 = .ok (.iaload, 1) := by decide +kernel
theorem dd_La_law_273 : decode bb_La_law 273 = .ok (.invokevirtual 43, 3) := by decide +kernel
theorem dd_La_law_276 : decode bb_La_law 276 = .ok (.aload_n 2, 1) := by decide +kernel
theorem dd_La_law_277 : decode bb_La_law 277 = .ok (.aload_n 0, 1) := by decide +kernel
theorem dd_La_law_278 : decode bb_La_law 278 = .ok (.iload_n 3, 1) := by decide +kernel
theorem dd_La_law_279 : decode bb_La_law 279 = .ok (.iconst 1, 1) := by decide +kernel
theorem dd_La_law_280 : decode bb_La_law 280 = .ok (.iadd, 1) := by decide +kernel
theorem dd_La_law_281 : decode bb_La_law 281 = .ok (.iaload, 1) := by decide +kernel
theorem dd_La_law_282 : decode bb_La_law 282 = .ok (.invokevirtual 47, 3) := by decide +kernel
theorem dd_La_law_285 : decode bb_La_law 285 = .ok (.if_icmp .eq 332, 3) := by decide +kernel
theorem dd_La_law_288 : decode bb_La_law 288 = .ok (.iconst 0, 1) := by decide +kernel
theorem dd_La_law_289 : decode bb_La_law 289 = .ok (.ireturn, 1) := by decide +kernel
theorem dd_La_law_290 : decode bb_La_law 290 = .ok (.aload_n 1, 1) := by decide +kernel
theorem dd_La_law_291 : decode bb_La_law 291 = .ok (.aload_n 0, 1) := by decide +kernel
theorem dd_La_law_292 : decode bb_La_law 292 = .ok (.iload_n 3, 1) := by decide +kernel
theorem dd_La_law_293 : decode bb_La_law 293 = .ok (.iconst 1, 1) := by decide +kernel
theorem dd_La_law_294 : decode bb_La_law 294 = .ok (.iadd, 1) := by decide +kernel
theorem dd_La_law_295 : decode bb_La_law 295 = .ok (.iaload, 1) := by decide +kernel
theorem dd_La_law_296 : decode bb_La_law 296 = .ok (.aload_n 0, 1) := by decide +kernel
theorem dd_La_law_297 : decode bb_La_law 297 = .ok (.iload_n 3, 1) := by decide +kernel
theorem dd_La_law_298 : decode bb_La_law 298 = .ok (.iconst 2, 1) := by decide +kernel
theorem dd_La_law_299 : decode bb_La_law 299 = .ok (.iadd, 1) := by decide +kernel
theorem dd_La_law_300 : decode bb_La_law 300 = .ok (.iaload, 1) := by decide +kernel
theorem dd_La_law_301 : decode bb_La_law 301 = .ok (.aload_n 0, 1) := by decide +kernel
theorem dd_La_law_302 : decode bb_La_law 302 = .ok (.iload_n 3, 1) := by decide +kernel
theorem dd_La_law_303 : decode bb_La_law 303 = .ok (.iconst 3, 1) := by decide +kernel
theorem dd_La_law_304 : decode bb_La_law 304 = .ok (.iadd, 1) := by decide +kernel
theorem dd_La_law_305 : decode bb_La_law 305 = .ok (.iaload, 1) := by decide +kernel
theorem dd_La_law_306 : decode bb_La_law 306 = .ok (.invokevirtual 48, 3) := by decide +kernel
theorem dd_La_law_309 : decode bb_La_law 309 = .ok (.aload_n 2, 1) := by decide +kernel
theorem dd_La_law_310 : decode bb_La_law 310 = .ok (.aload_n 0, 1) := by decide +kernel
theorem dd_La_law_311 : decode bb_La_law 311 = .ok (.iload_n 3, 1) := by decide +kernel
theorem dd_La_law_312 : decode bb_La_law 312 = .ok (.iconst 1, 1) := by decide +kernel
theorem dd_La_law_313 : decode bb_La_law 313 = .ok (.iadd, 1) := by decide +kernel
theorem dd_La_law_314 : decode bb_La_law 314 = .ok (.iaload, 1) := by decide +kernel
theorem dd_La_law_315 : decode bb_La_law 315 = .ok (.aload_n 0, 1) := by decide +kernel
theorem dd_La_law_316 : decode bb_La_law 316 = .ok (.iload_n 3, 1) := by decide +kernel
theorem dd_La_law_317 : decode bb_La_law 317 = .ok (.iconst 2, 1) := by decide +kernel
theorem dd_La_law_318 : decode bb_La_law 318 = .ok (.iadd, 1) := by decide +kernel
theorem dd_La_law_319 : decode bb_La_law 319 = .ok (.iaload, 1) := by decide +kernel
theorem dd_La_law_320 : decode bb_La_law 320 = .ok (.aload_n 0, 1) := by decide +kernel
theorem dd_La_law_321 : decode bb_La_law 321 = .ok (.iload_n 3, 1) := by decide +kernel
theorem dd_La_law_322 : decode bb_La_law 322 = .ok (.iconst 3, 1) := by decide +kernel
theorem dd_La_law_323 : decode bb_La_law 323 = .ok (.iadd, 1) := by decide +kernel
theorem dd_La_law_324 : decode bb_La_law 324 = .ok (.iaload, 1) := by decide +kernel
theorem dd_La_law_325 : decode bb_La_law 325 = .ok (.invokevirtual 52, 3) := by decide +kernel
theorem dd_La_law_328 : decode bb_La_law 328 = .ok (.if_icmp .eq 289, 3) := by decide +kernel
theorem dd_La_law_331 : decode bb_La_law 331 = .ok (.iconst 0, 1) := by decide +kernel
theorem dd_La_law_332 : decode bb_La_law 332 = .ok (.ireturn, 1) := by decide +kernel
theorem dd_La_law_333 : decode bb_La_law 333 = .ok (.aload_n 1, 1) := by decide +kernel
theorem dd_La_law_334 : decode bb_La_law 334 = .ok (.aload_n 0, 1) := by decide +kernel
theorem dd_La_law_335 : decode bb_La_law 335 = .ok (.iload_n 3, 1) := by decide +kernel
theorem dd_La_law_336 : decode bb_La_law 336 = .ok (.iconst 1, 1) := by decide +kernel
theorem dd_La_law_337 : decode bb_La_law 337 = .ok (.iadd, 1) := by decide +kernel
theorem dd_La_law_338 : decode bb_La_law 338 = .ok (.iaload, 1) := by decide +kernel
theorem dd_La_law_339 : decode bb_La_law 339 = .ok (.aload_n 0, 1) := by decide +kernel
theorem dd_La_law_340 : decode bb_La_law 340 = .ok (.iload_n 3, 1) := by decide +kernel
theorem dd_La_law_341 : decode bb_La_law 341 = .ok (.iconst 2, 1) := by decide +kernel
theorem dd_La_law_342 : decode bb_La_law 342 = .ok (.iadd, 1) := by decide +kernel
theorem dd_La_law_343 : decode bb_La_law 343 = .ok (.iaload, 1) := by decide +kernel
theorem dd_La_law_344 : decode bb_La_law 344 = .ok (.invokevirtual 53, 3) := by decide +kernel
theorem dd_La_law_347 : decode bb_La_law 347 = .ok (.aload_n 2, 1) := by decide +kernel
theorem dd_La_law_348 : decode bb_La_law 348 = .ok (.aload_n 0, 1) := by decide +kernel
theorem dd_La_law_349 : decode bb_La_law 349 = .ok (.iload_n 3, 1) := by decide +kernel
theorem dd_La_law_350 : decode bb_La_law 350 = .ok (.iconst 1, 1) := by decide +kernel
theorem dd_La_law_351 : decode bb_La_law 351 = .ok (.iadd, 1) := by decide +kernel
theorem dd_La_law_352 : decode bb_La_law 352 = .ok (.iaload, 1) := by decide +kernel
theorem dd_La_law_353 : decode bb_La_law 353 = .ok (.aload_n 0, 1) := by decide +kernel
theorem dd_La_law_354 : decode bb_La_law 354 = .ok (.iload_n 3, 1) := by decide +kernel
theorem dd_La_law_355 : decode bb_La_law 355 = .ok (.iconst 2, 1) := by decide +kernel
theorem dd_La_law_356 : decode bb_La_law 356 = .ok (.iadd, 1) := by decide +kernel
theorem dd_La_law_357 : decode bb_La_law 357 = .ok (.iaload, 1) := by decide +kernel
theorem dd_La_law_358 : decode bb_La_law 358 = .ok (.invokevirtual 56, 3) := by decide +kernel
theorem dd_La_law_361 : decode bb_La_law 361 = .ok (.if_icmp .eq 256, 3) := by decide +kernel
theorem dd_La_law_364 : decode bb_La_law 364 = .ok (.iconst 0, 1) := by decide +kernel
theorem dd_La_law_365 : decode bb_La_law 365 = .ok (.ireturn, 1) := by decide +kernel
theorem dd_La_law_366 : decode bb_La_law 366 = .ok (.aload_n 1, 1) := by decide +kernel
theorem dd_La_law_367 : decode bb_La_law 367 = .ok (.aload_n 0, 1) := by decide +kernel
theorem dd_La_law_368 : decode bb_La_law 368 = .ok (.iload_n 3, 1) := by decide +kernel
theorem dd_La_law_369 : decode bb_La_law 369 = .ok (.iconst 1, 1) := by decide +kernel
theorem dd_La_law_370 : decode bb_La_law 370 = .ok (.iadd, 1) := by decide +kernel
theorem dd_La_law_371 : decode bb_La_law 371 = .ok (.iaload, 1) := by decide +kernel
theorem dd_La_law_372 : decode bb_La_law 372 = .ok (.invokevirtual 57, 3) := by decide +kernel
theorem dd_La_law_375 : decode bb_La_law 375 = .ok (.aload_n 2, 1) := by decide +kernel
theorem dd_La_law_376 : decode bb_La_law 376 = .ok (.aload_n 0, 1) := by decide +kernel
theorem dd_La_law_377 : decode bb_La_law 377 = .ok (.iload_n 3, 1) := by decide +kernel
theorem dd_La_law_378 : decode bb_La_law 378 = .ok (.iconst 1, 1) := by decide +kernel
theorem dd_La_law_379 : decode bb_La_law 379 = .ok (.iadd, 1) := by decide +kernel
theorem dd_La_law_380 : decode bb_La_law 380 = .ok (.iaload, 1) := by decide +kernel
theorem dd_La_law_381 : decode bb_La_law 381 = .ok (.invokevirtual 60, 3) := by decide +kernel
theorem dd_La_law_384 : decode bb_La_law 384 = .ok (.if_icmp .eq 233, 3) := by decide +kernel
theorem dd_La_law_387 : decode bb_La_law 387 = .ok (.iconst 0, 1) := by decide +kernel
theorem dd_La_law_388 : decode bb_La_law 388 = .ok (.ireturn, 1) := by decide +kernel
theorem dd_La_law_389 : decode bb_La_law 389 = .ok (.aload_n 1, 1) := by decide +kernel
theorem dd_La_law_390 : decode bb_La_law 390 = .ok (.aload_n 0, 1) := by decide +kernel
theorem dd_La_law_391 : decode bb_La_law 391 = .ok (.iload_n 3, 1) := by decide +kernel
theorem dd_La_law_392 : decode bb_La_law 392 = .ok (.iconst 1, 1) := by decide +kernel
theorem dd_La_law_393 : decode bb_La_law 393 = .ok (.iadd, 1) := by decide +kernel
theorem dd_La_law_394 : decode bb_La_law 394 = .ok (.iaload, 1) := by decide +kernel
theorem dd_La_law_395 : decode bb_La_law 395 = .ok (.invokevirtual 61, 3) := by decide +kernel
theorem dd_La_law_398 : decode bb_La_law 398 = .ok (.aload_n 2, 1) := by decide +kernel
theorem dd_La_law_399 : decode bb_La_law 399 = .ok (.aload_n 0, 1) := by decide +kernel
theorem dd_La_law_400 : decode bb_La_law 400 = .ok (.iload_n 3, 1) := by decide +kernel
theorem dd_La_law_401 : decode bb_La_law 401 = .ok (.iconst 1, 1) := by decide +kernel
theorem dd_La_law_402 : decode bb_La_law 402 = .ok (.iadd, 1) := by decide +kernel
theorem dd_La_law_403 : decode bb_La_law 403 = .ok (.iaload, 1) := by decide +kernel
theorem dd_La_law_404 : decode bb_La_law 404 = .ok (.invokevirtual 64, 3) := by decide +kernel
theorem dd_La_law_407 : decode bb_La_law 407 = .ok (.if_icmp .eq 210, 3) := by decide +kernel
theorem dd_La_law_410 : decode bb_La_law 410 = .ok (.iconst 0, 1) := by decide +kernel
theorem dd_La_law_411 : decode bb_La_law 411 = .ok (.ireturn, 1) := by decide +kernel
theorem dd_La_law_412 : decode bb_La_law 412 = .ok (.aload_n 1, 1) := by decide +kernel
theorem dd_La_law_413 : decode bb_La_law 413 = .ok (.aload_n 0, 1) := by decide +kernel
theorem dd_La_law_414 : decode bb_La_law 414 = .ok (.iload_n 3, 1) := by decide +kernel
theorem dd_La_law_415 : decode bb_La_law 415 = .ok (.iconst 1, 1) := by decide +kernel
theorem dd_La_law_416 : decode bb_La_law 416 = .ok (.iadd, 1) := by decide +kernel
theorem dd_La_law_417 : decode bb_La_law 417 = .ok (.iaload, 1) := by decide +kernel
theorem dd_La_law_418 : decode bb_La_law 418 = .ok (.aload_n 0, 1) := by decide +kernel
theorem dd_La_law_419 : decode bb_La_law 419 = .ok (.iload_n 3, 1) := by decide +kernel
theorem dd_La_law_420 : decode bb_La_law 420 = .ok (.iconst 2, 1) := by decide +kernel
theorem dd_La_law_421 : decode bb_La_law 421 = .ok (.iadd, 1) := by decide +kernel
theorem dd_La_law_422 : decode bb_La_law 422 = .ok (.iaload, 1) := by decide +kernel
theorem dd_La_law_423 : decode bb_La_law 423 = .ok (.invokevirtual 65, 3) := by decide +kernel
theorem dd_La_law_426 : decode bb_La_law 426 = .ok (.aload_n 2, 1) := by decide +kernel
theorem dd_La_law_427 : decode bb_La_law 427 = .ok (.aload_n 0, 1) := by decide +kernel
theorem dd_La_law_428 : decode bb_La_law 428 = .ok (.iload_n 3, 1) := by decide +kernel
theorem dd_La_law_429 : decode bb_La_law 429 = .ok (.iconst 1, 1) := by decide +kernel
theorem dd_La_law_430 : decode bb_La_law 430 = .ok (.iadd, 1) := by decide +kernel
theorem dd_La_law_431 : decode bb_La_law 431 = .ok (.iaload, 1) := by decide +kernel
theorem dd_La_law_432 : decode bb_La_law 432 = .ok (.aload_n 0, 1) := by decide +kernel
theorem dd_La_law_433 : decode bb_La_law 433 = .ok (.iload_n 3, 1) := by decide +kernel
theorem dd_La_law_434 : decode bb_La_law 434 = .ok (.iconst 2, 1) := by decide +kernel
theorem dd_La_law_435 : decode bb_La_law 435 = .ok (.iadd, 1) := by decide +kernel
theorem dd_La_law_436 : decode bb_La_law 436 = .ok (.iaload, 1) := by decide +kernel
theorem dd_La_law_437 : decode bb_La_law 437 = .ok (.invokevirtual 68, 3) := by decide +kernel
theorem dd_La_law_440 : decode bb_La_law 440 = .ok (.if_icmp .eq 177, 3) := by decide +kernel
theorem dd_La_law_443 : decode bb_La_law 443 = .ok (.iconst 0, 1) := by decide +kernel
theorem dd_La_law_444 : decode bb_La_law 444 = .ok (.ireturn, 1) := by decide +kernel
theorem dd_La_law_445 : decode bb_La_law 445 = .ok (.aload_n 1, 1) := by decide +kernel
theorem dd_La_law_446 : decode bb_La_law 446 = .ok (.aload_n 0, 1) := by decide +kernel
theorem dd_La_law_447 : decode bb_La_law 447 = .ok (.iload_n 3, 1) := by decide +kernel
theorem dd_La_law_448 : decode bb_La_law 448 = .ok (.iconst 1, 1) := by decide +kernel
theorem dd_La_law_449 : decode bb_La_law 449 = .ok (.iadd, 1) := by decide +kernel
theorem dd_La_law_450 : decode bb_La_law 450 = .ok (.iaload, 1) := by decide +kernel
theorem dd_La_law_451 : decode bb_La_law 451 = .ok (.invokevirtual 69, 3) := by decide +kernel
theorem dd_La_law_454 : decode bb_La_law 454 = .ok (.aload_n 2, 1) := by decide +kernel
theorem dd_La_law_455 : decode bb_La_law 455 = .ok (.aload_n 0, 1) := by decide +kernel
theorem dd_La_law_456 : decode bb_La_law 456 = .ok (.iload_n 3, 1) := by decide +kernel
theorem dd_La_law_457 : decode bb_La_law 457 = .ok (.iconst 1, 1) := by decide +kernel
theorem dd_La_law_458 : decode bb_La_law 458 = .ok (.iadd, 1) := by decide +kernel
theorem dd_La_law_459 : decode bb_La_law 459 = .ok (.iaload, 1) := by decide +kernel
theorem dd_La_law_460 : decode bb_La_law 460 = .ok (.invokevirtual 72, 3) := by decide +kernel
theorem dd_La_law_463 : decode bb_La_law 463 = .ok (.if_icmp .eq 154, 3) := by decide +kernel
theorem dd_La_law_466 : decode bb_La_law 466 = .ok (.iconst 0, 1) := by decide +kernel
theorem dd_La_law_467 : decode bb_La_law 467 = .ok (.ireturn, 1) := by decide +kernel
theorem dd_La_law_468 : decode bb_La_law 468 = .ok (.aload_n 1, 1) := by decide +kernel
theorem dd_La_law_469 : decode bb_La_law 469 = .ok (.aload_n 0, 1) := by decide +kernel
theorem dd_La_law_470 : decode bb_La_law 470 = .ok (.iload_n 3, 1) := by decide +kernel
theorem dd_La_law_471 : decode bb_La_law 471 = .ok (.iconst 1, 1) := by decide +kernel
theorem dd_La_law_472 : decode bb_La_law 472 = .ok (.iadd, 1) := by decide +kernel
theorem dd_La_law_473 : decode bb_La_law 473 = .ok (.iaload, 1) := by decide +kernel
theorem dd_La_law_474 : decode bb_La_law 474 = .ok (.invokevirtual 73, 3) := by decide +kernel
theorem dd_La_law_477 : decode bb_La_law 477 = .ok (.aload_n 2, 1) := by decide +kernel
theorem dd_La_law_478 : decode bb_La_law 478 = .ok (.aload_n 0, 1) := by decide +kernel
theorem dd_La_law_479 : decode bb_La_law 479 = .ok (.iload_n 3, 1) := by decide +kernel
theorem dd_La_law_480 : decode bb_La_law 480 = .ok (.iconst 1, 1) := by decide +kernel
theorem dd_La_law_481 : decode bb_La_law 481 = .ok (.iadd, 1) := by decide +kernel
theorem dd_La_law_482 : decode bb_La_law 482 = .ok (.iaload, 1) := by decide +kernel
theorem dd_La_law_483 : decode bb_La_law 483 = .ok (.invokevirtual 76, 3) := by decide +kernel
theorem dd_La_law_486 : decode bb_La_law 486 = .ok (.if_icmp .eq 131, 3) := by decide +kernel
theorem dd_La_law_489 : decode bb_La_law 489 = .ok (.iconst 0, 1) := by decide +kernel
theorem dd_La_law_490 : decode bb_La_law 490 = .ok (.ireturn, 1) := by decide +kernel
theorem dd_La_law_491 : decode bb_La_law 491 = .ok (.aload_n 1, 1) := by decide +kernel
theorem dd_La_law_492 : decode bb_La_law 492 = .ok (.aload_n 0, 1) := by decide +kernel
theorem dd_La_law_493 : decode bb_La_law 493 = .ok (.iload_n 3, 1) := by decide +kernel
theorem dd_La_law_494 : decode bb_La_law 494 = .ok (.iconst 1, 1) := by decide +kernel
theorem dd_La_law_495 : decode bb_La_law 495 = .ok (.iadd, 1) := by decide +kernel
theorem dd_La_law_496 : decode bb_La_law 496 = .ok (.iaload, 1) := by decide +kernel
theorem dd_La_law_497 : decode bb_La_law 497 = .ok (.aload_n 0, 1) := by decide +kernel
theorem dd_La_law_498 : decode bb_La_law 498 = .ok (.iload_n 3, 1) := by decide +kernel
theorem dd_La_law_499 : decode bb_La_law 499 = .ok (.iconst 2, 1) := by decide +kernel
theorem dd_La_law_500 : decode bb_La_law 500 = .ok (.iadd, 1) := by decide +kernel
theorem dd_La_law_501 : decode bb_La_law 501 = .ok (.iaload, 1) := by decide +kernel
theorem dd_La_law_502 : decode bb_La_law 502 = .ok (.invokevirtual 77, 3) := by decide +kernel
theorem dd_La_law_505 : decode bb_La_law 505 = .ok (.aload_n 2, 1) := by decide +kernel
theorem dd_La_law_506 : decode bb_La_law 506 = .ok (.aload_n 0, 1) := by decide +kernel
theorem dd_La_law_507 : decode bb_La_law 507 = .ok (.iload_n 3, 1) := by decide +kernel
theorem dd_La_law_508 : decode bb_La_law 508 = .ok (.iconst 1, 1) := by decide +kernel
theorem dd_La_law_509 : decode bb_La_law 509 = .ok (.iadd, 1) := by decide +kernel
theorem dd_La_law_510 : decode bb_La_law 510 = .ok (.iaload, 1) := by decide +kernel
theorem dd_La_law_511 : decode bb_La_law 511 = .ok (.aload_n 0, 1) := by decide +kernel
theorem dd_La_law_512 : decode bb_La_law 512 = .ok (.iload_n 3, 1) := by decide +kernel
theorem dd_La_law_513 : decode bb_La_law 513 = .ok (.iconst 2, 1) := by decide +kernel
theorem dd_La_law_514 : decode bb_La_law 514 = .ok (.iadd, 1) := by decide +kernel
theorem dd_La_law_515 : decode bb_La_law 515 = .ok (.iaload, 1) := by decide +kernel
theorem dd_La_law_516 : decode bb_La_law 516 = .ok (.invokevirtual 81, 3) := by decide +kernel
theorem dd_La_law_519 : decode bb_La_law 519 = .ok (.lcmp, 1) := by decide +kernel
theorem dd_La_law_520 : decode bb_La_law 520 = .ok (.ifCond .eq 97, 3) := by decide +kernel
theorem dd_La_law_523 : decode bb_La_law 523 = .ok (.iconst 0, 1) := by decide +kernel
theorem dd_La_law_524 : decode bb_La_law 524 = .ok (.ireturn, 1) := by decide +kernel
theorem dd_La_law_525 : decode bb_La_law 525 = .ok (.aload_n 1, 1) := by decide +kernel
theorem dd_La_law_526 : decode bb_La_law 526 = .ok (.aload_n 0, 1) := by decide +kernel
theorem dd_La_law_527 : decode bb_La_law 527 = .ok (.iload_n 3, 1) := by decide +kernel
theorem dd_La_law_528 : decode bb_La_law 528 = .ok (.iconst 1, 1) := by decide +kernel
theorem dd_La_law_529 : decode bb_La_law 529 = .ok (.iadd, 1) := by decide +kernel
theorem dd_La_law_530 : decode bb_La_law 530 = .ok (.iaload, 1) := by decide +kernel
theorem dd_La_law_531 : decode bb_La_law 531 = .ok (.aload_n 0, 1) := by decide +kernel
theorem dd_La_law_532 : decode bb_La_law 532 = .ok (.iload_n 3, 1) := by decide +kernel
theorem dd_La_law_533 : decode bb_La_law 533 = .ok (.iconst 2, 1) := by decide +kernel
theorem dd_La_law_534 : decode bb_La_law 534 = .ok (.iadd, 1) := by decide +kernel
theorem dd_La_law_535 : decode bb_La_law 535 = .ok (.iaload, 1) := by decide +kernel
theorem dd_La_law_536 : decode bb_La_law 536 = .ok (.invokevirtual 82, 3) := by decide +kernel
theorem dd_La_law_539 : decode bb_La_law 539 = .ok (.aload_n 2, 1) := by decide +kernel
theorem dd_La_law_540 : decode bb_La_law 540 = .ok (.aload_n 0, 1) := by decide +kernel
theorem dd_La_law_541 : decode bb_La_law 541 = .ok (.iload_n 3, 1) := by decide +kernel
theorem dd_La_law_542 : decode bb_La_law 542 = .ok (.iconst 1, 1) := by decide +kernel
theorem dd_La_law_543 : decode bb_La_law 543 = .ok (.iadd, 1) := by decide +kernel
theorem dd_La_law_544 : decode bb_La_law 544 = .ok (.iaload, 1) := by decide +kernel
theorem dd_La_law_545 : decode bb_La_law 545 = .ok (.aload_n 0, 1) := by decide +kernel
theorem dd_La_law_546 : decode bb_La_law 546 = .ok (.iload_n 3, 1) := by decide +kernel
theorem dd_La_law_547 : decode bb_La_law 547 = .ok (.iconst 2, 1) := by decide +kernel
theorem dd_La_law_548 : decode bb_La_law 548 = .ok (.iadd, 1) := by decide +kernel
theorem dd_La_law_549 : decode bb_La_law 549 = .ok (.iaload, 1) := by decide +kernel
theorem dd_La_law_550 : decode bb_La_law 550 = .ok (.invokevirtual 85, 3) := by decide +kernel
theorem dd_La_law_553 : decode bb_La_law 553 = .ok (.if_icmp .eq 64, 3) := by decide +kernel
theorem dd_La_law_556 : decode bb_La_law 556 = .ok (.iconst 0, 1) := by decide +kernel
theorem dd_La_law_557 : decode bb_La_law 557 = .ok (.ireturn, 1) := by decide +kernel
theorem dd_La_law_558 : decode bb_La_law 558 = .ok (.aload_n 1, 1) := by decide +kernel
theorem dd_La_law_559 : decode bb_La_law 559 = .ok (.aload_n 0, 1) := by decide +kernel
theorem dd_La_law_560 : decode bb_La_law 560 = .ok (.iload_n 3, 1) := by decide +kernel
theorem dd_La_law_561 : decode bb_La_law 561 = .ok (.iconst 1, 1) := by decide +kernel
theorem dd_La_law_562 : decode bb_La_law 562 = .ok (.iadd, 1) := by decide +kernel
theorem dd_La_law_563 : decode bb_La_law 563 = .ok (.iaload, 1) := by decide +kernel
theorem dd_La_law_564 : decode bb_La_law 564 = .ok (.invokevirtual 86, 3) := by decide +kernel
theorem dd_La_law_567 : decode bb_La_law 567 = .ok (.aload_n 2, 1) := by decide +kernel
theorem dd_La_law_568 : decode bb_La_law 568 = .ok (.aload_n 0, 1) := by decide +kernel
theorem dd_La_law_569 : decode bb_La_law 569 = .ok (.iload_n 3, 1) := by decide +kernel
theorem dd_La_law_570 : decode bb_La_law 570 = .ok (.iconst 1, 1) := by decide +kernel
theorem dd_La_law_571 : decode bb_La_law 571 = .ok (.iadd, 1) := by decide +kernel
theorem dd_La_law_572 : decode bb_La_law 572 = .ok (.iaload, 1) := by decide +kernel
theorem dd_La_law_573 : decode bb_La_law 573 = .ok (.invokevirtual 89, 3) := by decide +kernel
theorem dd_La_law_576 : decode bb_La_law 576 = .ok (.if_icmp .eq 41, 3) := by decide +kernel
theorem dd_La_law_579 : decode bb_La_law 579 = .ok (.iconst 0, 1) := by decide +kernel
theorem dd_La_law_580 : decode bb_La_law 580 = .ok (.ireturn, 1) := by decide +kernel
theorem dd_La_law_581 : decode bb_La_law 581 = .ok (.aload_n 1, 1) := by decide +kernel
theorem dd_La_law_582 : decode bb_La_law 582 = .ok (.aload_n 0, 1) := by decide +kernel
theorem dd_La_law_583 : decode bb_La_law 583 = .ok (.iload_n 3, 1) := by decide +kernel
theorem dd_La_law_584 : decode bb_La_law 584 = .ok (.iconst 1, 1) := by decide +kernel
theorem dd_La_law_585 : decode bb_La_law 585 = .ok (.iadd, 1) := by decide +kernel
theorem dd_La_law_586 : decode bb_La_law 586 = .ok (.iaload, 1) := by decide +kernel
theorem dd_La_law_587 : decode bb_La_law 587 = .ok (.invokevirtual 90, 3) := by decide +kernel
theorem dd_La_law_590 : decode bb_La_law 590 = .ok (.aload_n 2, 1) := by decide +kernel
theorem dd_La_law_591 : decode bb_La_law 591 = .ok (.aload_n 0, 1) := by decide +kernel
theorem dd_La_law_592 : decode bb_La_law 592 = .ok (.iload_n 3, 1) := by decide +kernel
theorem dd_La_law_593 : decode bb_La_law 593 = .ok (.iconst 1, 1) := by decide +kernel
theorem dd_La_law_594 : decode bb_La_law 594 = .ok (.iadd, 1) := by decide +kernel
theorem dd_La_law_595 : decode bb_La_law 595 = .ok (.iaload, 1) := by decide +kernel
theorem dd_La_law_596 : decode bb_La_law 596 = .ok (.invokevirtual 93, 3) := by decide +kernel
theorem dd_La_law_599 : decode bb_La_law 599 = .ok (.if_icmp .eq 18, 3) := by decide +kernel
theorem dd_La_law_602 : decode bb_La_law 602 = .ok (.iconst 0, 1) := by decide +kernel
theorem dd_La_law_603 : decode bb_La_law 603 = .ok (.ireturn, 1) := by decide +kernel
theorem dd_La_law_604 : decode bb_La_law 604 = .ok (.aload_n 1, 1) := by decide +kernel
theorem dd_La_law_605 : decode bb_La_law 605 = .ok (.invokevirtual 94, 3) := by decide +kernel
theorem dd_La_law_608 : decode bb_La_law 608 = .ok (.aload_n 2, 1) := by decide +kernel
theorem dd_La_law_609 : decode bb_La_law 609 = .ok (.invokevirtual 98, 3) := by decide +kernel
theorem dd_La_law_612 : decode bb_La_law 612 = .ok (.if_icmp .eq 5, 3) := by decide +kernel
theorem dd_La_law_615 : decode bb_La_law 615 = .ok (.iconst 0, 1) := by decide +kernel
theorem dd_La_law_616 : decode bb_La_law 616 = .ok (.ireturn, 1) := by decide +kernel
theorem dd_La_law_617 : decode bb_La_law 617 = .ok (.iinc 3 5, 3) := by decide +kernel
theorem dd_La_law_620 : decode bb_La_law 620 = .ok (.goto (-592), 3) := by decide +kernel
theorem dd_La_law_623 : decode bb_La_law 623 = .ok (.iconst 1, 1) := by decide +kernel
theorem dd_La_law_624 : decode bb_La_law 624 = .ok (.ireturn, 1) := by decide +kernel
