theorem dL_cell_0 : decode cL_cell 0 = .ok (.iload_n 1, 1) := by decide +kernel
theorem dL_cell_1 : decode cL_cell 1 = .ok (.aload_n 0, 1) := by decide +kernel
theorem dL_cell_2 : decode cL_cell 2 = .ok (.arraylength, 1) := by decide +kernel
theorem dL_cell_3 : decode cL_cell 3 = .ok (.if_icmp .ge 9, 3) := by decide +kernel
theorem dL_cell_6 : decode cL_cell 6 = .ok (.aload_n 0, 1) := by decide +kernel
theorem dL_cell_7 : decode cL_cell 7 = .ok (.iload_n 1, 1) := by decide +kernel
theorem dL_cell_8 : decode cL_cell 8 = .ok (.iaload, 1) := by decide +kernel
theorem dL_cell_9 : decode cL_cell 9 = .ok (.goto 11, 3) := by decide +kernel
theorem dL_cell_12 : decode cL_cell 12 = .ok (.ldc 7, 2) := by decide +kernel
theorem dL_cell_14 : decode cL_cell 14 = .ok (.iload_n 1, 1) := by decide +kernel
theorem dL_cell_15 : decode cL_cell 15 = .ok (.sipush 1217, 3) := by decide +kernel
theorem dL_cell_18 : decode cL_cell 18 = .ok (.iadd, 1) := by decide +kernel
theorem dL_cell_19 : decode cL_cell 19 = .ok (.imul, 1) := by decide +kernel
theorem dL_cell_20 : decode cL_cell 20 = .ok (.ireturn, 1) := by decide +kernel
theorem dL_up_0 : decode cL_up 0 = .ok (.iload_n 0, 1) := by decide +kernel
theorem dL_up_1 : decode cL_up 1 = .ok (.ldc 8, 2) := by decide +kernel
theorem dL_up_3 : decode cL_up 3 = .ok (.iand, 1) := by decide +kernel
theorem dL_up_4 : decode cL_up 4 = .ok (.iload_n 1, 1) := by decide +kernel
theorem dL_up_5 : decode cL_up 5 = .ok (.irem, 1) := by decide +kernel
theorem dL_up_6 : decode cL_up 6 = .ok (.ireturn, 1) := by decide +kernel
theorem dL_isLaid_0 : decode cL_isLaid 0 = .ok (.iload_n 2, 1) := by decide +kernel
theorem dL_isLaid_1 : decode cL_isLaid 1 = .ok (.iload_n 3, 1) := by decide +kernel
theorem dL_isLaid_2 : decode cL_isLaid 2 = .ok (.imul, 1) := by decide +kernel
theorem dL_isLaid_3 : decode cL_isLaid 3 = .ok (.istore 5, 2) := by decide +kernel
theorem dL_isLaid_5 : decode cL_isLaid 5 = .ok (.aload_n 0, 1) := by decide +kernel
theorem dL_isLaid_6 : decode cL_isLaid 6 = .ok (.iload_n 2, 1) := by decide +kernel
theorem dL_isLaid_7 : decode cL_isLaid 7 = .ok (.iload_n 3, 1) := by decide +kernel
theorem dL_isLaid_8 : decode cL_isLaid 8 = .ok (.iload 4, 2) := by decide +kernel
theorem dL_isLaid_10 : decode cL_isLaid 10 = .ok (.invokevirtual 9, 3) := by decide +kernel
theorem dL_isLaid_13 : decode cL_isLaid 13 = .ok (.iload 5, 2) := by decide +kernel
theorem dL_isLaid_15 : decode cL_isLaid 15 = .ok (.if_icmp .ne 49, 3) := by decide +kernel
theorem dL_isLaid_18 : decode cL_isLaid 18 = .ok (.aload_n 1, 1) := by decide +kernel
theorem dL_isLaid_19 : decode cL_isLaid 19 = .ok (.iload_n 2, 1) := by decide +kernel
theorem dL_isLaid_20 : decode cL_isLaid 20 = .ok (.iload_n 3, 1) := by decide +kernel
theorem dL_isLaid_21 : decode cL_isLaid 21 = .ok (.iload 4, 2) := by decide +kernel
theorem dL_isLaid_23 : decode cL_isLaid 23 = .ok (.invokevirtual 9, 3) := by decide +kernel
theorem dL_isLaid_26 : decode cL_isLaid 26 = .ok (.iload 5, 2) := by decide +kernel
theorem dL_isLaid_28 : decode cL_isLaid 28 = .ok (.if_icmp .ne 36, 3) := by decide +kernel
theorem dL_isLaid_31 : decode cL_isLaid 31 = .ok (.aload_n 1, 1) := by decide +kernel
theorem dL_isLaid_32 : decode cL_isLaid 32 = .ok (.iconst 0, 1) := by decide +kernel
theorem dL_isLaid_33 : decode cL_isLaid 33 = .ok (.iconst 0, 1) := by decide +kernel
theorem dL_isLaid_34 : decode cL_isLaid 34 = .ok (.invokevirtual 15, 3) := by decide +kernel
theorem dL_isLaid_37 : decode cL_isLaid 37 = .ok (.iload 5, 2) := by decide +kernel
theorem dL_isLaid_39 : decode cL_isLaid 39 = .ok (.if_icmp .ne 25, 3) := by decide +kernel
theorem dL_isLaid_42 : decode cL_isLaid 42 = .ok (.aload_n 0, 1) := by decide +kernel
theorem dL_isLaid_43 : decode cL_isLaid 43 = .ok (.iconst 5, 1) := by decide +kernel
theorem dL_isLaid_44 : decode cL_isLaid 44 = .ok (.invokevirtual 19, 3) := by decide +kernel
theorem dL_isLaid_47 : decode cL_isLaid 47 = .ok (.iload 5, 2) := by decide +kernel
theorem dL_isLaid_49 : decode cL_isLaid 49 = .ok (.if_icmp .ne 15, 3) := by decide +kernel
theorem dL_isLaid_52 : decode cL_isLaid 52 = .ok (.aload_n 1, 1) := by decide +kernel
theorem dL_isLaid_53 : decode cL_isLaid 53 = .ok (.iconst 5, 1) := by decide +kernel
theorem dL_isLaid_54 : decode cL_isLaid 54 = .ok (.invokevirtual 19, 3) := by decide +kernel
theorem dL_isLaid_57 : decode cL_isLaid 57 = .ok (.ifCond .ne 7, 3) := by decide +kernel
theorem dL_isLaid_60 : decode cL_isLaid 60 = .ok (.iconst 1, 1) := by decide +kernel
theorem dL_isLaid_61 : decode cL_isLaid 61 = .ok (.goto 4, 3) := by decide +kernel
theorem dL_isLaid_64 : decode cL_isLaid 64 = .ok (.iconst 0, 1) := by decide +kernel
theorem dL_isLaid_65 : decode cL_isLaid 65 = .ok (.ireturn, 1) := by decide +kernel
theorem dL_isStep_0 : decode cL_isStep 0 = .ok (.iload_n 2, 1) := by decide +kernel
theorem dL_isStep_1 : decode cL_isStep 1 = .ok (.iconst 4, 1) := by decide +kernel
theorem dL_isStep_2 : decode cL_isStep 2 = .ok (.ishr, 1) := by decide +kernel
theorem dL_isStep_3 : decode cL_isStep 3 = .ok (.istore 4, 2) := by decide +kernel
theorem dL_isStep_5 : decode cL_isStep 5 = .ok (.aload_n 0, 1) := by decide +kernel
theorem dL_isStep_6 : decode cL_isStep 6 = .ok (.iconst 1, 1) := by decide +kernel
theorem dL_isStep_7 : decode cL_isStep 7 = .ok (.invokevirtual 19, 3) := by decide +kernel
theorem dL_isStep_10 : decode cL_isStep 10 = .ok (.istore 5, 2) := by decide +kernel
theorem dL_isStep_12 : decode cL_isStep 12 = .ok (.aload_n 0, 1) := by decide +kernel
theorem dL_isStep_13 : decode cL_isStep 13 = .ok (.iconst 0, 1) := by decide +kernel
theorem dL_isStep_14 : decode cL_isStep 14 = .ok (.invokevirtual 19, 3) := by decide +kernel
theorem dL_isStep_17 : decode cL_isStep 17 = .ok (.istore 6, 2) := by decide +kernel
theorem dL_isStep_19 : decode cL_isStep 19 = .ok (.iload 4, 2) := by decide +kernel
theorem dL_isStep_21 : decode cL_isStep 21 = .ok (.iload 5, 2) := by decide +kernel
theorem dL_isStep_23 : decode cL_isStep 23 = .ok (.invokestatic 23, 3) := by decide +kernel
theorem dL_isStep_26 : decode cL_isStep 26 = .ok (.istore 7, 2) := by decide +kernel
theorem dL_isStep_28 : decode cL_isStep 28 = .ok (.iload 4, 2) := by decide +kernel
theorem dL_isStep_30 : decode cL_isStep 30 = .ok (.iconst 3, 1) := by decide +kernel
theorem dL_isStep_31 : decode cL_isStep 31 = .ok (.ishr, 1) := by decide +kernel
theorem dL_isStep_32 : decode cL_isStep 32 = .ok (.iload 6, 2) := by decide +kernel
theorem dL_isStep_34 : decode cL_isStep 34 = .ok (.invokestatic 23, 3) := by decide +kernel
theorem dL_isStep_37 : decode cL_isStep 37 = .ok (.istore 8, 2) := by decide +kernel
theorem dL_isStep_39 : decode cL_isStep 39 = .ok (.aload_n 0, 1) := by decide +kernel
theorem dL_isStep_40 : decode cL_isStep 40 = .ok (.iconst 3, 1) := by decide +kernel
theorem dL_isStep_41 : decode cL_isStep 41 = .ok (.invokevirtual 19, 3) := by decide +kernel
theorem dL_isStep_44 : decode cL_isStep 44 = .ok (.istore 9, 2) := by decide +kernel
theorem dL_isStep_46 : decode cL_isStep 46 = .ok (.iload_n 2, 1) := by decide +kernel
theorem dL_isStep_47 : decode cL_isStep 47 = .ok (.bipush 15, 2) := by decide +kernel
theorem dL_isStep_49 : decode cL_isStep 49 = .ok (.invokestatic 23, 3) := by decide +kernel
theorem dL_isStep_52 : decode cL_isStep 52 = .ok (.tableswitch 612 0 12 #[68, 118, 219, 219, 290, 290, 290, 409, 409, 409, 458, 502, 586], 68) := by decide +kernel
theorem dL_isStep_120 : decode cL_isStep 120 = .ok (.aload_n 0, 1) := by decide +kernel
theorem dL_isStep_121 : decode cL_isStep 121 = .ok (.aload_n 1, 1) := by decide +kernel
theorem dL_isStep_122 : decode cL_isStep 122 = .ok (.iconst 1, 1) := by decide +kernel
theorem dL_isStep_123 : decode cL_isStep 123 = .ok (.iload_n 3, 1) := by decide +kernel
theorem dL_isStep_124 : decode cL_isStep 124 = .ok (.iload 4, 2) := by decide +kernel
theorem dL_isStep_126 : decode cL_isStep 126 = .ok (.iconst 3, 1) := by decide +kernel
theorem dL_isStep_127 : decode cL_isStep 127 = .ok (.invokestatic 23, 3) := by decide +kernel
theorem dL_isStep_130 : decode cL_isStep 130 = .ok (.ifCond .ne 8, 3) := by decide +kernel
theorem dL_isStep_133 : decode cL_isStep 133 = .ok (.bipush 10, 2) := by decide +kernel
theorem dL_isStep_135 : decode cL_isStep 135 = .ok (.goto 4, 3) := by decide +kernel
theorem dL_isStep_138 : decode cL_isStep 138 = .ok (.iconst 5, 1) := by decide +kernel
theorem dL_isStep_139 : decode cL_isStep 139 = .ok (.invokestatic 23, 3) := by decide +kernel
theorem dL_isStep_142 : decode cL_isStep 142 = .ok (.iadd, 1) := by decide +kernel
theorem dL_isStep_143 : decode cL_isStep 143 = .ok (.iconst 1, 1) := by decide +kernel
theorem dL_isStep_144 : decode cL_isStep 144 = .ok (.iload_n 3, 1) := by decide +kernel
theorem dL_isStep_145 : decode cL_isStep 145 = .ok (.iconst 5, 1) := by decide +kernel
theorem dL_isStep_146 : decode cL_isStep 146 = .ok (.ishr, 1) := by decide +kernel
theorem dL_isStep_147 : decode cL_isStep 147 = .ok (.iconst 3, 1) := by decide +kernel
theorem dL_isStep_148 : decode cL_isStep 148 = .ok (.invokestatic 23, 3) := by decide +kernel
theorem dL_isStep_151 : decode cL_isStep 151 = .ok (.iadd, 1) := by decide +kernel
theorem dL_isStep_152 : decode cL_isStep 152 = .ok (.iload 4, 2) := by decide +kernel
theorem dL_isStep_154 : decode cL_isStep 154 = .ok (.iconst 2, 1) := by decide +kernel
theorem dL_isStep_155 : decode cL_isStep 155 = .ok (.invokestatic 23, 3) := by decide +kernel
theorem dL_isStep_158 : decode cL_isStep 158 = .ok (.ifCond .ne 7, 3) := by decide +kernel
theorem dL_isStep_161 : decode cL_isStep 161 = .ok (.iconst 1, 1) := by decide +kernel
theorem dL_isStep_162 : decode cL_isStep 162 = .ok (.goto 4, 3) := by decide +kernel
theorem dL_isStep_165 : decode cL_isStep 165 = .ok (.iconst 0, 1) := by decide +kernel
theorem dL_isStep_166 : decode cL_isStep 166 = .ok (.invokestatic 28, 3) := by decide +kernel
theorem dL_isStep_169 : decode cL_isStep 169 = .ok (.ireturn, 1) := by decide +kernel
theorem dL_isStep_170 : decode cL_isStep 170 = .ok (.iload_n 3, 1) := by decide +kernel
theorem dL_isStep_171 : decode cL_isStep 171 = .ok (.iconst 2, 1) := by decide +kernel
theorem dL_isStep_172 : decode cL_isStep 172 = .ok (.invokestatic 23, 3) := by decide +kernel
theorem dL_isStep_175 : decode cL_isStep 175 = .ok (.ifCond .ne 7, 3) := by decide +kernel
theorem dL_isStep_178 : decode cL_isStep 178 = .ok (.iconst 1, 1) := by decide +kernel
theorem dL_isStep_179 : decode cL_isStep 179 = .ok (.goto 4, 3) := by decide +kernel
theorem dL_isStep_182 : decode cL_isStep 182 = .ok (.iconst 0, 1) := by decide +kernel
theorem dL_isStep_183 : decode cL_isStep 183 = .ok (.istore 10, 2) := by decide +kernel
theorem dL_isStep_185 : decode cL_isStep 185 = .ok (.aload_n 0, 1) := by decide +kernel
theorem dL_isStep_186 : decode cL_isStep 186 = .ok (.iconst 2, 1) := by decide +kernel
theorem dL_isStep_187 : decode cL_isStep 187 = .ok (.invokevirtual 19, 3) := by decide +kernel
theorem dL_isStep_190 : decode cL_isStep 190 = .ok (.iconst 1, 1) := by decide +kernel
theorem dL_isStep_191 : decode cL_isStep 191 = .ok (.if_icmp .ne 7, 3) := by decide +kernel
theorem dL_isStep_194 : decode cL_isStep 194 = .ok (.iconst 1, 1) := by decide +kernel
theorem dL_isStep_195 : decode cL_isStep 195 = .ok (.goto 4, 3) := by decide +kernel
theorem dL_isStep_198 : decode cL_isStep 198 = .ok (.iconst 0, 1) := by decide +kernel
theorem dL_isStep_199 : decode cL_isStep 199 = .ok (.istore 11, 2) := by decide +kernel
theorem dL_isStep_201 : decode cL_isStep 201 = .ok (.aload_n 0, 1) := by decide +kernel
theorem dL_isStep_202 : decode cL_isStep 202 = .ok (.iload 10, 2) := by decide +kernel
theorem dL_isStep_204 : decode cL_isStep 204 = .ok (.invokevirtual 32, 3) := by decide +kernel
theorem dL_isStep_207 : decode cL_isStep 207 = .ok (.istore 12, 2) := by decide +kernel
theorem dL_isStep_209 : decode cL_isStep 209 = .ok (.iload 12, 2) := by decide +kernel
theorem dL_isStep_211 : decode cL_isStep 211 = .ok (.aload_n 1, 1) := by decide +kernel
theorem dL_isStep_212 : decode cL_isStep 212 = .ok (.iload 10, 2) := by decide +kernel
theorem dL_isStep_214 : decode cL_isStep 214 = .ok (.invokevirtual 32, 3) := by decide +kernel
theorem dL_isStep_217 : decode cL_isStep 217 = .ok (.if_icmp .ne 52, 3) := by decide +kernel
theorem dL_isStep_220 : decode cL_isStep 220 = .ok (.iload 12, 2) := by decide +kernel
theorem dL_isStep_222 : decode cL_isStep 222 = .ok (.sipush (-1005), 3) := by decide +kernel
theorem dL_isStep_225 : decode cL_isStep 225 = .ok (.if_icmp .ne 7, 3) := by decide +kernel
theorem dL_isStep_228 : decode cL_isStep 228 = .ok (.iconst 1, 1) := by decide +kernel
theorem dL_isStep_229 : decode cL_isStep 229 = .ok (.goto 4, 3) := by decide +kernel
theorem dL_isStep_232 : decode cL_isStep 232 = .ok (.iconst 0, 1) := by decide +kernel
theorem dL_isStep_233 : decode cL_isStep 233 = .ok (.iload 11, 2) := by decide +kernel
theorem dL_isStep_235 : decode cL_isStep 235 = .ok (.iload 10, 2) := by decide +kernel
theorem dL_isStep_237 : decode cL_isStep 237 = .ok (.if_icmp .ne 7, 3) := by decide +kernel
theorem dL_isStep_240 : decode cL_isStep 240 = .ok (.iconst 1, 1) := by decide +kernel
theorem dL_isStep_241 : decode cL_isStep 241 = .ok (.goto 4, 3) := by decide +kernel
theorem dL_isStep_244 : decode cL_isStep 244 = .ok (.iconst 0, 1) := by decide +kernel
theorem dL_isStep_245 : decode cL_isStep 245 = .ok (.if_icmp .ne 24, 3) := by decide +kernel
theorem dL_isStep_248 : decode cL_isStep 248 = .ok (.iload 11, 2) := by decide +kernel
theorem dL_isStep_250 : decode cL_isStep 250 = .ok (.iload 10, 2) := by decide +kernel
theorem dL_isStep_252 : decode cL_isStep 252 = .ok (.if_icmp .eq 13, 3) := by decide +kernel
theorem dL_isStep_255 : decode cL_isStep 255 = .ok (.iload 12, 2) := by decide +kernel
theorem dL_isStep_257 : decode cL_isStep 257 = .ok (.aload_n 0, 1) := by decide +kernel
theorem dL_isStep_258 : decode cL_isStep 258 = .ok (.iconst 3, 1) := by decide +kernel
theorem dL_isStep_259 : decode cL_isStep 259 = .ok (.invokevirtual 19, 3) := by decide +kernel
theorem dL_isStep_262 : decode cL_isStep 262 = .ok (.if_icmp .ne 7, 3) := by decide +kernel
theorem dL_isStep_265 : decode cL_isStep 265 = .ok (.iconst 1, 1) := by decide +kernel
theorem dL_isStep_266 : decode cL_isStep 266 = .ok (.goto 4, 3) := by decide +kernel
theorem dL_isStep_269 : decode cL_isStep 269 = .ok (.iconst 0, 1) := by decide +kernel
theorem dL_isStep_270 : decode cL_isStep 270 = .ok (.ireturn, 1) := by decide +kernel
theorem dL_isStep_271 : decode cL_isStep 271 = .ok (.iload_n 3, 1) := by decide +kernel
theorem dL_isStep_272 : decode cL_isStep 272 = .ok (.iconst 5, 1) := by decide +kernel
theorem dL_isStep_273 : decode cL_isStep 273 = .ok (.invokestatic 23, 3) := by decide +kernel
theorem dL_isStep_276 : decode cL_isStep 276 = .ok (.iconst 2, 1) := by decide +kernel
theorem dL_isStep_277 : decode cL_isStep 277 = .ok (.isub, 1) := by decide +kernel
theorem dL_isStep_278 : decode cL_isStep 278 = .ok (.istore 10, 2) := by decide +kernel
theorem dL_isStep_280 : decode cL_isStep 280 = .ok (.iload 4, 2) := by decide +kernel
theorem dL_isStep_282 : decode cL_isStep 282 = .ok (.iconst 2, 1) := by decide +kernel
theorem dL_isStep_283 : decode cL_isStep 283 = .ok (.invokestatic 23, 3) := by decide +kernel
theorem dL_isStep_286 : decode cL_isStep 286 = .ok (.ifCond .ne 7, 3) := by decide +kernel
theorem dL_isStep_289 : decode cL_isStep 289 = .ok (.iconst 1, 1) := by decide +kernel
theorem dL_isStep_290 : decode cL_isStep 290 = .ok (.goto 4, 3) := by decide +kernel
theorem dL_isStep_293 : decode cL_isStep 293 = .ok (.iconst 0, 1) := by decide +kernel
theorem dL_isStep_294 : decode cL_isStep 294 = .ok (.istore 11, 2) := by decide +kernel
theorem dL_isStep_296 : decode cL_isStep 296 = .ok (.aload_n 0, 1) := by decide +kernel
theorem dL_isStep_297 : decode cL_isStep 297 = .ok (.iload 11, 2) := by decide +kernel
theorem dL_isStep_299 : decode cL_isStep 299 = .ok (.iload 10, 2) := by decide +kernel
theorem dL_isStep_301 : decode cL_isStep 301 = .ok (.invokevirtual 36, 3) := by decide +kernel
theorem dL_isStep_304 : decode cL_isStep 304 = .ok (.aload_n 1, 1) := by decide +kernel
theorem dL_isStep_305 : decode cL_isStep 305 = .ok (.iload 11, 2) := by decide +kernel
theorem dL_isStep_307 : decode cL_isStep 307 = .ok (.iload 10, 2) := by decide +kernel
theorem dL_isStep_309 : decode cL_isStep 309 = .ok (.invokevirtual 36, 3) := by decide +kernel
theorem dL_isStep_312 : decode cL_isStep 312 = .ok (.if_icmp .ne 28, 3) := by decide +kernel
theorem dL_isStep_315 : decode cL_isStep 315 = .ok (.aload_n 0, 1) := by decide +kernel
theorem dL_isStep_316 : decode cL_isStep 316 = .ok (.iload 11, 2) := by decide +kernel
theorem dL_isStep_318 : decode cL_isStep 318 = .ok (.ifCond .eq 8, 3) := by decide +kernel
theorem dL_isStep_321 : decode cL_isStep 321 = .ok (.bipush 7, 2) := by decide +kernel
theorem dL_isStep_323 : decode cL_isStep 323 = .ok (.goto 5, 3) := by decide +kernel
theorem dL_isStep_326 : decode cL_isStep 326 = .ok (.bipush 6, 2) := by decide +kernel
theorem dL_isStep_328 : decode cL_isStep 328 = .ok (.invokevirtual 19, 3) := by decide +kernel
theorem dL_isStep_331 : decode cL_isStep 331 = .ok (.iload 10, 2) := by decide +kernel
theorem dL_isStep_333 : decode cL_isStep 333 = .ok (.if_icmp .ne 7, 3) := by decide +kernel
theorem dL_isStep_336 : decode cL_isStep 336 = .ok (.iconst 1, 1) := by decide +kernel
theorem dL_isStep_337 : decode cL_isStep 337 = .ok (.goto 4, 3) := by decide +kernel
theorem dL_isStep_340 : decode cL_isStep 340 = .ok (.iconst 0, 1) := by decide +kernel
theorem dL_isStep_341 : decode cL_isStep 341 = .ok (.ireturn, 1) := by decide +kernel
theorem dL_isStep_342 : decode cL_isStep 342 = .ok (.iload_n 3, 1) := by decide +kernel
theorem dL_isStep_343 : decode cL_isStep 343 = .ok (.bipush 7, 2) := by decide +kernel
theorem dL_isStep_345 : decode cL_isStep 345 = .ok (.invokestatic 23, 3) := by decide +kernel
theorem dL_isStep_348 : decode cL_isStep 348 = .ok (.iconst 3, 1) := by decide +kernel
theorem dL_isStep_349 : decode cL_isStep 349 = .ok (.isub, 1) := by decide +kernel
theorem dL_isStep_350 : decode cL_isStep 350 = .ok (.istore 10, 2) := by decide +kernel
theorem dL_isStep_352 : decode cL_isStep 352 = .ok (.aload_n 0, 1) := by decide +kernel
theorem dL_isStep_353 : decode cL_isStep 353 = .ok (.iload 7, 2) := by decide +kernel
theorem dL_isStep_355 : decode cL_isStep 355 = .ok (.iload 8, 2) := by decide +kernel
theorem dL_isStep_357 : decode cL_isStep 357 = .ok (.iconst 1, 1) := by decide +kernel
theorem dL_isStep_358 : decode cL_isStep 358 = .ok (.invokevirtual 40, 3) := by decide +kernel
theorem dL_isStep_361 : decode cL_isStep 361 = .ok (.istore 11, 2) := by decide +kernel
theorem dL_isStep_363 : decode cL_isStep 363 = .ok (.aload_n 0, 1) := by decide +kernel
theorem dL_isStep_364 : decode cL_isStep 364 = .ok (.iload 7, 2) := by decide +kernel
theorem dL_isStep_366 : decode cL_isStep 366 = .ok (.iload 8, 2) := by decide +kernel
theorem dL_isStep_368 : decode cL_isStep 368 = .ok (.iload 10, 2) := by decide +kernel
theorem dL_isStep_370 : decode cL_isStep 370 = .ok (.invokevirtual 44, 3) := by decide +kernel
theorem dL_isStep_373 : decode cL_isStep 373 = .ok (.istore 12, 2) := by decide +kernel
theorem dL_isStep_375 : decode cL_isStep 375 = .ok (.aload_n 1, 1) := by decide +kernel
theorem dL_isStep_376 : decode cL_isStep 376 = .ok (.iload 7, 2) := by decide +kernel
theorem dL_isStep_378 : decode cL_isStep 378 = .ok (.iload 8, 2) := by decide +kernel
theorem dL_isStep_380 : decode cL_isStep 380 = .ok (.iload 10, 2) := by decide +kernel
theorem dL_isStep_382 : decode cL_isStep 382 = .ok (.ineg, 1) := by decide +kernel
theorem dL_isStep_383 : decode cL_isStep 383 = .ok (.invokevirtual 44, 3) := by decide +kernel
theorem dL_isStep_386 : decode cL_isStep 386 = .ok (.istore 13, 2) := by decide +kernel
theorem dL_isStep_388 : decode cL_isStep 388 = .ok (.iload 12, 2) := by decide +kernel
theorem dL_isStep_390 : decode cL_isStep 390 = .ok (.iload 11, 2) := by decide +kernel
theorem dL_isStep_392 : decode cL_isStep 392 = .ok (.iload 10, 2) := by decide +kernel
theorem dL_isStep_394 : decode cL_isStep 394 = .ok (.if_icmp .ne 9, 3) := by decide +kernel
theorem dL_isStep_397 : decode cL_isStep 397 = .ok (.sipush (-1005), 3) := by decide +kernel
theorem dL_isStep_400 : decode cL_isStep 400 = .ok (.goto 5, 3) := by decide +kernel
theorem dL_isStep_403 : decode cL_isStep 403 = .ok (.iload 11, 2) := by decide +kernel
theorem dL_isStep_405 : decode cL_isStep 405 = .ok (.if_icmp .ne 54, 3) := by decide +kernel
theorem dL_isStep_408 : decode cL_isStep 408 = .ok (.iload 13, 2) := by decide +kernel
theorem dL_isStep_410 : decode cL_isStep 410 = .ok (.iload 11, 2) := by decide +kernel
theorem dL_isStep_412 : decode cL_isStep 412 = .ok (.iload 10, 2) := by decide +kernel
theorem dL_isStep_414 : decode cL_isStep 414 = .ok (.if_icmp .ne 9, 3) := by decide +kernel
theorem dL_isStep_417 : decode cL_isStep 417 = .ok (.sipush (-1005), 3) := by decide +kernel
theorem dL_isStep_420 : decode cL_isStep 420 = .ok (.goto 6, 3) := by decide +kernel
theorem dL_isStep_423 : decode cL_isStep 423 = .ok (.iload 11, 2) := by decide +kernel
theorem dL_isStep_425 : decode cL_isStep 425 = .ok (.ineg, 1) := by decide +kernel
theorem dL_isStep_426 : decode cL_isStep 426 = .ok (.if_icmp .ne 33, 3) := by decide +kernel
theorem dL_isStep_429 : decode cL_isStep 429 = .ok (.aload_n 0, 1) := by decide +kernel
theorem dL_isStep_430 : decode cL_isStep 430 = .ok (.iconst 3, 1) := by decide +kernel
theorem dL_isStep_431 : decode cL_isStep 431 = .ok (.invokevirtual 19, 3) := by decide +kernel
theorem dL_isStep_434 : decode cL_isStep 434 = .ok (.iload 9, 2) := by decide +kernel
theorem dL_isStep_436 : decode cL_isStep 436 = .ok (.iload 10, 2) := by decide +kernel
theorem dL_isStep_438 : decode cL_isStep 438 = .ok (.iload 11, 2) := by decide +kernel
theorem dL_isStep_440 : decode cL_isStep 440 = .ok (.isub, 1) := by decide +kernel
theorem dL_isStep_441 : decode cL_isStep 441 = .ok (.aload_n 0, 1) := by decide +kernel
theorem dL_isStep_442 : decode cL_isStep 442 = .ok (.iload 7, 2) := by decide +kernel
theorem dL_isStep_444 : decode cL_isStep 444 = .ok (.iload 8, 2) := by decide +kernel
theorem dL_isStep_446 : decode cL_isStep 446 = .ok (.iconst 0, 1) := by decide +kernel
theorem dL_isStep_447 : decode cL_isStep 447 = .ok (.invokevirtual 40, 3) := by decide +kernel
theorem dL_isStep_450 : decode cL_isStep 450 = .ok (.imul, 1) := by decide +kernel
theorem dL_isStep_451 : decode cL_isStep 451 = .ok (.isub, 1) := by decide +kernel
theorem dL_isStep_452 : decode cL_isStep 452 = .ok (.if_icmp .ne 7, 3) := by decide +kernel
theorem dL_isStep_455 : decode cL_isStep 455 = .ok (.iconst 1, 1) := by decide +kernel
theorem dL_isStep_456 : decode cL_isStep 456 = .ok (.goto 4, 3) := by decide +kernel
theorem dL_isStep_459 : decode cL_isStep 459 = .ok (.iconst 0, 1) := by decide +kernel
theorem dL_isStep_460 : decode cL_isStep 460 = .ok (.ireturn, 1) := by decide +kernel
theorem dL_isStep_461 : decode cL_isStep 461 = .ok (.aload_n 0, 1) := by decide +kernel
theorem dL_isStep_462 : decode cL_isStep 462 = .ok (.iload 7, 2) := by decide +kernel
theorem dL_isStep_464 : decode cL_isStep 464 = .ok (.iload 8, 2) := by decide +kernel
theorem dL_isStep_466 : decode cL_isStep 466 = .ok (.iconst 2, 1) := by decide +kernel
theorem dL_isStep_467 : decode cL_isStep 467 = .ok (.invokevirtual 40, 3) := by decide +kernel
theorem dL_isStep_470 : decode cL_isStep 470 = .ok (.istore 10, 2) := by decide +kernel
theorem dL_isStep_472 : decode cL_isStep 472 = .ok (.aload_n 0, 1) := by decide +kernel
theorem dL_isStep_473 : decode cL_isStep 473 = .ok (.iload 7, 2) := by decide +kernel
theorem dL_isStep_475 : decode cL_isStep 475 = .ok (.iload 8, 2) := by decide +kernel
theorem dL_isStep_477 : decode cL_isStep 477 = .ok (.invokevirtual 47, 3) := by decide +kernel
theorem dL_isStep_480 : decode cL_isStep 480 = .ok (.iload 9, 2) := by decide +kernel
theorem dL_isStep_482 : decode cL_isStep 482 = .ok (.iload 10, 2) := by decide +kernel
theorem dL_isStep_484 : decode cL_isStep 484 = .ok (.isub, 1) := by decide +kernel
theorem dL_isStep_485 : decode cL_isStep 485 = .ok (.if_icmp .ne 23, 3) := by decide +kernel
theorem dL_isStep_488 : decode cL_isStep 488 = .ok (.aload_n 1, 1) := by decide +kernel
theorem dL_isStep_489 : decode cL_isStep 489 = .ok (.iload 7, 2) := by decide +kernel
theorem dL_isStep_491 : decode cL_isStep 491 = .ok (.iload 8, 2) := by decide +kernel
theorem dL_isStep_493 : decode cL_isStep 493 = .ok (.invokevirtual 47, 3) := by decide +kernel
theorem dL_isStep_496 : decode cL_isStep 496 = .ok (.iload 9, 2) := by decide +kernel
theorem dL_isStep_498 : decode cL_isStep 498 = .ok (.iload 10, 2) := by decide +kernel
theorem dL_isStep_500 : decode cL_isStep 500 = .ok (.isub, 1) := by decide +kernel
theorem dL_isStep_501 : decode cL_isStep 501 = .ok (.if_icmp .ne 7, 3) := by decide +kernel
theorem dL_isStep_504 : decode cL_isStep 504 = .ok (.iconst 1, 1) := by decide +kernel
theorem dL_isStep_505 : decode cL_isStep 505 = .ok (.goto 4, 3) := by decide +kernel
theorem dL_isStep_508 : decode cL_isStep 508 = .ok (.iconst 0, 1) := by decide +kernel
theorem dL_isStep_509 : decode cL_isStep 509 = .ok (.ireturn, 1) := by decide +kernel
theorem dL_isStep_510 : decode cL_isStep 510 = .ok (.aload_n 0, 1) := by decide +kernel
theorem dL_isStep_511 : decode cL_isStep 511 = .ok (.iload 7, 2) := by decide +kernel
theorem dL_isStep_513 : decode cL_isStep 513 = .ok (.iload 8, 2) := by decide +kernel
theorem dL_isStep_515 : decode cL_isStep 515 = .ok (.bipush 6, 2) := by decide +kernel
theorem dL_isStep_517 : decode cL_isStep 517 = .ok (.invokevirtual 40, 3) := by decide +kernel
theorem dL_isStep_520 : decode cL_isStep 520 = .ok (.istore 10, 2) := by decide +kernel
theorem dL_isStep_522 : decode cL_isStep 522 = .ok (.aload_n 0, 1) := by decide +kernel
theorem dL_isStep_523 : decode cL_isStep 523 = .ok (.iload 7, 2) := by decide +kernel
theorem dL_isStep_525 : decode cL_isStep 525 = .ok (.iload 8, 2) := by decide +kernel
theorem dL_isStep_527 : decode cL_isStep 527 = .ok (.invokevirtual 15, 3) := by decide +kernel
theorem dL_isStep_530 : decode cL_isStep 530 = .ok (.iload 10, 2) := by decide +kernel
theorem dL_isStep_532 : decode cL_isStep 532 = .ok (.if_icmp .ne 20, 3) := by decide +kernel
theorem dL_isStep_535 : decode cL_isStep 535 = .ok (.aload_n 1, 1) := by decide +kernel
theorem dL_isStep_536 : decode cL_isStep 536 = .ok (.iload 7, 2) := by decide +kernel
theorem dL_isStep_538 : decode cL_isStep 538 = .ok (.iload 8, 2) := by decide +kernel
theorem dL_isStep_540 : decode cL_isStep 540 = .ok (.invokevirtual 15, 3) := by decide +kernel
theorem dL_isStep_543 : decode cL_isStep 543 = .ok (.iload 10, 2) := by decide +kernel
theorem dL_isStep_545 : decode cL_isStep 545 = .ok (.if_icmp .ne 7, 3) := by decide +kernel
theorem dL_isStep_548 : decode cL_isStep 548 = .ok (.iconst 1, 1) := by decide +kernel
theorem dL_isStep_549 : decode cL_isStep 549 = .ok (.goto 4, 3) := by decide +kernel
theorem dL_isStep_552 : decode cL_isStep 552 = .ok (.iconst 0, 1) := by decide +kernel
theorem dL_isStep_553 : decode cL_isStep 553 = .ok (.ireturn, 1) := by decide +kernel
theorem dL_isStep_554 : decode cL_isStep 554 = .ok (.iconst 1, 1) := by decide +kernel
theorem dL_isStep_555 : decode cL_isStep 555 = .ok (.iload_n 3, 1) := by decide +kernel
theorem dL_isStep_556 : decode cL_isStep 556 = .ok (.iconst 5, 1) := by decide +kernel
theorem dL_isStep_557 : decode cL_isStep 557 = .ok (.invokestatic 23, 3) := by decide +kernel
theorem dL_isStep_560 : decode cL_isStep 560 = .ok (.iadd, 1) := by decide +kernel
theorem dL_isStep_561 : decode cL_isStep 561 = .ok (.istore 10, 2) := by decide +kernel
theorem dL_isStep_563 : decode cL_isStep 563 = .ok (.aload_n 0, 1) := by decide +kernel
theorem dL_isStep_564 : decode cL_isStep 564 = .ok (.iload 10, 2) := by decide +kernel
theorem dL_isStep_566 : decode cL_isStep 566 = .ok (.invokevirtual 50, 3) := by decide +kernel
theorem dL_isStep_569 : decode cL_isStep 569 = .ok (.istore 11, 2) := by decide +kernel
theorem dL_isStep_571 : decode cL_isStep 571 = .ok (.iload 11, 2) := by decide +kernel
theorem dL_isStep_573 : decode cL_isStep 573 = .ok (.aload_n 1, 1) := by decide +kernel
theorem dL_isStep_574 : decode cL_isStep 574 = .ok (.iload 10, 2) := by decide +kernel
theorem dL_isStep_576 : decode cL_isStep 576 = .ok (.invokevirtual 50, 3) := by decide +kernel
theorem dL_isStep_579 : decode cL_isStep 579 = .ok (.if_icmp .ne 57, 3) := by decide +kernel
theorem dL_isStep_582 : decode cL_isStep 582 = .ok (.iload 11, 2) := by decide +kernel
theorem dL_isStep_584 : decode cL_isStep 584 = .ok (.sipush (-1005), 3) := by decide +kernel
theorem dL_isStep_587 : decode cL_isStep 587 = .ok (.if_icmp .ne 25, 3) := by decide +kernel
theorem dL_isStep_590 : decode cL_isStep 590 = .ok (.aload_n 0, 1) := by decide +kernel
theorem dL_isStep_591 : decode cL_isStep 591 = .ok (.bipush 12, 2) := by decide +kernel
theorem dL_isStep_593 : decode cL_isStep 593 = .ok (.invokevirtual 19, 3) := by decide +kernel
theorem dL_isStep_596 : decode cL_isStep 596 = .ok (.ifCond .ne 40, 3) := by decide +kernel
theorem dL_isStep_599 : decode cL_isStep 599 = .ok (.aload_n 0, 1) := by decide +kernel
theorem dL_isStep_600 : decode cL_isStep 600 = .ok (.iconst 3, 1) := by decide +kernel
theorem dL_isStep_601 : decode cL_isStep 601 = .ok (.invokevirtual 19, 3) := by decide +kernel
theorem dL_isStep_604 : decode cL_isStep 604 = .ok (.iload 9, 2) := by decide +kernel
theorem dL_isStep_606 : decode cL_isStep 606 = .ok (.if_icmp .ne 30, 3) := by decide +kernel
theorem dL_isStep_609 : decode cL_isStep 609 = .ok (.goto 23, 3) := by decide +kernel
theorem dL_isStep_612 : decode cL_isStep 612 = .ok (.iload 11, 2) := by decide +kernel
theorem dL_isStep_614 : decode cL_isStep 614 = .ok (.ifCond .le 22, 3) := by decide +kernel
theorem dL_isStep_617 : decode cL_isStep 617 = .ok (.aload_n 0, 1) := by decide +kernel
theorem dL_isStep_618 : decode cL_isStep 618 = .ok (.iconst 3, 1) := by decide +kernel
theorem dL_isStep_619 : decode cL_isStep 619 = .ok (.invokevirtual 19, 3) := by decide +kernel
theorem dL_isStep_622 : decode cL_isStep 622 = .ok (.iload 9, 2) := by decide +kernel
theorem dL_isStep_624 : decode cL_isStep 624 = .ok (.iconst 2, 1) := by decide +kernel
theorem dL_isStep_625 : decode cL_isStep 625 = .ok (.iload 11, 2) := by decide +kernel
theorem dL_isStep_627 : decode cL_isStep 627 = .ok (.imul, 1) := by decide +kernel
theorem dL_isStep_628 : decode cL_isStep 628 = .ok (.isub, 1) := by decide +kernel
theorem dL_isStep_629 : decode cL_isStep 629 = .ok (.if_icmp .gt 7, 3) := by decide +kernel
theorem dL_isStep_632 : decode cL_isStep 632 = .ok (.iconst 1, 1) := by decide +kernel
theorem dL_isStep_633 : decode cL_isStep 633 = .ok (.goto 4, 3) := by decide +kernel
theorem dL_isStep_636 : decode cL_isStep 636 = .ok (.iconst 0, 1) := by decide +kernel
theorem dL_isStep_637 : decode cL_isStep 637 = .ok (.ireturn, 1) := by decide +kernel
theorem dL_isStep_638 : decode cL_isStep 638 = .ok (.aload_n 0, 1) := by decide +kernel
theorem dL_isStep_639 : decode cL_isStep 639 = .ok (.aload_n 1, 1) := by decide +kernel
theorem dL_isStep_640 : decode cL_isStep 640 = .ok (.iload_n 3, 1) := by decide +kernel
theorem dL_isStep_641 : decode cL_isStep 641 = .ok (.iconst 1, 1) := by decide +kernel
theorem dL_isStep_642 : decode cL_isStep 642 = .ok (.iload 4, 2) := by decide +kernel
theorem dL_isStep_644 : decode cL_isStep 644 = .ok (.bipush 10, 2) := by decide +kernel
theorem dL_isStep_646 : decode cL_isStep 646 = .ok (.invokestatic 23, 3) := by decide +kernel
theorem dL_isStep_649 : decode cL_isStep 649 = .ok (.iadd, 1) := by decide +kernel
theorem dL_isStep_650 : decode cL_isStep 650 = .ok (.iconst 1, 1) := by decide +kernel
theorem dL_isStep_651 : decode cL_isStep 651 = .ok (.iload 4, 2) := by decide +kernel
theorem dL_isStep_653 : decode cL_isStep 653 = .ok (.iconst 4, 1) := by decide +kernel
theorem dL_isStep_654 : decode cL_isStep 654 = .ok (.ishr, 1) := by decide +kernel
theorem dL_isStep_655 : decode cL_isStep 655 = .ok (.iconst 3, 1) := by decide +kernel
theorem dL_isStep_656 : decode cL_isStep 656 = .ok (.invokestatic 23, 3) := by decide +kernel
theorem dL_isStep_659 : decode cL_isStep 659 = .ok (.iadd, 1) := by decide +kernel
theorem dL_isStep_660 : decode cL_isStep 660 = .ok (.invokestatic 53, 3) := by decide +kernel
theorem dL_isStep_663 : decode cL_isStep 663 = .ok (.ireturn, 1) := by decide +kernel
theorem dL_isStep_664 : decode cL_isStep 664 = .ok (.aload_n 0, 1) := by decide +kernel
theorem dL_isStep_665 : decode cL_isStep 665 = .ok (.aload_n 1, 1) := by decide +kernel
theorem dL_isStep_666 : decode cL_isStep 666 = .ok (.iload_n 3, 1) := by decide +kernel
theorem dL_isStep_667 : decode cL_isStep 667 = .ok (.invokestatic 57, 3) := by decide +kernel
theorem dL_isStep_670 : decode cL_isStep 670 = .ok (.ireturn, 1) := by decide +kernel
theorem dL_isText_0 : decode cL_isText 0 = .ok (.aload_n 0, 1) := by decide +kernel
theorem dL_isText_1 : decode cL_isText 1 = .ok (.invokevirtual 61, 3) := by decide +kernel
theorem dL_isText_4 : decode cL_isText 4 = .ok (.aload_n 1, 1) := by decide +kernel
theorem dL_isText_5 : decode cL_isText 5 = .ok (.invokevirtual 61, 3) := by decide +kernel
theorem dL_isText_8 : decode cL_isText 8 = .ok (.if_icmp .ne 7, 3) := by decide +kernel
theorem dL_isText_11 : decode cL_isText 11 = .ok (.iconst 1, 1) := by decide +kernel
theorem dL_isText_12 : decode cL_isText 12 = .ok (.goto 4, 3) := by decide +kernel
theorem dL_isText_15 : decode cL_isText 15 = .ok (.iconst 0, 1) := by decide +kernel
theorem dL_isText_16 : decode cL_isText 16 = .ok (.istore 5, 2) := by decide +kernel
theorem dL_isText_18 : decode cL_isText 18 = .ok (.iconst 0, 1) := by decide +kernel
theorem dL_isText_19 : decode cL_isText 19 = .ok (.istore 6, 2) := by decide +kernel
theorem dL_isText_21 : decode cL_isText 21 = .ok (.iload 6, 2) := by decide +kernel
theorem dL_isText_23 : decode cL_isText 23 = .ok (.iload_n 3, 1) := by decide +kernel
theorem dL_isText_24 : decode cL_isText 24 = .ok (.if_icmp .ge 131, 3) := by decide +kernel
theorem dL_isText_27 : decode cL_isText 27 = .ok (.iload 5, 2) := by decide +kernel
theorem dL_isText_29 : decode cL_isText 29 = .ok (.ifCond .eq 27, 3) := by decide +kernel
theorem dL_isText_32 : decode cL_isText 32 = .ok (.iload 6, 2) := by decide +kernel
theorem dL_isText_34 : decode cL_isText 34 = .ok (.ifCond .eq 18, 3) := by decide +kernel
theorem dL_isText_37 : decode cL_isText 37 = .ok (.aload_n 0, 1) := by decide +kernel
theorem dL_isText_38 : decode cL_isText 38 = .ok (.bipush 44, 2) := by decide +kernel
theorem dL_isText_40 : decode cL_isText 40 = .ok (.invokevirtual 65, 3) := by decide +kernel
theorem dL_isText_43 : decode cL_isText 43 = .ok (.aload_n 1, 1) := by decide +kernel
theorem dL_isText_44 : decode cL_isText 44 = .ok (.bipush 44, 2) := by decide +kernel
theorem dL_isText_46 : decode cL_isText 46 = .ok (.invokevirtual 65, 3) := by decide +kernel
theorem dL_isText_49 : decode cL_isText 49 = .ok (.if_icmp .ne 7, 3) := by decide +kernel
theorem dL_isText_52 : decode cL_isText 52 = .ok (.iconst 1, 1) := by decide +kernel
theorem dL_isText_53 : decode cL_isText 53 = .ok (.goto 4, 3) := by decide +kernel
theorem dL_isText_56 : decode cL_isText 56 = .ok (.iconst 0, 1) := by decide +kernel
theorem dL_isText_57 : decode cL_isText 57 = .ok (.istore 5, 2) := by decide +kernel
theorem dL_isText_59 : decode cL_isText 59 = .ok (.iconst 0, 1) := by decide +kernel
theorem dL_isText_60 : decode cL_isText 60 = .ok (.istore 7, 2) := by decide +kernel
theorem dL_isText_62 : decode cL_isText 62 = .ok (.iload 7, 2) := by decide +kernel
theorem dL_isText_64 : decode cL_isText 64 = .ok (.iload 4, 2) := by decide +kernel
theorem dL_isText_66 : decode cL_isText 66 = .ok (.if_icmp .ge 83, 3) := by decide +kernel
theorem dL_isText_69 : decode cL_isText 69 = .ok (.iload_n 2, 1) := by decide +kernel
theorem dL_isText_70 : decode cL_isText 70 = .ok (.iload 6, 2) := by decide +kernel
theorem dL_isText_72 : decode cL_isText 72 = .ok (.iload 7, 2) := by decide +kernel
theorem dL_isText_74 : decode cL_isText 74 = .ok (.iadd, 1) := by decide +kernel
theorem dL_isText_75 : decode cL_isText 75 = .ok (.ishr, 1) := by decide +kernel
theorem dL_isText_76 : decode cL_isText 76 = .ok (.iload 6, 2) := by decide +kernel
theorem dL_isText_78 : decode cL_isText 78 = .ok (.iload 7, 2) := by decide +kernel
theorem dL_isText_80 : decode cL_isText 80 = .ok (.imul, 1) := by decide +kernel
theorem dL_isText_81 : decode cL_isText 81 = .ok (.ixor, 1) := by decide +kernel
theorem dL_isText_82 : decode cL_isText 82 = .ok (.iconst 2, 1) := by decide +kernel
theorem dL_isText_83 : decode cL_isText 83 = .ok (.invokestatic 23, 3) := by decide +kernel
theorem dL_isText_86 : decode cL_isText 86 = .ok (.ifCond .ne 7, 3) := by decide +kernel
theorem dL_isText_89 : decode cL_isText 89 = .ok (.iconst 1, 1) := by decide +kernel
theorem dL_isText_90 : decode cL_isText 90 = .ok (.goto 4, 3) := by decide +kernel
theorem dL_isText_93 : decode cL_isText 93 = .ok (.iconst 0, 1) := by decide +kernel
theorem dL_isText_94 : decode cL_isText 94 = .ok (.istore 8, 2) := by decide +kernel
theorem dL_isText_96 : decode cL_isText 96 = .ok (.iload 5, 2) := by decide +kernel
theorem dL_isText_98 : decode cL_isText 98 = .ok (.ifCond .eq 42, 3) := by decide +kernel
theorem dL_isText_101 : decode cL_isText 101 = .ok (.aload_n 0, 1) := by decide +kernel
theorem dL_isText_102 : decode cL_isText 102 = .ok (.iload 8, 2) := by decide +kernel
theorem dL_isText_104 : decode cL_isText 104 = .ok (.ifCond .eq 8, 3) := by decide +kernel
theorem dL_isText_107 : decode cL_isText 107 = .ok (.bipush 45, 2) := by decide +kernel
theorem dL_isText_109 : decode cL_isText 109 = .ok (.goto 5, 3) := by decide +kernel
theorem dL_isText_112 : decode cL_isText 112 = .ok (.bipush 43, 2) := by decide +kernel
theorem dL_isText_114 : decode cL_isText 114 = .ok (.invokevirtual 65, 3) := by decide +kernel
theorem dL_isText_117 : decode cL_isText 117 = .ok (.aload_n 1, 1) := by decide +kernel
theorem dL_isText_118 : decode cL_isText 118 = .ok (.iload 8, 2) := by decide +kernel
theorem dL_isText_120 : decode cL_isText 120 = .ok (.ifCond .eq 8, 3) := by decide +kernel
theorem dL_isText_123 : decode cL_isText 123 = .ok (.bipush 43, 2) := by decide +kernel
theorem dL_isText_125 : decode cL_isText 125 = .ok (.goto 5, 3) := by decide +kernel
theorem dL_isText_128 : decode cL_isText 128 = .ok (.bipush 45, 2) := by decide +kernel
theorem dL_isText_130 : decode cL_isText 130 = .ok (.invokevirtual 65, 3) := by decide +kernel
theorem dL_isText_133 : decode cL_isText 133 = .ok (.if_icmp .ne 7, 3) := by decide +kernel
theorem dL_isText_136 : decode cL_isText 136 = .ok (.iconst 1, 1) := by decide +kernel
theorem dL_isText_137 : decode cL_isText 137 = .ok (.goto 4, 3) := by decide +kernel
theorem dL_isText_140 : decode cL_isText 140 = .ok (.iconst 0, 1) := by decide +kernel
theorem dL_isText_141 : decode cL_isText 141 = .ok (.istore 5, 2) := by decide +kernel
theorem dL_isText_143 : decode cL_isText 143 = .ok (.iinc 7 1, 3) := by decide +kernel
theorem dL_isText_146 : decode cL_isText 146 = .ok (.goto (-84), 3) := by decide +kernel
theorem dL_isText_149 : decode cL_isText 149 = .ok (.iinc 6 1, 3) := by decide +kernel
theorem dL_isText_152 : decode cL_isText 152 = .ok (.goto (-131), 3) := by decide +kernel
theorem dL_isText_155 : decode cL_isText 155 = .ok (.iload_n 2, 1) := by decide +kernel
theorem dL_isText_156 : decode cL_isText 156 = .ok (.iconst 4, 1) := by decide +kernel
theorem dL_isText_157 : decode cL_isText 157 = .ok (.invokestatic 23, 3) := by decide +kernel
theorem dL_isText_160 : decode cL_isText 160 = .ok (.ifCond .ne 12, 3) := by decide +kernel
theorem dL_isText_163 : decode cL_isText 163 = .ok (.iload_n 3, 1) := by decide +kernel
theorem dL_isText_164 : decode cL_isText 164 = .ok (.iconst 1, 1) := by decide +kernel
theorem dL_isText_165 : decode cL_isText 165 = .ok (.if_icmp .le 7, 3) := by decide +kernel
theorem dL_isText_168 : decode cL_isText 168 = .ok (.iconst 1, 1) := by decide +kernel
theorem dL_isText_169 : decode cL_isText 169 = .ok (.goto 4, 3) := by decide +kernel
theorem dL_isText_172 : decode cL_isText 172 = .ok (.iconst 0, 1) := by decide +kernel
theorem dL_isText_173 : decode cL_isText 173 = .ok (.istore 6, 2) := by decide +kernel
theorem dL_isText_175 : decode cL_isText 175 = .ok (.iload 5, 2) := by decide +kernel
theorem dL_isText_177 : decode cL_isText 177 = .ok (.ifCond .eq 27, 3) := by decide +kernel
theorem dL_isText_180 : decode cL_isText 180 = .ok (.iload 6, 2) := by decide +kernel
theorem dL_isText_182 : decode cL_isText 182 = .ok (.ifCond .eq 18, 3) := by decide +kernel
theorem dL_isText_185 : decode cL_isText 185 = .ok (.aload_n 0, 1) := by decide +kernel
theorem dL_isText_186 : decode cL_isText 186 = .ok (.bipush 44, 2) := by decide +kernel
theorem dL_isText_188 : decode cL_isText 188 = .ok (.invokevirtual 65, 3) := by decide +kernel
theorem dL_isText_191 : decode cL_isText 191 = .ok (.aload_n 1, 1) := by decide +kernel
theorem dL_isText_192 : decode cL_isText 192 = .ok (.bipush 44, 2) := by decide +kernel
theorem dL_isText_194 : decode cL_isText 194 = .ok (.invokevirtual 65, 3) := by decide +kernel
theorem dL_isText_197 : decode cL_isText 197 = .ok (.if_icmp .ne 7, 3) := by decide +kernel
theorem dL_isText_200 : decode cL_isText 200 = .ok (.iconst 1, 1) := by decide +kernel
theorem dL_isText_201 : decode cL_isText 201 = .ok (.goto 4, 3) := by decide +kernel
theorem dL_isText_204 : decode cL_isText 204 = .ok (.iconst 0, 1) := by decide +kernel
theorem dL_isText_205 : decode cL_isText 205 = .ok (.istore 5, 2) := by decide +kernel
theorem dL_isText_207 : decode cL_isText 207 = .ok (.aload_n 0, 1) := by decide +kernel
theorem dL_isText_208 : decode cL_isText 208 = .ok (.invokevirtual 69, 3) := by decide +kernel
theorem dL_isText_211 : decode cL_isText 211 = .ok (.istore 7, 2) := by decide +kernel
theorem dL_isText_213 : decode cL_isText 213 = .ok (.iload 5, 2) := by decide +kernel
theorem dL_isText_215 : decode cL_isText 215 = .ok (.ifCond .eq 64, 3) := by decide +kernel
theorem dL_isText_218 : decode cL_isText 218 = .ok (.iload 7, 2) := by decide +kernel
theorem dL_isText_220 : decode cL_isText 220 = .ok (.aload_n 1, 1) := by decide +kernel
theorem dL_isText_221 : decode cL_isText 221 = .ok (.invokevirtual 69, 3) := by decide +kernel
theorem dL_isText_224 : decode cL_isText 224 = .ok (.if_icmp .ne 55, 3) := by decide +kernel
theorem dL_isText_227 : decode cL_isText 227 = .ok (.iload 7, 2) := by decide +kernel
theorem dL_isText_229 : decode cL_isText 229 = .ok (.iload 6, 2) := by decide +kernel
theorem dL_isText_231 : decode cL_isText 231 = .ok (.ifCond .eq 37, 3) := by decide +kernel
theorem dL_isText_234 : decode cL_isText 234 = .ok (.iload_n 3, 1) := by decide +kernel
theorem dL_isText_235 : decode cL_isText 235 = .ok (.bipush 10, 2) := by decide +kernel
theorem dL_isText_237 : decode cL_isText 237 = .ok (.if_icmp .ne 18, 3) := by decide +kernel
theorem dL_isText_240 : decode cL_isText 240 = .ok (.sipush (-1100), 3) := by decide +kernel
theorem dL_isText_243 : decode cL_isText 243 = .ok (.bipush 10, 2) := by decide +kernel
theorem dL_isText_245 : decode cL_isText 245 = .ok (.iload 4, 2) := by decide +kernel
theorem dL_isText_247 : decode cL_isText 247 = .ok (.imul, 1) := by decide +kernel
theorem dL_isText_248 : decode cL_isText 248 = .ok (.bipush 9, 2) := by decide +kernel
theorem dL_isText_250 : decode cL_isText 250 = .ok (.iadd, 1) := by decide +kernel
theorem dL_isText_251 : decode cL_isText 251 = .ok (.isub, 1) := by decide +kernel
theorem dL_isText_252 : decode cL_isText 252 = .ok (.goto 20, 3) := by decide +kernel
theorem dL_isText_255 : decode cL_isText 255 = .ok (.sipush (-1100), 3) := by decide +kernel
theorem dL_isText_258 : decode cL_isText 258 = .ok (.iload_n 3, 1) := by decide +kernel
theorem dL_isText_259 : decode cL_isText 259 = .ok (.iload 4, 2) := by decide +kernel
theorem dL_isText_261 : decode cL_isText 261 = .ok (.imul, 1) := by decide +kernel
theorem dL_isText_262 : decode cL_isText 262 = .ok (.iload_n 3, 1) := by decide +kernel
theorem dL_isText_263 : decode cL_isText 263 = .ok (.iadd, 1) := by decide +kernel
theorem dL_isText_264 : decode cL_isText 264 = .ok (.isub, 1) := by decide +kernel
theorem dL_isText_265 : decode cL_isText 265 = .ok (.goto 7, 3) := by decide +kernel
theorem dL_isText_268 : decode cL_isText 268 = .ok (.iload_n 3, 1) := by decide +kernel
theorem dL_isText_269 : decode cL_isText 269 = .ok (.iload 4, 2) := by decide +kernel
theorem dL_isText_271 : decode cL_isText 271 = .ok (.imul, 1) := by decide +kernel
theorem dL_isText_272 : decode cL_isText 272 = .ok (.if_icmp .ne 7, 3) := by decide +kernel
theorem dL_isText_275 : decode cL_isText 275 = .ok (.iconst 1, 1) := by decide +kernel
theorem dL_isText_276 : decode cL_isText 276 = .ok (.goto 4, 3) := by decide +kernel
theorem dL_isText_279 : decode cL_isText 279 = .ok (.iconst 0, 1) := by decide +kernel
theorem dL_isText_280 : decode cL_isText 280 = .ok (.ireturn, 1) := by decide +kernel
theorem dL_isSlot_0 : decode cL_isSlot 0 = .ok (.iload_n 2, 1) := by decide +kernel
theorem dL_isSlot_1 : decode cL_isSlot 1 = .ok (.iconst 3, 1) := by decide +kernel
theorem dL_isSlot_2 : decode cL_isSlot 2 = .ok (.invokestatic 23, 3) := by decide +kernel
theorem dL_isSlot_5 : decode cL_isSlot 5 = .ok (.ifCond .ne 20, 3) := by decide +kernel
theorem dL_isSlot_8 : decode cL_isSlot 8 = .ok (.aload_n 0, 1) := by decide +kernel
theorem dL_isSlot_9 : decode cL_isSlot 9 = .ok (.invokevirtual 72, 3) := by decide +kernel
theorem dL_isSlot_12 : decode cL_isSlot 12 = .ok (.aload_n 1, 1) := by decide +kernel
theorem dL_isSlot_13 : decode cL_isSlot 13 = .ok (.invokevirtual 72, 3) := by decide +kernel
theorem dL_isSlot_16 : decode cL_isSlot 16 = .ok (.if_icmp .ne 7, 3) := by decide +kernel
theorem dL_isSlot_19 : decode cL_isSlot 19 = .ok (.iconst 1, 1) := by decide +kernel
theorem dL_isSlot_20 : decode cL_isSlot 20 = .ok (.goto 4, 3) := by decide +kernel
theorem dL_isSlot_23 : decode cL_isSlot 23 = .ok (.iconst 0, 1) := by decide +kernel
theorem dL_isSlot_24 : decode cL_isSlot 24 = .ok (.ireturn, 1) := by decide +kernel
theorem dL_isSlot_25 : decode cL_isSlot 25 = .ok (.iload_n 2, 1) := by decide +kernel
theorem dL_isSlot_26 : decode cL_isSlot 26 = .ok (.iconst 3, 1) := by decide +kernel
theorem dL_isSlot_27 : decode cL_isSlot 27 = .ok (.invokestatic 23, 3) := by decide +kernel
theorem dL_isSlot_30 : decode cL_isSlot 30 = .ok (.iconst 1, 1) := by decide +kernel
theorem dL_isSlot_31 : decode cL_isSlot 31 = .ok (.if_icmp .eq 14, 3) := by decide +kernel
theorem dL_isSlot_34 : decode cL_isSlot 34 = .ok (.aload_n 0, 1) := by decide +kernel
theorem dL_isSlot_35 : decode cL_isSlot 35 = .ok (.invokevirtual 75, 3) := by decide +kernel
theorem dL_isSlot_38 : decode cL_isSlot 38 = .ok (.aload_n 1, 1) := by decide +kernel
theorem dL_isSlot_39 : decode cL_isSlot 39 = .ok (.invokevirtual 75, 3) := by decide +kernel
theorem dL_isSlot_42 : decode cL_isSlot 42 = .ok (.if_icmp .ne 7, 3) := by decide +kernel
theorem dL_isSlot_45 : decode cL_isSlot 45 = .ok (.iconst 1, 1) := by decide +kernel
theorem dL_isSlot_46 : decode cL_isSlot 46 = .ok (.goto 4, 3) := by decide +kernel
theorem dL_isSlot_49 : decode cL_isSlot 49 = .ok (.iconst 0, 1) := by decide +kernel
theorem dL_isSlot_50 : decode cL_isSlot 50 = .ok (.ireturn, 1) := by decide +kernel
theorem dL_isAll_0 : decode cL_isAll 0 = .ok (.aload_n 0, 1) := by decide +kernel
theorem dL_isAll_1 : decode cL_isAll 1 = .ok (.iconst 0, 1) := by decide +kernel
theorem dL_isAll_2 : decode cL_isAll 2 = .ok (.invokevirtual 19, 3) := by decide +kernel
theorem dL_isAll_5 : decode cL_isAll 5 = .ok (.aload_n 0, 1) := by decide +kernel
theorem dL_isAll_6 : decode cL_isAll 6 = .ok (.iconst 1, 1) := by decide +kernel
theorem dL_isAll_7 : decode cL_isAll 7 = .ok (.invokevirtual 19, 3) := by decide +kernel
theorem dL_isAll_10 : decode cL_isAll 10 = .ok (.imul, 1) := by decide +kernel
theorem dL_isAll_11 : decode cL_isAll 11 = .ok (.istore_n 3, 1) := by decide +kernel
theorem dL_isAll_12 : decode cL_isAll 12 = .ok (.iload_n 2, 1) := by decide +kernel
theorem dL_isAll_13 : decode cL_isAll 13 = .ok (.iload_n 3, 1) := by decide +kernel
theorem dL_isAll_14 : decode cL_isAll 14 = .ok (.iconst 1, 1) := by decide +kernel
theorem dL_isAll_15 : decode cL_isAll 15 = .ok (.iadd, 1) := by decide +kernel
theorem dL_isAll_16 : decode cL_isAll 16 = .ok (.invokestatic 23, 3) := by decide +kernel
theorem dL_isAll_19 : decode cL_isAll 19 = .ok (.istore 4, 2) := by decide +kernel
theorem dL_isAll_21 : decode cL_isAll 21 = .ok (.iload_n 2, 1) := by decide +kernel
theorem dL_isAll_22 : decode cL_isAll 22 = .ok (.iconst 5, 1) := by decide +kernel
theorem dL_isAll_23 : decode cL_isAll 23 = .ok (.ishr, 1) := by decide +kernel
theorem dL_isAll_24 : decode cL_isAll 24 = .ok (.bipush 61, 2) := by decide +kernel
theorem dL_isAll_26 : decode cL_isAll 26 = .ok (.invokestatic 23, 3) := by decide +kernel
theorem dL_isAll_29 : decode cL_isAll 29 = .ok (.bipush 30, 2) := by decide +kernel
theorem dL_isAll_31 : decode cL_isAll 31 = .ok (.isub, 1) := by decide +kernel
theorem dL_isAll_32 : decode cL_isAll 32 = .ok (.istore 5, 2) := by decide +kernel
theorem dL_isAll_34 : decode cL_isAll 34 = .ok (.aload_n 0, 1) := by decide +kernel
theorem dL_isAll_35 : decode cL_isAll 35 = .ok (.bipush 8, 2) := by decide +kernel
theorem dL_isAll_37 : decode cL_isAll 37 = .ok (.invokevirtual 19, 3) := by decide +kernel
theorem dL_isAll_40 : decode cL_isAll 40 = .ok (.aload_n 1, 1) := by decide +kernel
theorem dL_isAll_41 : decode cL_isAll 41 = .ok (.bipush 8, 2) := by decide +kernel
theorem dL_isAll_43 : decode cL_isAll 43 = .ok (.invokevirtual 19, 3) := by decide +kernel
theorem dL_isAll_46 : decode cL_isAll 46 = .ok (.if_icmp .ne 179, 3) := by decide +kernel
theorem dL_isAll_49 : decode cL_isAll 49 = .ok (.aload_n 0, 1) := by decide +kernel
theorem dL_isAll_50 : decode cL_isAll 50 = .ok (.bipush 9, 2) := by decide +kernel
theorem dL_isAll_52 : decode cL_isAll 52 = .ok (.invokevirtual 19, 3) := by decide +kernel
theorem dL_isAll_55 : decode cL_isAll 55 = .ok (.aload_n 1, 1) := by decide +kernel
theorem dL_isAll_56 : decode cL_isAll 56 = .ok (.bipush 9, 2) := by decide +kernel
theorem dL_isAll_58 : decode cL_isAll 58 = .ok (.invokevirtual 19, 3) := by decide +kernel
theorem dL_isAll_61 : decode cL_isAll 61 = .ok (.if_icmp .ne 164, 3) := by decide +kernel
theorem dL_isAll_64 : decode cL_isAll 64 = .ok (.aload_n 0, 1) := by decide +kernel
theorem dL_isAll_65 : decode cL_isAll 65 = .ok (.bipush 10, 2) := by decide +kernel
theorem dL_isAll_67 : decode cL_isAll 67 = .ok (.invokevirtual 19, 3) := by decide +kernel
theorem dL_isAll_70 : decode cL_isAll 70 = .ok (.aload_n 1, 1) := by decide +kernel
theorem dL_isAll_71 : decode cL_isAll 71 = .ok (.bipush 10, 2) := by decide +kernel
theorem dL_isAll_73 : decode cL_isAll 73 = .ok (.invokevirtual 19, 3) := by decide +kernel
theorem dL_isAll_76 : decode cL_isAll 76 = .ok (.if_icmp .ne 149, 3) := by decide +kernel
theorem dL_isAll_79 : decode cL_isAll 79 = .ok (.aload_n 0, 1) := by decide +kernel
theorem dL_isAll_80 : decode cL_isAll 80 = .ok (.iload 5, 2) := by decide +kernel
theorem dL_isAll_82 : decode cL_isAll 82 = .ok (.invokevirtual 78, 3) := by decide +kernel
theorem dL_isAll_85 : decode cL_isAll 85 = .ok (.aload_n 1, 1) := by decide +kernel
theorem dL_isAll_86 : decode cL_isAll 86 = .ok (.iload 5, 2) := by decide +kernel
theorem dL_isAll_88 : decode cL_isAll 88 = .ok (.invokevirtual 78, 3) := by decide +kernel
theorem dL_isAll_91 : decode cL_isAll 91 = .ok (.if_icmp .ne 134, 3) := by decide +kernel
theorem dL_isAll_94 : decode cL_isAll 94 = .ok (.aload_n 0, 1) := by decide +kernel
theorem dL_isAll_95 : decode cL_isAll 95 = .ok (.iload 4, 2) := by decide +kernel
theorem dL_isAll_97 : decode cL_isAll 97 = .ok (.invokevirtual 81, 3) := by decide +kernel
theorem dL_isAll_100 : decode cL_isAll 100 = .ok (.aload_n 1, 1) := by decide +kernel
theorem dL_isAll_101 : decode cL_isAll 101 = .ok (.iload 4, 2) := by decide +kernel
theorem dL_isAll_103 : decode cL_isAll 103 = .ok (.invokevirtual 81, 3) := by decide +kernel
theorem dL_isAll_106 : decode cL_isAll 106 = .ok (.if_icmp .ne 119, 3) := by decide +kernel
theorem dL_isAll_109 : decode cL_isAll 109 = .ok (.aload_n 0, 1) := by decide +kernel
theorem dL_isAll_110 : decode cL_isAll 110 = .ok (.iload 4, 2) := by decide +kernel
theorem dL_isAll_112 : decode cL_isAll 112 = .ok (.iconst 1, 1) := by decide +kernel
theorem dL_isAll_113 : decode cL_isAll 113 = .ok (.invokevirtual 84, 3) := by decide +kernel
theorem dL_isAll_116 : decode cL_isAll 116 = .ok (.aload_n 1, 1) := by decide +kernel
theorem dL_isAll_117 : decode cL_isAll 117 = .ok (.iload_n 3, 1) := by decide +kernel
theorem dL_isAll_118 : decode cL_isAll 118 = .ok (.iload 4, 2) := by decide +kernel
theorem dL_isAll_120 : decode cL_isAll 120 = .ok (.isub, 1) := by decide +kernel
theorem dL_isAll_121 : decode cL_isAll 121 = .ok (.iconst 1, 1) := by decide +kernel
theorem dL_isAll_122 : decode cL_isAll 122 = .ok (.invokevirtual 84, 3) := by decide +kernel
theorem dL_isAll_125 : decode cL_isAll 125 = .ok (.if_icmp .ne 100, 3) := by decide +kernel
theorem dL_isAll_128 : decode cL_isAll 128 = .ok (.aload_n 0, 1) := by decide +kernel
theorem dL_isAll_129 : decode cL_isAll 129 = .ok (.iload 4, 2) := by decide +kernel
theorem dL_isAll_131 : decode cL_isAll 131 = .ok (.iconst 0, 1) := by decide +kernel
theorem dL_isAll_132 : decode cL_isAll 132 = .ok (.invokevirtual 84, 3) := by decide +kernel
theorem dL_isAll_135 : decode cL_isAll 135 = .ok (.aload_n 0, 1) := by decide +kernel
theorem dL_isAll_136 : decode cL_isAll 136 = .ok (.iload_n 3, 1) := by decide +kernel
theorem dL_isAll_137 : decode cL_isAll 137 = .ok (.iload 4, 2) := by decide +kernel
theorem dL_isAll_139 : decode cL_isAll 139 = .ok (.isub, 1) := by decide +kernel
theorem dL_isAll_140 : decode cL_isAll 140 = .ok (.iconst 0, 1) := by decide +kernel
theorem dL_isAll_141 : decode cL_isAll 141 = .ok (.invokevirtual 84, 3) := by decide +kernel
theorem dL_isAll_144 : decode cL_isAll 144 = .ok (.if_icmp .ne 81, 3) := by decide +kernel
theorem dL_isAll_147 : decode cL_isAll 147 = .ok (.aload_n 0, 1) := by decide +kernel
theorem dL_isAll_148 : decode cL_isAll 148 = .ok (.bipush 50, 2) := by decide +kernel
theorem dL_isAll_150 : decode cL_isAll 150 = .ok (.iload_n 2, 1) := by decide +kernel
theorem dL_isAll_151 : decode cL_isAll 151 = .ok (.bipush 9, 2) := by decide +kernel
theorem dL_isAll_153 : decode cL_isAll 153 = .ok (.ishr, 1) := by decide +kernel
theorem dL_isAll_154 : decode cL_isAll 154 = .ok (.bipush 51, 2) := by decide +kernel
theorem dL_isAll_156 : decode cL_isAll 156 = .ok (.invokestatic 23, 3) := by decide +kernel
theorem dL_isAll_159 : decode cL_isAll 159 = .ok (.iadd, 1) := by decide +kernel
theorem dL_isAll_160 : decode cL_isAll 160 = .ok (.iconst 0, 1) := by decide +kernel
theorem dL_isAll_161 : decode cL_isAll 161 = .ok (.invokevirtual 88, 3) := by decide +kernel
theorem dL_isAll_164 : decode cL_isAll 164 = .ok (.aload_n 1, 1) := by decide +kernel
theorem dL_isAll_165 : decode cL_isAll 165 = .ok (.bipush 50, 2) := by decide +kernel
theorem dL_isAll_167 : decode cL_isAll 167 = .ok (.iload_n 2, 1) := by decide +kernel
theorem dL_isAll_168 : decode cL_isAll 168 = .ok (.bipush 9, 2) := by decide +kernel
theorem dL_isAll_170 : decode cL_isAll 170 = .ok (.ishr, 1) := by decide +kernel
theorem dL_isAll_171 : decode cL_isAll 171 = .ok (.bipush 51, 2) := by decide +kernel
theorem dL_isAll_173 : decode cL_isAll 173 = .ok (.invokestatic 23, 3) := by decide +kernel
theorem dL_isAll_176 : decode cL_isAll 176 = .ok (.iadd, 1) := by decide +kernel
theorem dL_isAll_177 : decode cL_isAll 177 = .ok (.iconst 0, 1) := by decide +kernel
theorem dL_isAll_178 : decode cL_isAll 178 = .ok (.invokevirtual 88, 3) := by decide +kernel
theorem dL_isAll_181 : decode cL_isAll 181 = .ok (.if_icmp .ne 44, 3) := by decide +kernel
theorem dL_isAll_184 : decode cL_isAll 184 = .ok (.aload_n 0, 1) := by decide +kernel
theorem dL_isAll_185 : decode cL_isAll 185 = .ok (.bipush 50, 2) := by decide +kernel
theorem dL_isAll_187 : decode cL_isAll 187 = .ok (.iload_n 2, 1) := by decide +kernel
theorem dL_isAll_188 : decode cL_isAll 188 = .ok (.bipush 9, 2) := by decide +kernel
theorem dL_isAll_190 : decode cL_isAll 190 = .ok (.ishr, 1) := by decide +kernel
theorem dL_isAll_191 : decode cL_isAll 191 = .ok (.bipush 51, 2) := by decide +kernel
theorem dL_isAll_193 : decode cL_isAll 193 = .ok (.invokestatic 23, 3) := by decide +kernel
theorem dL_isAll_196 : decode cL_isAll 196 = .ok (.iadd, 1) := by decide +kernel
theorem dL_isAll_197 : decode cL_isAll 197 = .ok (.iconst 1, 1) := by decide +kernel
theorem dL_isAll_198 : decode cL_isAll 198 = .ok (.invokevirtual 88, 3) := by decide +kernel
theorem dL_isAll_201 : decode cL_isAll 201 = .ok (.aload_n 1, 1) := by decide +kernel
theorem dL_isAll_202 : decode cL_isAll 202 = .ok (.bipush 50, 2) := by decide +kernel
theorem dL_isAll_204 : decode cL_isAll 204 = .ok (.iload_n 2, 1) := by decide +kernel
theorem dL_isAll_205 : decode cL_isAll 205 = .ok (.bipush 9, 2) := by decide +kernel
theorem dL_isAll_207 : decode cL_isAll 207 = .ok (.ishr, 1) := by decide +kernel
theorem dL_isAll_208 : decode cL_isAll 208 = .ok (.bipush 51, 2) := by decide +kernel
theorem dL_isAll_210 : decode cL_isAll 210 = .ok (.invokestatic 23, 3) := by decide +kernel
theorem dL_isAll_213 : decode cL_isAll 213 = .ok (.iadd, 1) := by decide +kernel
theorem dL_isAll_214 : decode cL_isAll 214 = .ok (.iconst 1, 1) := by decide +kernel
theorem dL_isAll_215 : decode cL_isAll 215 = .ok (.invokevirtual 88, 3) := by decide +kernel
theorem dL_isAll_218 : decode cL_isAll 218 = .ok (.if_icmp .ne 7, 3) := by decide +kernel
theorem dL_isAll_221 : decode cL_isAll 221 = .ok (.iconst 1, 1) := by decide +kernel
theorem dL_isAll_222 : decode cL_isAll 222 = .ok (.goto 4, 3) := by decide +kernel
theorem dL_isAll_225 : decode cL_isAll 225 = .ok (.iconst 0, 1) := by decide +kernel
theorem dL_isAll_226 : decode cL_isAll 226 = .ok (.istore 6, 2) := by decide +kernel
theorem dL_isAll_228 : decode cL_isAll 228 = .ok (.iload 6, 2) := by decide +kernel
theorem dL_isAll_230 : decode cL_isAll 230 = .ok (.ifCond .eq 59, 3) := by decide +kernel
theorem dL_isAll_233 : decode cL_isAll 233 = .ok (.aload_n 0, 1) := by decide +kernel
theorem dL_isAll_234 : decode cL_isAll 234 = .ok (.iconst 3, 1) := by decide +kernel
theorem dL_isAll_235 : decode cL_isAll 235 = .ok (.invokevirtual 19, 3) := by decide +kernel
theorem dL_isAll_238 : decode cL_isAll 238 = .ok (.aload_n 0, 1) := by decide +kernel
theorem dL_isAll_239 : decode cL_isAll 239 = .ok (.bipush 8, 2) := by decide +kernel
theorem dL_isAll_241 : decode cL_isAll 241 = .ok (.invokevirtual 19, 3) := by decide +kernel
theorem dL_isAll_244 : decode cL_isAll 244 = .ok (.if_icmp .lt 45, 3) := by decide +kernel
theorem dL_isAll_247 : decode cL_isAll 247 = .ok (.aload_n 0, 1) := by decide +kernel
theorem dL_isAll_248 : decode cL_isAll 248 = .ok (.iconst 3, 1) := by decide +kernel
theorem dL_isAll_249 : decode cL_isAll 249 = .ok (.invokevirtual 19, 3) := by decide +kernel
theorem dL_isAll_252 : decode cL_isAll 252 = .ok (.aload_n 0, 1) := by decide +kernel
theorem dL_isAll_253 : decode cL_isAll 253 = .ok (.bipush 9, 2) := by decide +kernel
theorem dL_isAll_255 : decode cL_isAll 255 = .ok (.invokevirtual 19, 3) := by decide +kernel
theorem dL_isAll_258 : decode cL_isAll 258 = .ok (.if_icmp .gt 31, 3) := by decide +kernel
theorem dL_isAll_261 : decode cL_isAll 261 = .ok (.aload_n 0, 1) := by decide +kernel
theorem dL_isAll_262 : decode cL_isAll 262 = .ok (.aload_n 0, 1) := by decide +kernel
theorem dL_isAll_263 : decode cL_isAll 263 = .ok (.iconst 3, 1) := by decide +kernel
theorem dL_isAll_264 : decode cL_isAll 264 = .ok (.invokevirtual 19, 3) := by decide +kernel
theorem dL_isAll_267 : decode cL_isAll 267 = .ok (.invokevirtual 78, 3) := by decide +kernel
theorem dL_isAll_270 : decode cL_isAll 270 = .ok (.ifCond .le 19, 3) := by decide +kernel
theorem dL_isAll_273 : decode cL_isAll 273 = .ok (.aload_n 0, 1) := by decide +kernel
theorem dL_isAll_274 : decode cL_isAll 274 = .ok (.aload_n 0, 1) := by decide +kernel
theorem dL_isAll_275 : decode cL_isAll 275 = .ok (.iconst 4, 1) := by decide +kernel
theorem dL_isAll_276 : decode cL_isAll 276 = .ok (.invokevirtual 19, 3) := by decide +kernel
theorem dL_isAll_279 : decode cL_isAll 279 = .ok (.invokevirtual 81, 3) := by decide +kernel
theorem dL_isAll_282 : decode cL_isAll 282 = .ok (.ifCond .le 7, 3) := by decide +kernel
theorem dL_isAll_285 : decode cL_isAll 285 = .ok (.iconst 1, 1) := by decide +kernel
theorem dL_isAll_286 : decode cL_isAll 286 = .ok (.goto 4, 3) := by decide +kernel
theorem dL_isAll_289 : decode cL_isAll 289 = .ok (.iconst 0, 1) := by decide +kernel
theorem dL_isAll_290 : decode cL_isAll 290 = .ok (.ireturn, 1) := by decide +kernel
theorem dL_areAlike_0 : decode cL_areAlike 0 = .ok (.iconst 1, 1) := by decide +kernel
theorem dL_areAlike_1 : decode cL_areAlike 1 = .ok (.istore_n 2, 1) := by decide +kernel
theorem dL_areAlike_2 : decode cL_areAlike 2 = .ok (.iconst 0, 1) := by decide +kernel
theorem dL_areAlike_3 : decode cL_areAlike 3 = .ok (.istore_n 3, 1) := by decide +kernel
theorem dL_areAlike_4 : decode cL_areAlike 4 = .ok (.iload_n 3, 1) := by decide +kernel
theorem dL_areAlike_5 : decode cL_areAlike 5 = .ok (.bipush 15, 2) := by decide +kernel
theorem dL_areAlike_7 : decode cL_areAlike 7 = .ok (.if_icmp .ge 67, 3) := by decide +kernel
theorem dL_areAlike_10 : decode cL_areAlike 10 = .ok (.iload_n 3, 1) := by decide +kernel
theorem dL_areAlike_11 : decode cL_areAlike 11 = .ok (.iconst 5, 1) := by decide +kernel
theorem dL_areAlike_12 : decode cL_areAlike 12 = .ok (.if_icmp .eq 25, 3) := by decide +kernel
theorem dL_areAlike_15 : decode cL_areAlike 15 = .ok (.iload_n 3, 1) := by decide +kernel
theorem dL_areAlike_16 : decode cL_areAlike 16 = .ok (.bipush 13, 2) := by decide +kernel
theorem dL_areAlike_18 : decode cL_areAlike 18 = .ok (.if_icmp .eq 19, 3) := by decide +kernel
theorem dL_areAlike_21 : decode cL_areAlike 21 = .ok (.iload_n 3, 1) := by decide +kernel
theorem dL_areAlike_22 : decode cL_areAlike 22 = .ok (.bipush 8, 2) := by decide +kernel
theorem dL_areAlike_24 : decode cL_areAlike 24 = .ok (.if_icmp .lt 9, 3) := by decide +kernel
theorem dL_areAlike_27 : decode cL_areAlike 27 = .ok (.iload_n 3, 1) := by decide +kernel
theorem dL_areAlike_28 : decode cL_areAlike 28 = .ok (.bipush 10, 2) := by decide +kernel
theorem dL_areAlike_30 : decode cL_areAlike 30 = .ok (.if_icmp .le 7, 3) := by decide +kernel
theorem dL_areAlike_33 : decode cL_areAlike 33 = .ok (.iconst 1, 1) := by decide +kernel
theorem dL_areAlike_34 : decode cL_areAlike 34 = .ok (.goto 4, 3) := by decide +kernel
theorem dL_areAlike_37 : decode cL_areAlike 37 = .ok (.iconst 0, 1) := by decide +kernel
theorem dL_areAlike_38 : decode cL_areAlike 38 = .ok (.istore 4, 2) := by decide +kernel
theorem dL_areAlike_40 : decode cL_areAlike 40 = .ok (.iload_n 2, 1) := by decide +kernel
theorem dL_areAlike_41 : decode cL_areAlike 41 = .ok (.ifCond .eq 25, 3) := by decide +kernel
theorem dL_areAlike_44 : decode cL_areAlike 44 = .ok (.iload 4, 2) := by decide +kernel
theorem dL_areAlike_46 : decode cL_areAlike 46 = .ok (.ifCond .eq 16, 3) := by decide +kernel
theorem dL_areAlike_49 : decode cL_areAlike 49 = .ok (.aload_n 0, 1) := by decide +kernel
theorem dL_areAlike_50 : decode cL_areAlike 50 = .ok (.iload_n 3, 1) := by decide +kernel
theorem dL_areAlike_51 : decode cL_areAlike 51 = .ok (.invokevirtual 19, 3) := by decide +kernel
theorem dL_areAlike_54 : decode cL_areAlike 54 = .ok (.aload_n 1, 1) := by decide +kernel
theorem dL_areAlike_55 : decode cL_areAlike 55 = .ok (.iload_n 3, 1) := by decide +kernel
theorem dL_areAlike_56 : decode cL_areAlike 56 = .ok (.invokevirtual 19, 3) := by decide +kernel
theorem dL_areAlike_59 : decode cL_areAlike 59 = .ok (.if_icmp .ne 7, 3) := by decide +kernel
theorem dL_areAlike_62 : decode cL_areAlike 62 = .ok (.iconst 1, 1) := by decide +kernel
theorem dL_areAlike_63 : decode cL_areAlike 63 = .ok (.goto 4, 3) := by decide +kernel
theorem dL_areAlike_66 : decode cL_areAlike 66 = .ok (.iconst 0, 1) := by decide +kernel
theorem dL_areAlike_67 : decode cL_areAlike 67 = .ok (.istore_n 2, 1) := by decide +kernel
theorem dL_areAlike_68 : decode cL_areAlike 68 = .ok (.iinc 3 1, 3) := by decide +kernel
theorem dL_areAlike_71 : decode cL_areAlike 71 = .ok (.goto (-67), 3) := by decide +kernel
theorem dL_areAlike_74 : decode cL_areAlike 74 = .ok (.iconst 0, 1) := by decide +kernel
theorem dL_areAlike_75 : decode cL_areAlike 75 = .ok (.istore_n 3, 1) := by decide +kernel
theorem dL_areAlike_76 : decode cL_areAlike 76 = .ok (.iload_n 3, 1) := by decide +kernel
theorem dL_areAlike_77 : decode cL_areAlike 77 = .ok (.aload_n 0, 1) := by decide +kernel
theorem dL_areAlike_78 : decode cL_areAlike 78 = .ok (.iconst 0, 1) := by decide +kernel
theorem dL_areAlike_79 : decode cL_areAlike 79 = .ok (.invokevirtual 19, 3) := by decide +kernel
theorem dL_areAlike_82 : decode cL_areAlike 82 = .ok (.if_icmp .ge 127, 3) := by decide +kernel
theorem dL_areAlike_85 : decode cL_areAlike 85 = .ok (.iload_n 2, 1) := by decide +kernel
theorem dL_areAlike_86 : decode cL_areAlike 86 = .ok (.ifCond .eq 123, 3) := by decide +kernel
theorem dL_areAlike_89 : decode cL_areAlike 89 = .ok (.aload_n 0, 1) := by decide +kernel
theorem dL_areAlike_90 : decode cL_areAlike 90 = .ok (.iload_n 3, 1) := by decide +kernel
theorem dL_areAlike_91 : decode cL_areAlike 91 = .ok (.invokevirtual 91, 3) := by decide +kernel
theorem dL_areAlike_94 : decode cL_areAlike 94 = .ok (.aload_n 1, 1) := by decide +kernel
theorem dL_areAlike_95 : decode cL_areAlike 95 = .ok (.iload_n 3, 1) := by decide +kernel
theorem dL_areAlike_96 : decode cL_areAlike 96 = .ok (.invokevirtual 91, 3) := by decide +kernel
theorem dL_areAlike_99 : decode cL_areAlike 99 = .ok (.iadd, 1) := by decide +kernel
theorem dL_areAlike_100 : decode cL_areAlike 100 = .ok (.iconst 1, 1) := by decide +kernel
theorem dL_areAlike_101 : decode cL_areAlike 101 = .ok (.aload_n 0, 1) := by decide +kernel
theorem dL_areAlike_102 : decode cL_areAlike 102 = .ok (.iconst 1, 1) := by decide +kernel
theorem dL_areAlike_103 : decode cL_areAlike 103 = .ok (.invokevirtual 19, 3) := by decide +kernel
theorem dL_areAlike_106 : decode cL_areAlike 106 = .ok (.ishl, 1) := by decide +kernel
theorem dL_areAlike_107 : decode cL_areAlike 107 = .ok (.iconst 1, 1) := by decide +kernel
theorem dL_areAlike_108 : decode cL_areAlike 108 = .ok (.isub, 1) := by decide +kernel
theorem dL_areAlike_109 : decode cL_areAlike 109 = .ok (.if_icmp .ne 7, 3) := by decide +kernel
theorem dL_areAlike_112 : decode cL_areAlike 112 = .ok (.iconst 1, 1) := by decide +kernel
theorem dL_areAlike_113 : decode cL_areAlike 113 = .ok (.goto 4, 3) := by decide +kernel
theorem dL_areAlike_116 : decode cL_areAlike 116 = .ok (.iconst 0, 1) := by decide +kernel
theorem dL_areAlike_117 : decode cL_areAlike 117 = .ok (.istore_n 2, 1) := by decide +kernel
theorem dL_areAlike_118 : decode cL_areAlike 118 = .ok (.iconst 0, 1) := by decide +kernel
theorem dL_areAlike_119 : decode cL_areAlike 119 = .ok (.istore 4, 2) := by decide +kernel
theorem dL_areAlike_121 : decode cL_areAlike 121 = .ok (.iload 4, 2) := by decide +kernel
theorem dL_areAlike_123 : decode cL_areAlike 123 = .ok (.aload_n 0, 1) := by decide +kernel
theorem dL_areAlike_124 : decode cL_areAlike 124 = .ok (.iconst 1, 1) := by decide +kernel
theorem dL_areAlike_125 : decode cL_areAlike 125 = .ok (.invokevirtual 19, 3) := by decide +kernel
theorem dL_areAlike_128 : decode cL_areAlike 128 = .ok (.if_icmp .ge 75, 3) := by decide +kernel
theorem dL_areAlike_131 : decode cL_areAlike 131 = .ok (.iconst 0, 1) := by decide +kernel
theorem dL_areAlike_132 : decode cL_areAlike 132 = .ok (.istore 5, 2) := by decide +kernel
theorem dL_areAlike_134 : decode cL_areAlike 134 = .ok (.iload 5, 2) := by decide +kernel
theorem dL_areAlike_136 : decode cL_areAlike 136 = .ok (.bipush 7, 2) := by decide +kernel
theorem dL_areAlike_138 : decode cL_areAlike 138 = .ok (.if_icmp .ge 59, 3) := by decide +kernel
theorem dL_areAlike_141 : decode cL_areAlike 141 = .ok (.iload_n 2, 1) := by decide +kernel
theorem dL_areAlike_142 : decode cL_areAlike 142 = .ok (.ifCond .eq 47, 3) := by decide +kernel
theorem dL_areAlike_145 : decode cL_areAlike 145 = .ok (.aload_n 1, 1) := by decide +kernel
theorem dL_areAlike_146 : decode cL_areAlike 146 = .ok (.iload 4, 2) := by decide +kernel
theorem dL_areAlike_148 : decode cL_areAlike 148 = .ok (.iload_n 3, 1) := by decide +kernel
theorem dL_areAlike_149 : decode cL_areAlike 149 = .ok (.iload 5, 2) := by decide +kernel
theorem dL_areAlike_151 : decode cL_areAlike 151 = .ok (.invokevirtual 40, 3) := by decide +kernel
theorem dL_areAlike_154 : decode cL_areAlike 154 = .ok (.iload 5, 2) := by decide +kernel
theorem dL_areAlike_156 : decode cL_areAlike 156 = .ok (.iconst 2, 1) := by decide +kernel
theorem dL_areAlike_157 : decode cL_areAlike 157 = .ok (.if_icmp .ge 16, 3) := by decide +kernel
theorem dL_areAlike_160 : decode cL_areAlike 160 = .ok (.aload_n 0, 1) := by decide +kernel
theorem dL_areAlike_161 : decode cL_areAlike 161 = .ok (.iload 4, 2) := by decide +kernel
theorem dL_areAlike_163 : decode cL_areAlike 163 = .ok (.iload_n 3, 1) := by decide +kernel
theorem dL_areAlike_164 : decode cL_areAlike 164 = .ok (.iload 5, 2) := by decide +kernel
theorem dL_areAlike_166 : decode cL_areAlike 166 = .ok (.invokevirtual 40, 3) := by decide +kernel
theorem dL_areAlike_169 : decode cL_areAlike 169 = .ok (.ineg, 1) := by decide +kernel
theorem dL_areAlike_170 : decode cL_areAlike 170 = .ok (.goto 12, 3) := by decide +kernel
theorem dL_areAlike_173 : decode cL_areAlike 173 = .ok (.aload_n 0, 1) := by decide +kernel
theorem dL_areAlike_174 : decode cL_areAlike 174 = .ok (.iload 4, 2) := by decide +kernel
theorem dL_areAlike_176 : decode cL_areAlike 176 = .ok (.iload_n 3, 1) := by decide +kernel
theorem dL_areAlike_177 : decode cL_areAlike 177 = .ok (.iload 5, 2) := by decide +kernel
theorem dL_areAlike_179 : decode cL_areAlike 179 = .ok (.invokevirtual 40, 3) := by decide +kernel
theorem dL_areAlike_182 : decode cL_areAlike 182 = .ok (.if_icmp .ne 7, 3) := by decide +kernel
theorem dL_areAlike_185 : decode cL_areAlike 185 = .ok (.iconst 1, 1) := by decide +kernel
theorem dL_areAlike_186 : decode cL_areAlike 186 = .ok (.goto 4, 3) := by decide +kernel
theorem dL_areAlike_189 : decode cL_areAlike 189 = .ok (.iconst 0, 1) := by decide +kernel
theorem dL_areAlike_190 : decode cL_areAlike 190 = .ok (.istore_n 2, 1) := by decide +kernel
theorem dL_areAlike_191 : decode cL_areAlike 191 = .ok (.iinc 5 1, 3) := by decide +kernel
theorem dL_areAlike_194 : decode cL_areAlike 194 = .ok (.goto (-60), 3) := by decide +kernel
theorem dL_areAlike_197 : decode cL_areAlike 197 = .ok (.iinc 4 1, 3) := by decide +kernel
theorem dL_areAlike_200 : decode cL_areAlike 200 = .ok (.goto (-79), 3) := by decide +kernel
theorem dL_areAlike_203 : decode cL_areAlike 203 = .ok (.iinc 3 1, 3) := by decide +kernel
theorem dL_areAlike_206 : decode cL_areAlike 206 = .ok (.goto (-130), 3) := by decide +kernel
theorem dL_areAlike_209 : decode cL_areAlike 209 = .ok (.iload_n 2, 1) := by decide +kernel
theorem dL_areAlike_210 : decode cL_areAlike 210 = .ok (.ifCond .eq 32, 3) := by decide +kernel
theorem dL_areAlike_213 : decode cL_areAlike 213 = .ok (.aload_n 0, 1) := by decide +kernel
theorem dL_areAlike_214 : decode cL_areAlike 214 = .ok (.iconst 5, 1) := by decide +kernel
theorem dL_areAlike_215 : decode cL_areAlike 215 = .ok (.invokevirtual 19, 3) := by decide +kernel
theorem dL_areAlike_218 : decode cL_areAlike 218 = .ok (.aload_n 1, 1) := by decide +kernel
theorem dL_areAlike_219 : decode cL_areAlike 219 = .ok (.iconst 5, 1) := by decide +kernel
theorem dL_areAlike_220 : decode cL_areAlike 220 = .ok (.invokevirtual 19, 3) := by decide +kernel
theorem dL_areAlike_223 : decode cL_areAlike 223 = .ok (.iadd, 1) := by decide +kernel
theorem dL_areAlike_224 : decode cL_areAlike 224 = .ok (.aload_n 0, 1) := by decide +kernel
theorem dL_areAlike_225 : decode cL_areAlike 225 = .ok (.iconst 0, 1) := by decide +kernel
theorem dL_areAlike_226 : decode cL_areAlike 226 = .ok (.invokevirtual 19, 3) := by decide +kernel
theorem dL_areAlike_229 : decode cL_areAlike 229 = .ok (.aload_n 0, 1) := by decide +kernel
theorem dL_areAlike_230 : decode cL_areAlike 230 = .ok (.iconst 1, 1) := by decide +kernel
theorem dL_areAlike_231 : decode cL_areAlike 231 = .ok (.invokevirtual 19, 3) := by decide +kernel
theorem dL_areAlike_234 : decode cL_areAlike 234 = .ok (.imul, 1) := by decide +kernel
theorem dL_areAlike_235 : decode cL_areAlike 235 = .ok (.if_icmp .ne 7, 3) := by decide +kernel
theorem dL_areAlike_238 : decode cL_areAlike 238 = .ok (.iconst 1, 1) := by decide +kernel
theorem dL_areAlike_239 : decode cL_areAlike 239 = .ok (.goto 4, 3) := by decide +kernel
theorem dL_areAlike_242 : decode cL_areAlike 242 = .ok (.iconst 0, 1) := by decide +kernel
theorem dL_areAlike_243 : decode cL_areAlike 243 = .ok (.ireturn, 1) := by decide +kernel
theorem dL_isWell_0 : decode cL_isWell 0 = .ok (.aload_n 0, 1) := by decide +kernel
theorem dL_isWell_1 : decode cL_isWell 1 = .ok (.iconst 1, 1) := by decide +kernel
theorem dL_isWell_2 : decode cL_isWell 2 = .ok (.invokevirtual 19, 3) := by decide +kernel
theorem dL_isWell_5 : decode cL_isWell 5 = .ok (.istore_n 1, 1) := by decide +kernel
theorem dL_isWell_6 : decode cL_isWell 6 = .ok (.aload_n 0, 1) := by decide +kernel
theorem dL_isWell_7 : decode cL_isWell 7 = .ok (.iconst 0, 1) := by decide +kernel
theorem dL_isWell_8 : decode cL_isWell 8 = .ok (.invokevirtual 19, 3) := by decide +kernel
theorem dL_isWell_11 : decode cL_isWell 11 = .ok (.istore_n 2, 1) := by decide +kernel
theorem dL_isWell_12 : decode cL_isWell 12 = .ok (.iconst 0, 1) := by decide +kernel
theorem dL_isWell_13 : decode cL_isWell 13 = .ok (.istore_n 3, 1) := by decide +kernel
theorem dL_isWell_14 : decode cL_isWell 14 = .ok (.iconst 0, 1) := by decide +kernel
theorem dL_isWell_15 : decode cL_isWell 15 = .ok (.istore 4, 2) := by decide +kernel
theorem dL_isWell_17 : decode cL_isWell 17 = .ok (.iconst 0, 1) := by decide +kernel
theorem dL_isWell_18 : decode cL_isWell 18 = .ok (.istore 5, 2) := by decide +kernel
theorem dL_isWell_20 : decode cL_isWell 20 = .ok (.iconst 0, 1) := by decide +kernel
theorem dL_isWell_21 : decode cL_isWell 21 = .ok (.istore 6, 2) := by decide +kernel
theorem dL_isWell_23 : decode cL_isWell 23 = .ok (.iconst 0, 1) := by decide +kernel
theorem dL_isWell_24 : decode cL_isWell 24 = .ok (.istore 7, 2) := by decide +kernel
theorem dL_isWell_26 : decode cL_isWell 26 = .ok (.iconst 0, 1) := by decide +kernel
theorem dL_isWell_27 : decode cL_isWell 27 = .ok (.istore 8, 2) := by decide +kernel
theorem dL_isWell_29 : decode cL_isWell 29 = .ok (.iconst 1, 1) := by decide +kernel
theorem dL_isWell_30 : decode cL_isWell 30 = .ok (.istore 9, 2) := by decide +kernel
theorem dL_isWell_32 : decode cL_isWell 32 = .ok (.iconst 0, 1) := by decide +kernel
theorem dL_isWell_33 : decode cL_isWell 33 = .ok (.istore 10, 2) := by decide +kernel
theorem dL_isWell_35 : decode cL_isWell 35 = .ok (.iload 10, 2) := by decide +kernel
theorem dL_isWell_37 : decode cL_isWell 37 = .ok (.iload_n 2, 1) := by decide +kernel
theorem dL_isWell_38 : decode cL_isWell 38 = .ok (.if_icmp .ge 271, 3) := by decide +kernel
theorem dL_isWell_41 : decode cL_isWell 41 = .ok (.iload 9, 2) := by decide +kernel
theorem dL_isWell_43 : decode cL_isWell 43 = .ok (.ifCond .eq 266, 3) := by decide +kernel
theorem dL_isWell_46 : decode cL_isWell 46 = .ok (.iconst 0, 1) := by decide +kernel
theorem dL_isWell_47 : decode cL_isWell 47 = .ok (.istore 11, 2) := by decide +kernel
theorem dL_isWell_49 : decode cL_isWell 49 = .ok (.iload 11, 2) := by decide +kernel
theorem dL_isWell_51 : decode cL_isWell 51 = .ok (.iload_n 1, 1) := by decide +kernel
theorem dL_isWell_52 : decode cL_isWell 52 = .ok (.if_icmp .ge 251, 3) := by decide +kernel
theorem dL_isWell_55 : decode cL_isWell 55 = .ok (.iload 9, 2) := by decide +kernel
theorem dL_isWell_57 : decode cL_isWell 57 = .ok (.ifCond .eq 246, 3) := by decide +kernel
theorem dL_isWell_60 : decode cL_isWell 60 = .ok (.aload_n 0, 1) := by decide +kernel
theorem dL_isWell_61 : decode cL_isWell 61 = .ok (.iload 11, 2) := by decide +kernel
theorem dL_isWell_63 : decode cL_isWell 63 = .ok (.iload 10, 2) := by decide +kernel
theorem dL_isWell_65 : decode cL_isWell 65 = .ok (.iconst 2, 1) := by decide +kernel
theorem dL_isWell_66 : decode cL_isWell 66 = .ok (.invokevirtual 40, 3) := by decide +kernel
theorem dL_isWell_69 : decode cL_isWell 69 = .ok (.istore 12, 2) := by decide +kernel
theorem dL_isWell_71 : decode cL_isWell 71 = .ok (.aload_n 0, 1) := by decide +kernel
theorem dL_isWell_72 : decode cL_isWell 72 = .ok (.iload 11, 2) := by decide +kernel
theorem dL_isWell_74 : decode cL_isWell 74 = .ok (.iload 10, 2) := by decide +kernel
theorem dL_isWell_76 : decode cL_isWell 76 = .ok (.iconst 4, 1) := by decide +kernel
theorem dL_isWell_77 : decode cL_isWell 77 = .ok (.invokevirtual 40, 3) := by decide +kernel
theorem dL_isWell_80 : decode cL_isWell 80 = .ok (.istore 13, 2) := by decide +kernel
theorem dL_isWell_82 : decode cL_isWell 82 = .ok (.aload_n 0, 1) := by decide +kernel
theorem dL_isWell_83 : decode cL_isWell 83 = .ok (.iload 11, 2) := by decide +kernel
theorem dL_isWell_85 : decode cL_isWell 85 = .ok (.iload 10, 2) := by decide +kernel
theorem dL_isWell_87 : decode cL_isWell 87 = .ok (.iconst 5, 1) := by decide +kernel
theorem dL_isWell_88 : decode cL_isWell 88 = .ok (.invokevirtual 40, 3) := by decide +kernel
theorem dL_isWell_91 : decode cL_isWell 91 = .ok (.istore 14, 2) := by decide +kernel
theorem dL_isWell_93 : decode cL_isWell 93 = .ok (.aload_n 0, 1) := by decide +kernel
theorem dL_isWell_94 : decode cL_isWell 94 = .ok (.iload 11, 2) := by decide +kernel
theorem dL_isWell_96 : decode cL_isWell 96 = .ok (.iload 10, 2) := by decide +kernel
theorem dL_isWell_98 : decode cL_isWell 98 = .ok (.iconst 0, 1) := by decide +kernel
theorem dL_isWell_99 : decode cL_isWell 99 = .ok (.invokevirtual 40, 3) := by decide +kernel
theorem dL_isWell_102 : decode cL_isWell 102 = .ok (.istore 15, 2) := by decide +kernel
theorem dL_isWell_104 : decode cL_isWell 104 = .ok (.aload_n 0, 1) := by decide +kernel
theorem dL_isWell_105 : decode cL_isWell 105 = .ok (.iload 11, 2) := by decide +kernel
theorem dL_isWell_107 : decode cL_isWell 107 = .ok (.iload 10, 2) := by decide +kernel
theorem dL_isWell_109 : decode cL_isWell 109 = .ok (.bipush 6, 2) := by decide +kernel
theorem dL_isWell_111 : decode cL_isWell 111 = .ok (.invokevirtual 40, 3) := by decide +kernel
theorem dL_isWell_114 : decode cL_isWell 114 = .ok (.istore 16, 2) := by decide +kernel
theorem dL_isWell_116 : decode cL_isWell 116 = .ok (.iload_n 3, 1) := by decide +kernel
theorem dL_isWell_117 : decode cL_isWell 117 = .ok (.iload 13, 2) := by decide +kernel
theorem dL_isWell_119 : decode cL_isWell 119 = .ok (.iadd, 1) := by decide +kernel
theorem dL_isWell_120 : decode cL_isWell 120 = .ok (.istore_n 3, 1) := by decide +kernel
theorem dL_isWell_121 : decode cL_isWell 121 = .ok (.iload 4, 2) := by decide +kernel
theorem dL_isWell_123 : decode cL_isWell 123 = .ok (.iload 14, 2) := by decide +kernel
theorem dL_isWell_125 : decode cL_isWell 125 = .ok (.iadd, 1) := by decide +kernel
theorem dL_isWell_126 : decode cL_isWell 126 = .ok (.istore 4, 2) := by decide +kernel
theorem dL_isWell_128 : decode cL_isWell 128 = .ok (.iload 5, 2) := by decide +kernel
theorem dL_isWell_130 : decode cL_isWell 130 = .ok (.iload 15, 2) := by decide +kernel
theorem dL_isWell_132 : decode cL_isWell 132 = .ok (.ifCond .le 7, 3) := by decide +kernel
theorem dL_isWell_135 : decode cL_isWell 135 = .ok (.iconst 1, 1) := by decide +kernel
theorem dL_isWell_136 : decode cL_isWell 136 = .ok (.goto 4, 3) := by decide +kernel
theorem dL_isWell_139 : decode cL_isWell 139 = .ok (.iconst 0, 1) := by decide +kernel
theorem dL_isWell_140 : decode cL_isWell 140 = .ok (.iadd, 1) := by decide +kernel
theorem dL_isWell_141 : decode cL_isWell 141 = .ok (.istore 5, 2) := by decide +kernel
theorem dL_isWell_143 : decode cL_isWell 143 = .ok (.iload 6, 2) := by decide +kernel
theorem dL_isWell_145 : decode cL_isWell 145 = .ok (.iload 12, 2) := by decide +kernel
theorem dL_isWell_147 : decode cL_isWell 147 = .ok (.ifCond .le 7, 3) := by decide +kernel
theorem dL_isWell_150 : decode cL_isWell 150 = .ok (.iconst 1, 1) := by decide +kernel
theorem dL_isWell_151 : decode cL_isWell 151 = .ok (.goto 4, 3) := by decide +kernel
theorem dL_isWell_154 : decode cL_isWell 154 = .ok (.iconst 0, 1) := by decide +kernel
theorem dL_isWell_155 : decode cL_isWell 155 = .ok (.iadd, 1) := by decide +kernel
theorem dL_isWell_156 : decode cL_isWell 156 = .ok (.istore 6, 2) := by decide +kernel
theorem dL_isWell_158 : decode cL_isWell 158 = .ok (.iload 7, 2) := by decide +kernel
theorem dL_isWell_160 : decode cL_isWell 160 = .ok (.aload_n 0, 1) := by decide +kernel
theorem dL_isWell_161 : decode cL_isWell 161 = .ok (.iload 11, 2) := by decide +kernel
theorem dL_isWell_163 : decode cL_isWell 163 = .ok (.iload 10, 2) := by decide +kernel
theorem dL_isWell_165 : decode cL_isWell 165 = .ok (.iconst 1, 1) := by decide +kernel
theorem dL_isWell_166 : decode cL_isWell 166 = .ok (.invokevirtual 40, 3) := by decide +kernel
theorem dL_isWell_169 : decode cL_isWell 169 = .ok (.iload 15, 2) := by decide +kernel
theorem dL_isWell_171 : decode cL_isWell 171 = .ok (.imul, 1) := by decide +kernel
theorem dL_isWell_172 : decode cL_isWell 172 = .ok (.iadd, 1) := by decide +kernel
theorem dL_isWell_173 : decode cL_isWell 173 = .ok (.istore 7, 2) := by decide +kernel
theorem dL_isWell_175 : decode cL_isWell 175 = .ok (.iload 8, 2) := by decide +kernel
theorem dL_isWell_177 : decode cL_isWell 177 = .ok (.iload 16, 2) := by decide +kernel
theorem dL_isWell_179 : decode cL_isWell 179 = .ok (.bipush 13, 2) := by decide +kernel
theorem dL_isWell_181 : decode cL_isWell 181 = .ok (.if_icmp .ge 12, 3) := by decide +kernel
theorem dL_isWell_184 : decode cL_isWell 184 = .ok (.sipush 27720, 3) := by decide +kernel
theorem dL_isWell_187 : decode cL_isWell 187 = .ok (.iload 16, 2) := by decide +kernel
theorem dL_isWell_189 : decode cL_isWell 189 = .ok (.idiv, 1) := by decide +kernel
theorem dL_isWell_190 : decode cL_isWell 190 = .ok (.goto 4, 3) := by decide +kernel
theorem dL_isWell_193 : decode cL_isWell 193 = .ok (.iconst 0, 1) := by decide +kernel
theorem dL_isWell_194 : decode cL_isWell 194 = .ok (.iadd, 1) := by decide +kernel
theorem dL_isWell_195 : decode cL_isWell 195 = .ok (.istore 8, 2) := by decide +kernel
theorem dL_isWell_197 : decode cL_isWell 197 = .ok (.iload 15, 2) := by decide +kernel
theorem dL_isWell_199 : decode cL_isWell 199 = .ok (.iconst 1, 1) := by decide +kernel
theorem dL_isWell_200 : decode cL_isWell 200 = .ok (.if_icmp .eq 9, 3) := by decide +kernel
theorem dL_isWell_203 : decode cL_isWell 203 = .ok (.iload 15, 2) := by decide +kernel
theorem dL_isWell_205 : decode cL_isWell 205 = .ok (.iconst (-1), 1) := by decide +kernel
theorem dL_isWell_206 : decode cL_isWell 206 = .ok (.if_icmp .ne 88, 3) := by decide +kernel
theorem dL_isWell_209 : decode cL_isWell 209 = .ok (.iload 14, 2) := by decide +kernel
theorem dL_isWell_211 : decode cL_isWell 211 = .ok (.iload 13, 2) := by decide +kernel
theorem dL_isWell_213 : decode cL_isWell 213 = .ok (.if_icmp .gt 81, 3) := by decide +kernel
theorem dL_isWell_216 : decode cL_isWell 216 = .ok (.iload 13, 2) := by decide +kernel
theorem dL_isWell_218 : decode cL_isWell 218 = .ok (.iconst 4, 1) := by decide +kernel
theorem dL_isWell_219 : decode cL_isWell 219 = .ok (.if_icmp .gt 75, 3) := by decide +kernel
theorem dL_isWell_222 : decode cL_isWell 222 = .ok (.iload 16, 2) := by decide +kernel
theorem dL_isWell_224 : decode cL_isWell 224 = .ok (.iconst 1, 1) := by decide +kernel
theorem dL_isWell_225 : decode cL_isWell 225 = .ok (.if_icmp .lt 69, 3) := by decide +kernel
theorem dL_isWell_228 : decode cL_isWell 228 = .ok (.iload 16, 2) := by decide +kernel
theorem dL_isWell_230 : decode cL_isWell 230 = .ok (.iconst 1, 1) := by decide +kernel
theorem dL_isWell_231 : decode cL_isWell 231 = .ok (.if_icmp .le 7, 3) := by decide +kernel
theorem dL_isWell_234 : decode cL_isWell 234 = .ok (.iconst 1, 1) := by decide +kernel
theorem dL_isWell_235 : decode cL_isWell 235 = .ok (.goto 4, 3) := by decide +kernel
theorem dL_isWell_238 : decode cL_isWell 238 = .ok (.iconst 0, 1) := by decide +kernel
theorem dL_isWell_239 : decode cL_isWell 239 = .ok (.iload 14, 2) := by decide +kernel
theorem dL_isWell_241 : decode cL_isWell 241 = .ok (.ifCond .le 7, 3) := by decide +kernel
theorem dL_isWell_244 : decode cL_isWell 244 = .ok (.iconst 1, 1) := by decide +kernel
theorem dL_isWell_245 : decode cL_isWell 245 = .ok (.goto 4, 3) := by decide +kernel
theorem dL_isWell_248 : decode cL_isWell 248 = .ok (.iconst 0, 1) := by decide +kernel
theorem dL_isWell_249 : decode cL_isWell 249 = .ok (.if_icmp .ne 45, 3) := by decide +kernel
theorem dL_isWell_252 : decode cL_isWell 252 = .ok (.iload 12, 2) := by decide +kernel
theorem dL_isWell_254 : decode cL_isWell 254 = .ok (.iconst 2, 1) := by decide +kernel
theorem dL_isWell_255 : decode cL_isWell 255 = .ok (.irem, 1) := by decide +kernel
theorem dL_isWell_256 : decode cL_isWell 256 = .ok (.ifCond .ne 38, 3) := by decide +kernel
theorem dL_isWell_259 : decode cL_isWell 259 = .ok (.aload_n 0, 1) := by decide +kernel
theorem dL_isWell_260 : decode cL_isWell 260 = .ok (.iload 11, 2) := by decide +kernel
theorem dL_isWell_262 : decode cL_isWell 262 = .ok (.iload 10, 2) := by decide +kernel
theorem dL_isWell_264 : decode cL_isWell 264 = .ok (.iconst 3, 1) := by decide +kernel
theorem dL_isWell_265 : decode cL_isWell 265 = .ok (.invokevirtual 40, 3) := by decide +kernel
theorem dL_isWell_268 : decode cL_isWell 268 = .ok (.iload 12, 2) := by decide +kernel
theorem dL_isWell_270 : decode cL_isWell 270 = .ok (.ifCond .le 7, 3) := by decide +kernel
theorem dL_isWell_273 : decode cL_isWell 273 = .ok (.iconst 0, 1) := by decide +kernel
theorem dL_isWell_274 : decode cL_isWell 274 = .ok (.goto 13, 3) := by decide +kernel
theorem dL_isWell_277 : decode cL_isWell 277 = .ok (.iload 12, 2) := by decide +kernel
theorem dL_isWell_279 : decode cL_isWell 279 = .ok (.ifCond .ne 7, 3) := by decide +kernel
theorem dL_isWell_282 : decode cL_isWell 282 = .ok (.iconst 1, 1) := by decide +kernel
theorem dL_isWell_283 : decode cL_isWell 283 = .ok (.goto 4, 3) := by decide +kernel
theorem dL_isWell_286 : decode cL_isWell 286 = .ok (.iconst 2, 1) := by decide +kernel
theorem dL_isWell_287 : decode cL_isWell 287 = .ok (.if_icmp .ne 7, 3) := by decide +kernel
theorem dL_isWell_290 : decode cL_isWell 290 = .ok (.iconst 1, 1) := by decide +kernel
theorem dL_isWell_291 : decode cL_isWell 291 = .ok (.goto 4, 3) := by decide +kernel
theorem dL_isWell_294 : decode cL_isWell 294 = .ok (.iconst 0, 1) := by decide +kernel
theorem dL_isWell_295 : decode cL_isWell 295 = .ok (.istore 9, 2) := by decide +kernel
theorem dL_isWell_297 : decode cL_isWell 297 = .ok (.iinc 11 1, 3) := by decide +kernel
theorem dL_isWell_300 : decode cL_isWell 300 = .ok (.goto (-251), 3) := by decide +kernel
theorem dL_isWell_303 : decode cL_isWell 303 = .ok (.iinc 10 1, 3) := by decide +kernel
theorem dL_isWell_306 : decode cL_isWell 306 = .ok (.goto (-271), 3) := by decide +kernel
theorem dL_isWell_309 : decode cL_isWell 309 = .ok (.iload_n 3, 1) := by decide +kernel
theorem dL_isWell_310 : decode cL_isWell 310 = .ok (.iload 4, 2) := by decide +kernel
theorem dL_isWell_312 : decode cL_isWell 312 = .ok (.isub, 1) := by decide +kernel
theorem dL_isWell_313 : decode cL_isWell 313 = .ok (.iconst 2, 1) := by decide +kernel
theorem dL_isWell_314 : decode cL_isWell 314 = .ok (.idiv, 1) := by decide +kernel
theorem dL_isWell_315 : decode cL_isWell 315 = .ok (.istore 10, 2) := by decide +kernel
theorem dL_isWell_317 : decode cL_isWell 317 = .ok (.aload_n 0, 1) := by decide +kernel
theorem dL_isWell_318 : decode cL_isWell 318 = .ok (.bipush 6, 2) := by decide +kernel
theorem dL_isWell_320 : decode cL_isWell 320 = .ok (.invokevirtual 19, 3) := by decide +kernel
theorem dL_isWell_323 : decode cL_isWell 323 = .ok (.aload_n 0, 1) := by decide +kernel
theorem dL_isWell_324 : decode cL_isWell 324 = .ok (.bipush 7, 2) := by decide +kernel
theorem dL_isWell_326 : decode cL_isWell 326 = .ok (.invokevirtual 19, 3) := by decide +kernel
theorem dL_isWell_329 : decode cL_isWell 329 = .ok (.if_icmp .ne 7, 3) := by decide +kernel
theorem dL_isWell_332 : decode cL_isWell 332 = .ok (.iconst 1, 1) := by decide +kernel
theorem dL_isWell_333 : decode cL_isWell 333 = .ok (.goto 4, 3) := by decide +kernel
theorem dL_isWell_336 : decode cL_isWell 336 = .ok (.iconst 0, 1) := by decide +kernel
theorem dL_isWell_337 : decode cL_isWell 337 = .ok (.istore 11, 2) := by decide +kernel
theorem dL_isWell_339 : decode cL_isWell 339 = .ok (.iload 9, 2) := by decide +kernel
theorem dL_isWell_341 : decode cL_isWell 341 = .ok (.ifCond .eq 109, 3) := by decide +kernel
theorem dL_isWell_344 : decode cL_isWell 344 = .ok (.iload 8, 2) := by decide +kernel
theorem dL_isWell_346 : decode cL_isWell 346 = .ok (.sipush 27720, 3) := by decide +kernel
theorem dL_isWell_349 : decode cL_isWell 349 = .ok (.irem, 1) := by decide +kernel
theorem dL_isWell_350 : decode cL_isWell 350 = .ok (.ifCond .ne 100, 3) := by decide +kernel
theorem dL_isWell_353 : decode cL_isWell 353 = .ok (.aload_n 0, 1) := by decide +kernel
theorem dL_isWell_354 : decode cL_isWell 354 = .ok (.bipush 11, 2) := by decide +kernel
theorem dL_isWell_356 : decode cL_isWell 356 = .ok (.invokevirtual 19, 3) := by decide +kernel
theorem dL_isWell_359 : decode cL_isWell 359 = .ok (.iload 8, 2) := by decide +kernel
theorem dL_isWell_361 : decode cL_isWell 361 = .ok (.sipush 27720, 3) := by decide +kernel
theorem dL_isWell_364 : decode cL_isWell 364 = .ok (.idiv, 1) := by decide +kernel
theorem dL_isWell_365 : decode cL_isWell 365 = .ok (.if_icmp .lt 85, 3) := by decide +kernel
theorem dL_isWell_368 : decode cL_isWell 368 = .ok (.iload_n 3, 1) := by decide +kernel
theorem dL_isWell_369 : decode cL_isWell 369 = .ok (.iconst 2, 1) := by decide +kernel
theorem dL_isWell_370 : decode cL_isWell 370 = .ok (.aload_n 0, 1) := by decide +kernel
theorem dL_isWell_371 : decode cL_isWell 371 = .ok (.bipush 14, 2) := by decide +kernel
theorem dL_isWell_373 : decode cL_isWell 373 = .ok (.invokevirtual 19, 3) := by decide +kernel
theorem dL_isWell_376 : decode cL_isWell 376 = .ok (.imul, 1) := by decide +kernel
theorem dL_isWell_377 : decode cL_isWell 377 = .ok (.if_icmp .ne 73, 3) := by decide +kernel
theorem dL_isWell_380 : decode cL_isWell 380 = .ok (.iload 10, 2) := by decide +kernel
theorem dL_isWell_382 : decode cL_isWell 382 = .ok (.aload_n 0, 1) := by decide +kernel
theorem dL_isWell_383 : decode cL_isWell 383 = .ok (.iconst 4, 1) := by decide +kernel
theorem dL_isWell_384 : decode cL_isWell 384 = .ok (.invokevirtual 19, 3) := by decide +kernel
theorem dL_isWell_387 : decode cL_isWell 387 = .ok (.if_icmp .ne 63, 3) := by decide +kernel
theorem dL_isWell_390 : decode cL_isWell 390 = .ok (.iload 5, 2) := by decide +kernel
theorem dL_isWell_392 : decode cL_isWell 392 = .ok (.aload_n 0, 1) := by decide +kernel
theorem dL_isWell_393 : decode cL_isWell 393 = .ok (.iconst 5, 1) := by decide +kernel
theorem dL_isWell_394 : decode cL_isWell 394 = .ok (.invokevirtual 19, 3) := by decide +kernel
theorem dL_isWell_397 : decode cL_isWell 397 = .ok (.if_icmp .ne 53, 3) := by decide +kernel
theorem dL_isWell_400 : decode cL_isWell 400 = .ok (.iload 6, 2) := by decide +kernel
theorem dL_isWell_402 : decode cL_isWell 402 = .ok (.aload_n 0, 1) := by decide +kernel
theorem dL_isWell_403 : decode cL_isWell 403 = .ok (.bipush 12, 2) := by decide +kernel
theorem dL_isWell_405 : decode cL_isWell 405 = .ok (.invokevirtual 19, 3) := by decide +kernel
theorem dL_isWell_408 : decode cL_isWell 408 = .ok (.if_icmp .ne 42, 3) := by decide +kernel
theorem dL_isWell_411 : decode cL_isWell 411 = .ok (.iload 11, 2) := by decide +kernel
theorem dL_isWell_413 : decode cL_isWell 413 = .ok (.ifCond .eq 33, 3) := by decide +kernel
theorem dL_isWell_416 : decode cL_isWell 416 = .ok (.aload_n 0, 1) := by decide +kernel
theorem dL_isWell_417 : decode cL_isWell 417 = .ok (.iconst 3, 1) := by decide +kernel
theorem dL_isWell_418 : decode cL_isWell 418 = .ok (.invokevirtual 19, 3) := by decide +kernel
theorem dL_isWell_421 : decode cL_isWell 421 = .ok (.aload_n 0, 1) := by decide +kernel
theorem dL_isWell_422 : decode cL_isWell 422 = .ok (.bipush 6, 2) := by decide +kernel
theorem dL_isWell_424 : decode cL_isWell 424 = .ok (.invokevirtual 19, 3) := by decide +kernel
theorem dL_isWell_427 : decode cL_isWell 427 = .ok (.ineg, 1) := by decide +kernel
theorem dL_isWell_428 : decode cL_isWell 428 = .ok (.aload_n 0, 1) := by decide +kernel
theorem dL_isWell_429 : decode cL_isWell 429 = .ok (.bipush 14, 2) := by decide +kernel
theorem dL_isWell_431 : decode cL_isWell 431 = .ok (.invokevirtual 19, 3) := by decide +kernel
theorem dL_isWell_434 : decode cL_isWell 434 = .ok (.iconst 2, 1) := by decide +kernel
theorem dL_isWell_435 : decode cL_isWell 435 = .ok (.iload 10, 2) := by decide +kernel
theorem dL_isWell_437 : decode cL_isWell 437 = .ok (.imul, 1) := by decide +kernel
theorem dL_isWell_438 : decode cL_isWell 438 = .ok (.isub, 1) := by decide +kernel
theorem dL_isWell_439 : decode cL_isWell 439 = .ok (.imul, 1) := by decide +kernel
theorem dL_isWell_440 : decode cL_isWell 440 = .ok (.iload 7, 2) := by decide +kernel
theorem dL_isWell_442 : decode cL_isWell 442 = .ok (.isub, 1) := by decide +kernel
theorem dL_isWell_443 : decode cL_isWell 443 = .ok (.if_icmp .ne 7, 3) := by decide +kernel
theorem dL_isWell_446 : decode cL_isWell 446 = .ok (.iconst 1, 1) := by decide +kernel
theorem dL_isWell_447 : decode cL_isWell 447 = .ok (.goto 4, 3) := by decide +kernel
theorem dL_isWell_450 : decode cL_isWell 450 = .ok (.iconst 0, 1) := by decide +kernel
theorem dL_isWell_451 : decode cL_isWell 451 = .ok (.ireturn, 1) := by decide +kernel
theorem dL_law_0 : decode cL_law 0 = .ok (.new 10, 3) := by decide +kernel
theorem dL_law_3 : decode cL_law 3 = .ok (.dup, 1) := by decide +kernel
theorem dL_law_4 : decode cL_law 4 = .ok (.invokespecial 94, 3) := by decide +kernel
theorem dL_law_7 : decode cL_law 7 = .ok (.astore_n 1, 1) := by decide +kernel
theorem dL_law_8 : decode cL_law 8 = .ok (.new 10, 3) := by decide +kernel
theorem dL_law_11 : decode cL_law 11 = .ok (.dup, 1) := by decide +kernel
theorem dL_law_12 : decode cL_law 12 = .ok (.invokespecial 94, 3) := by decide +kernel
theorem dL_law_15 : decode cL_law 15 = .ok (.astore_n 2, 1) := by decide +kernel
theorem dL_law_16 : decode cL_law 16 = .ok (.aload_n 1, 1) := by decide +kernel
theorem dL_law_17 : decode cL_law 17 = .ok (.aload_n 2, 1) := by decide +kernel
theorem dL_law_18 : decode cL_law 18 = .ok (.iconst 2, 1) := by decide +kernel
theorem dL_law_19 : decode cL_law 19 = .ok (.aload_n 0, 1) := by decide +kernel
theorem dL_law_20 : decode cL_law 20 = .ok (.iconst 0, 1) := by decide +kernel
theorem dL_law_21 : decode cL_law 21 = .ok (.invokestatic 95, 3) := by decide +kernel
theorem dL_law_24 : decode cL_law 24 = .ok (.iconst 5, 1) := by decide +kernel
theorem dL_law_25 : decode cL_law 25 = .ok (.invokestatic 23, 3) := by decide +kernel
theorem dL_law_28 : decode cL_law 28 = .ok (.iadd, 1) := by decide +kernel
theorem dL_law_29 : decode cL_law 29 = .ok (.iconst 1, 1) := by decide +kernel
theorem dL_law_30 : decode cL_law 30 = .ok (.aload_n 0, 1) := by decide +kernel
theorem dL_law_31 : decode cL_law 31 = .ok (.iconst 1, 1) := by decide +kernel
theorem dL_law_32 : decode cL_law 32 = .ok (.invokestatic 95, 3) := by decide +kernel
theorem dL_law_35 : decode cL_law 35 = .ok (.iconst 3, 1) := by decide +kernel
theorem dL_law_36 : decode cL_law 36 = .ok (.invokestatic 23, 3) := by decide +kernel
theorem dL_law_39 : decode cL_law 39 = .ok (.iadd, 1) := by decide +kernel
theorem dL_law_40 : decode cL_law 40 = .ok (.aload_n 0, 1) := by decide +kernel
theorem dL_law_41 : decode cL_law 41 = .ok (.iconst 2, 1) := by decide +kernel
theorem dL_law_42 : decode cL_law 42 = .ok (.invokestatic 95, 3) := by decide +kernel
theorem dL_law_45 : decode cL_law 45 = .ok (.iconst 2, 1) := by decide +kernel
theorem dL_law_46 : decode cL_law 46 = .ok (.invokestatic 23, 3) := by decide +kernel
theorem dL_law_49 : decode cL_law 49 = .ok (.ifCond .ne 7, 3) := by decide +kernel
theorem dL_law_52 : decode cL_law 52 = .ok (.iconst 1, 1) := by decide +kernel
theorem dL_law_53 : decode cL_law 53 = .ok (.goto 4, 3) := by decide +kernel
theorem dL_law_56 : decode cL_law 56 = .ok (.iconst 0, 1) := by decide +kernel
theorem dL_law_57 : decode cL_law 57 = .ok (.invokestatic 28, 3) := by decide +kernel
theorem dL_law_60 : decode cL_law 60 = .ok (.istore_n 3, 1) := by decide +kernel
theorem dL_law_61 : decode cL_law 61 = .ok (.iconst 3, 1) := by decide +kernel
theorem dL_law_62 : decode cL_law 62 = .ok (.istore 4, 2) := by decide +kernel
theorem dL_law_64 : decode cL_law 64 = .ok (.iload 4, 2) := by decide +kernel
theorem dL_law_66 : decode cL_law 66 = .ok (.bipush 50, 2) := by decide +kernel
theorem dL_law_68 : decode cL_law 68 = .ok (.if_icmp .ge 90, 3) := by decide +kernel
theorem dL_law_71 : decode cL_law 71 = .ok (.iload_n 3, 1) := by decide +kernel
theorem dL_law_72 : decode cL_law 72 = .ok (.ifCond .eq 86, 3) := by decide +kernel
theorem dL_law_75 : decode cL_law 75 = .ok (.aload_n 1, 1) := by decide +kernel
theorem dL_law_76 : decode cL_law 76 = .ok (.aload_n 2, 1) := by decide +kernel
theorem dL_law_77 : decode cL_law 77 = .ok (.aload_n 0, 1) := by decide +kernel
theorem dL_law_78 : decode cL_law 78 = .ok (.iload 4, 2) := by decide +kernel
theorem dL_law_80 : decode cL_law 80 = .ok (.invokestatic 95, 3) := by decide +kernel
theorem dL_law_83 : decode cL_law 83 = .ok (.aload_n 0, 1) := by decide +kernel
theorem dL_law_84 : decode cL_law 84 = .ok (.iload 4, 2) := by decide +kernel
theorem dL_law_86 : decode cL_law 86 = .ok (.iconst 1, 1) := by decide +kernel
theorem dL_law_87 : decode cL_law 87 = .ok (.iadd, 1) := by decide +kernel
theorem dL_law_88 : decode cL_law 88 = .ok (.invokestatic 95, 3) := by decide +kernel
theorem dL_law_91 : decode cL_law 91 = .ok (.iconst 2, 1) := by decide +kernel
theorem dL_law_92 : decode cL_law 92 = .ok (.ishr, 1) := by decide +kernel
theorem dL_law_93 : decode cL_law 93 = .ok (.invokestatic 98, 3) := by decide +kernel
theorem dL_law_96 : decode cL_law 96 = .ok (.ifCond .eq 54, 3) := by decide +kernel
theorem dL_law_99 : decode cL_law 99 = .ok (.iload 4, 2) := by decide +kernel
theorem dL_law_101 : decode cL_law 101 = .ok (.iconst 4, 1) := by decide +kernel
theorem dL_law_102 : decode cL_law 102 = .ok (.irem, 1) := by decide +kernel
theorem dL_law_103 : decode cL_law 103 = .ok (.ifCond .gt 10, 3) := by decide +kernel
theorem dL_law_106 : decode cL_law 106 = .ok (.aload_n 1, 1) := by decide +kernel
theorem dL_law_107 : decode cL_law 107 = .ok (.invokestatic 102, 3) := by decide +kernel
theorem dL_law_110 : decode cL_law 110 = .ok (.ifCond .eq 40, 3) := by decide +kernel
theorem dL_law_113 : decode cL_law 113 = .ok (.iload 4, 2) := by decide +kernel
theorem dL_law_115 : decode cL_law 115 = .ok (.bipush 16, 2) := by decide +kernel
theorem dL_law_117 : decode cL_law 117 = .ok (.irem, 1) := by decide +kernel
theorem dL_law_118 : decode cL_law 118 = .ok (.ifCond .gt 28, 3) := by decide +kernel
theorem dL_law_121 : decode cL_law 121 = .ok (.aload_n 1, 1) := by decide +kernel
theorem dL_law_122 : decode cL_law 122 = .ok (.iconst 0, 1) := by decide +kernel
theorem dL_law_123 : decode cL_law 123 = .ok (.invokevirtual 19, 3) := by decide +kernel
theorem dL_law_126 : decode cL_law 126 = .ok (.iconst 5, 1) := by decide +kernel
theorem dL_law_127 : decode cL_law 127 = .ok (.if_icmp .gt 19, 3) := by decide +kernel
theorem dL_law_130 : decode cL_law 130 = .ok (.aload_n 1, 1) := by decide +kernel
theorem dL_law_131 : decode cL_law 131 = .ok (.aload_n 2, 1) := by decide +kernel
theorem dL_law_132 : decode cL_law 132 = .ok (.aload_n 0, 1) := by decide +kernel
theorem dL_law_133 : decode cL_law 133 = .ok (.iload 4, 2) := by decide +kernel
theorem dL_law_135 : decode cL_law 135 = .ok (.iconst 2, 1) := by decide +kernel
theorem dL_law_136 : decode cL_law 136 = .ok (.iadd, 1) := by decide +kernel
theorem dL_law_137 : decode cL_law 137 = .ok (.invokestatic 95, 3) := by decide +kernel
theorem dL_law_140 : decode cL_law 140 = .ok (.invokestatic 106, 3) := by decide +kernel
theorem dL_law_143 : decode cL_law 143 = .ok (.ifCond .eq 7, 3) := by decide +kernel
theorem dL_law_146 : decode cL_law 146 = .ok (.iconst 1, 1) := by decide +kernel
theorem dL_law_147 : decode cL_law 147 = .ok (.goto 4, 3) := by decide +kernel
theorem dL_law_150 : decode cL_law 150 = .ok (.iconst 0, 1) := by decide +kernel
theorem dL_law_151 : decode cL_law 151 = .ok (.istore_n 3, 1) := by decide +kernel
theorem dL_law_152 : decode cL_law 152 = .ok (.iinc 4 1, 3) := by decide +kernel
theorem dL_law_155 : decode cL_law 155 = .ok (.goto (-91), 3) := by decide +kernel
theorem dL_law_158 : decode cL_law 158 = .ok (.iload_n 3, 1) := by decide +kernel
theorem dL_law_159 : decode cL_law 159 = .ok (.ifCond .eq 22, 3) := by decide +kernel
theorem dL_law_162 : decode cL_law 162 = .ok (.aload_n 1, 1) := by decide +kernel
theorem dL_law_163 : decode cL_law 163 = .ok (.invokestatic 102, 3) := by decide +kernel
theorem dL_law_166 : decode cL_law 166 = .ok (.ifCond .eq 15, 3) := by decide +kernel
theorem dL_law_169 : decode cL_law 169 = .ok (.aload_n 1, 1) := by decide +kernel
theorem dL_law_170 : decode cL_law 170 = .ok (.aload_n 2, 1) := by decide +kernel
theorem dL_law_171 : decode cL_law 171 = .ok (.invokestatic 109, 3) := by decide +kernel
theorem dL_law_174 : decode cL_law 174 = .ok (.ifCond .eq 7, 3) := by decide +kernel
theorem dL_law_177 : decode cL_law 177 = .ok (.iconst 1, 1) := by decide +kernel
theorem dL_law_178 : decode cL_law 178 = .ok (.goto 4, 3) := by decide +kernel
theorem dL_law_181 : decode cL_law 181 = .ok (.iconst 0, 1) := by decide +kernel
theorem dL_law_182 : decode cL_law 182 = .ok (.ireturn, 1) := by decide +kernel
