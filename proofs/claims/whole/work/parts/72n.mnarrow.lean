/-! the model: narrow -/
abbrev sty_M_narrow : MethodName := ⟨"StateTablesModel", "narrow", "(IZ)I"⟩
abbrev stc_M_narrow : ByteArray := prog_7_method_40_code
theorem sth_M_narrow : (sty_M_narrow).cls ≠ "java/lang/invoke/MethodHandle" ∧ (sty_M_narrow).cls ≠ "java/lang/invoke/VarHandle" ∧ (parseMethodDescriptor (sty_M_narrow).desc).map (fun d => d.parameters.length) = some 2 := by decide +kernel
theorem std_M_narrow_0 : decode stc_M_narrow 0 = .ok (.aload_n 0, 1) := by decide +kernel
theorem std_M_narrow_1 : decode stc_M_narrow 1 = .ok (.iconst 0, 1) := by decide +kernel
theorem std_M_narrow_2 : decode stc_M_narrow 2 = .ok (.putfield 1, 3) := by decide +kernel
theorem std_M_narrow_5 : decode stc_M_narrow 5 = .ok (.iload_n 1, 1) := by decide +kernel
theorem std_M_narrow_6 : decode stc_M_narrow 6 = .ok (.iconst 1, 1) := by decide +kernel
theorem std_M_narrow_7 : decode stc_M_narrow 7 = .ok (.bipush 60, 2) := by decide +kernel
theorem std_M_narrow_9 : decode stc_M_narrow 9 = .ok (.invokestatic 100, 3) := by decide +kernel
theorem std_M_narrow_12 : decode stc_M_narrow 12 = .ok (.ifCond .ne 6, 3) := by decide +kernel
theorem std_M_narrow_18 : decode stc_M_narrow 18 = .ok (.aload_n 0, 1) := by decide +kernel
theorem std_M_narrow_19 : decode stc_M_narrow 19 = .ok (.iconst 0, 1) := by decide +kernel
theorem std_M_narrow_20 : decode stc_M_narrow 20 = .ok (.putfield 188, 3) := by decide +kernel
theorem std_M_narrow_23 : decode stc_M_narrow 23 = .ok (.aload_n 0, 1) := by decide +kernel
theorem std_M_narrow_24 : decode stc_M_narrow 24 = .ok (.iconst 0, 1) := by decide +kernel
theorem std_M_narrow_25 : decode stc_M_narrow 25 = .ok (.putfield 191, 3) := by decide +kernel
theorem std_M_narrow_28 : decode stc_M_narrow 28 = .ok (.aload_n 0, 1) := by decide +kernel
theorem std_M_narrow_29 : decode stc_M_narrow 29 = .ok (.iconst 1, 1) := by decide +kernel
theorem std_M_narrow_30 : decode stc_M_narrow 30 = .ok (.putfield 194, 3) := by decide +kernel
theorem std_M_narrow_33 : decode stc_M_narrow 33 = .ok (.aload_n 0, 1) := by decide +kernel
theorem std_M_narrow_34 : decode stc_M_narrow 34 = .ok (.iconst 1, 1) := by decide +kernel
theorem std_M_narrow_35 : decode stc_M_narrow 35 = .ok (.putfield 175, 3) := by decide +kernel
theorem std_M_narrow_38 : decode stc_M_narrow 38 = .ok (.aload_n 0, 1) := by decide +kernel
theorem std_M_narrow_39 : decode stc_M_narrow 39 = .ok (.getfield 74, 3) := by decide +kernel
theorem std_M_narrow_42 : decode stc_M_narrow 42 = .ok (.iconst 0, 1) := by decide +kernel
theorem std_M_narrow_43 : decode stc_M_narrow 43 = .ok (.iconst 0, 1) := by decide +kernel
theorem std_M_narrow_44 : decode stc_M_narrow 44 = .ok (.iastore, 1) := by decide +kernel
theorem std_M_narrow_45 : decode stc_M_narrow 45 = .ok (.aload_n 0, 1) := by decide +kernel
theorem std_M_narrow_46 : decode stc_M_narrow 46 = .ok (.getfield 77, 3) := by decide +kernel
theorem std_M_narrow_49 : decode stc_M_narrow 49 = .ok (.iconst 0, 1) := by decide +kernel
theorem std_M_narrow_50 : decode stc_M_narrow 50 = .ok (.iconst 0, 1) := by decide +kernel
theorem std_M_narrow_51 : decode stc_M_narrow 51 = .ok (.iastore, 1) := by decide +kernel
theorem std_M_narrow_52 : decode stc_M_narrow 52 = .ok (.aload_n 0, 1) := by decide +kernel
theorem std_M_narrow_53 : decode stc_M_narrow 53 = .ok (.getfield 80, 3) := by decide +kernel
theorem std_M_narrow_56 : decode stc_M_narrow 56 = .ok (.iconst 0, 1) := by decide +kernel
theorem std_M_narrow_57 : decode stc_M_narrow 57 = .ok (.iconst 0, 1) := by decide +kernel
theorem std_M_narrow_58 : decode stc_M_narrow 58 = .ok (.iastore, 1) := by decide +kernel
theorem std_M_narrow_59 : decode stc_M_narrow 59 = .ok (.aload_n 0, 1) := by decide +kernel
theorem std_M_narrow_60 : decode stc_M_narrow 60 = .ok (.getfield 83, 3) := by decide +kernel
theorem std_M_narrow_63 : decode stc_M_narrow 63 = .ok (.iconst 0, 1) := by decide +kernel
theorem std_M_narrow_64 : decode stc_M_narrow 64 = .ok (.iconst 0, 1) := by decide +kernel
theorem std_M_narrow_65 : decode stc_M_narrow 65 = .ok (.iastore, 1) := by decide +kernel
theorem std_M_narrow_66 : decode stc_M_narrow 66 = .ok (.aload_n 0, 1) := by decide +kernel
theorem std_M_narrow_67 : decode stc_M_narrow 67 = .ok (.getfield 86, 3) := by decide +kernel
theorem std_M_narrow_70 : decode stc_M_narrow 70 = .ok (.iconst 0, 1) := by decide +kernel
theorem std_M_narrow_71 : decode stc_M_narrow 71 = .ok (.iconst 0, 1) := by decide +kernel
theorem std_M_narrow_72 : decode stc_M_narrow 72 = .ok (.iastore, 1) := by decide +kernel
theorem std_M_narrow_73 : decode stc_M_narrow 73 = .ok (.aload_n 0, 1) := by decide +kernel
theorem std_M_narrow_74 : decode stc_M_narrow 74 = .ok (.getfield 89, 3) := by decide +kernel
theorem std_M_narrow_77 : decode stc_M_narrow 77 = .ok (.iconst 0, 1) := by decide +kernel
theorem std_M_narrow_78 : decode stc_M_narrow 78 = .ok (.iconst 0, 1) := by decide +kernel
theorem std_M_narrow_79 : decode stc_M_narrow 79 = .ok (.iastore, 1) := by decide +kernel
theorem std_M_narrow_80 : decode stc_M_narrow 80 = .ok (.iconst 0, 1) := by decide +kernel
theorem std_M_narrow_81 : decode stc_M_narrow 81 = .ok (.istore_n 3, 1) := by decide +kernel
theorem std_M_narrow_82 : decode stc_M_narrow 82 = .ok (.iload_n 3, 1) := by decide +kernel
theorem std_M_narrow_83 : decode stc_M_narrow 83 = .ok (.aload_n 0, 1) := by decide +kernel
theorem std_M_narrow_84 : decode stc_M_narrow 84 = .ok (.getfield 92, 3) := by decide +kernel
theorem std_M_narrow_87 : decode stc_M_narrow 87 = .ok (.if_icmp .ge 200, 3) := by decide +kernel
theorem std_M_narrow_287 : decode stc_M_narrow 287 = .ok (.ldc 134, 2) := by decide +kernel
theorem std_M_narrow_289 : decode stc_M_narrow 289 = .ok (.istore_n 3, 1) := by decide +kernel
theorem std_M_narrow_290 : decode stc_M_narrow 290 = .ok (.iconst 0, 1) := by decide +kernel
theorem std_M_narrow_291 : decode stc_M_narrow 291 = .ok (.istore 4, 2) := by decide +kernel
theorem std_M_narrow_293 : decode stc_M_narrow 293 = .ok (.iload 4, 2) := by decide +kernel
theorem std_M_narrow_295 : decode stc_M_narrow 295 = .ok (.aload_n 0, 1) := by decide +kernel
theorem std_M_narrow_296 : decode stc_M_narrow 296 = .ok (.getfield 175, 3) := by decide +kernel
theorem std_M_narrow_299 : decode stc_M_narrow 299 = .ok (.if_icmp .ge 60, 3) := by decide +kernel
theorem std_M_narrow_359 : decode stc_M_narrow 359 = .ok (.iload_n 3, 1) := by decide +kernel
theorem std_M_narrow_360 : decode stc_M_narrow 360 = .ok (.ldc 134, 2) := by decide +kernel
theorem std_M_narrow_362 : decode stc_M_narrow 362 = .ok (.if_icmp .ne 8, 3) := by decide +kernel
theorem std_M_narrow_370 : decode stc_M_narrow 370 = .ok (.iload_n 3, 1) := by decide +kernel
theorem std_M_narrow_371 : decode stc_M_narrow 371 = .ok (.ireturn, 1) := by decide +kernel
theorem std_M_narrow_365 : decode stc_M_narrow 365 = .ok (.ldc 129, 2) := by decide +kernel
theorem std_M_narrow_367 : decode stc_M_narrow 367 = .ok (.goto 4, 3) := by decide +kernel
theorem std_M_narrow_302 : decode stc_M_narrow 302 = .ok (.aload_n 0, 1) := by decide +kernel
theorem std_M_narrow_303 : decode stc_M_narrow 303 = .ok (.getfield 80, 3) := by decide +kernel
theorem std_M_narrow_306 : decode stc_M_narrow 306 = .ok (.iload 4, 2) := by decide +kernel
theorem std_M_narrow_308 : decode stc_M_narrow 308 = .ok (.iaload, 1) := by decide +kernel
theorem std_M_narrow_309 : decode stc_M_narrow 309 = .ok (.aload_n 0, 1) := by decide +kernel
theorem std_M_narrow_310 : decode stc_M_narrow 310 = .ok (.getfield 109, 3) := by decide +kernel
theorem std_M_narrow_313 : decode stc_M_narrow 313 = .ok (.if_icmp .lt 38, 3) := by decide +kernel
theorem std_M_narrow_351 : decode stc_M_narrow 351 = .ok (.iload_n 3, 1) := by decide +kernel
theorem std_M_narrow_352 : decode stc_M_narrow 352 = .ok (.istore_n 3, 1) := by decide +kernel
theorem std_M_narrow_353 : decode stc_M_narrow 353 = .ok (.iinc 4 1, 3) := by decide +kernel
theorem std_M_narrow_356 : decode stc_M_narrow 356 = .ok (.goto (-63), 3) := by decide +kernel
theorem std_M_narrow_316 : decode stc_M_narrow 316 = .ok (.aload_n 0, 1) := by decide +kernel
theorem std_M_narrow_317 : decode stc_M_narrow 317 = .ok (.getfield 83, 3) := by decide +kernel
theorem std_M_narrow_320 : decode stc_M_narrow 320 = .ok (.iload 4, 2) := by decide +kernel
theorem std_M_narrow_322 : decode stc_M_narrow 322 = .ok (.iaload, 1) := by decide +kernel
theorem std_M_narrow_323 : decode stc_M_narrow 323 = .ok (.aload_n 0, 1) := by decide +kernel
theorem std_M_narrow_324 : decode stc_M_narrow 324 = .ok (.getfield 112, 3) := by decide +kernel
theorem std_M_narrow_327 : decode stc_M_narrow 327 = .ok (.if_icmp .lt 24, 3) := by decide +kernel
theorem std_M_narrow_330 : decode stc_M_narrow 330 = .ok (.aload_n 0, 1) := by decide +kernel
theorem std_M_narrow_331 : decode stc_M_narrow 331 = .ok (.getfield 89, 3) := by decide +kernel
theorem std_M_narrow_334 : decode stc_M_narrow 334 = .ok (.iload 4, 2) := by decide +kernel
theorem std_M_narrow_336 : decode stc_M_narrow 336 = .ok (.iaload, 1) := by decide +kernel
theorem std_M_narrow_337 : decode stc_M_narrow 337 = .ok (.iload_n 3, 1) := by decide +kernel
theorem std_M_narrow_338 : decode stc_M_narrow 338 = .ok (.if_icmp .ge 13, 3) := by decide +kernel
theorem std_M_narrow_341 : decode stc_M_narrow 341 = .ok (.aload_n 0, 1) := by decide +kernel
theorem std_M_narrow_342 : decode stc_M_narrow 342 = .ok (.getfield 89, 3) := by decide +kernel
theorem std_M_narrow_345 : decode stc_M_narrow 345 = .ok (.iload 4, 2) := by decide +kernel
theorem std_M_narrow_347 : decode stc_M_narrow 347 = .ok (.iaload, 1) := by decide +kernel
theorem std_M_narrow_348 : decode stc_M_narrow 348 = .ok (.goto 4, 3) := by decide +kernel
theorem std_M_narrow_90 : decode stc_M_narrow 90 = .ok (.aload_n 0, 1) := by decide +kernel
theorem std_M_narrow_91 : decode stc_M_narrow 91 = .ok (.getfield 175, 3) := by decide +kernel
theorem std_M_narrow_94 : decode stc_M_narrow 94 = .ok (.istore 4, 2) := by decide +kernel
theorem std_M_narrow_96 : decode stc_M_narrow 96 = .ok (.aload_n 0, 1) := by decide +kernel
theorem std_M_narrow_97 : decode stc_M_narrow 97 = .ok (.iconst 0, 1) := by decide +kernel
theorem std_M_narrow_98 : decode stc_M_narrow 98 = .ok (.putfield 175, 3) := by decide +kernel
theorem std_M_narrow_101 : decode stc_M_narrow 101 = .ok (.iconst 0, 1) := by decide +kernel
theorem std_M_narrow_102 : decode stc_M_narrow 102 = .ok (.istore 5, 2) := by decide +kernel
theorem std_M_narrow_104 : decode stc_M_narrow 104 = .ok (.iload 5, 2) := by decide +kernel
theorem std_M_narrow_106 : decode stc_M_narrow 106 = .ok (.iload 4, 2) := by decide +kernel
theorem std_M_narrow_108 : decode stc_M_narrow 108 = .ok (.if_icmp .ge 57, 3) := by decide +kernel
theorem std_M_narrow_165 : decode stc_M_narrow 165 = .ok (.iconst 0, 1) := by decide +kernel
theorem std_M_narrow_166 : decode stc_M_narrow 166 = .ok (.istore 5, 2) := by decide +kernel
theorem std_M_narrow_168 : decode stc_M_narrow 168 = .ok (.iload 5, 2) := by decide +kernel
theorem std_M_narrow_170 : decode stc_M_narrow 170 = .ok (.aload_n 0, 1) := by decide +kernel
theorem std_M_narrow_171 : decode stc_M_narrow 171 = .ok (.getfield 175, 3) := by decide +kernel
theorem std_M_narrow_174 : decode stc_M_narrow 174 = .ok (.if_icmp .ge 20, 3) := by decide +kernel
theorem std_M_narrow_194 : decode stc_M_narrow 194 = .ok (.aload_n 0, 1) := by decide +kernel
theorem std_M_narrow_195 : decode stc_M_narrow 195 = .ok (.invokevirtual 204, 3) := by decide +kernel
theorem kw_4_82 : Cond.code sty_M_sort stc_M_sort 3 none ∈ stGW := st_t4 (List.mem_of_getElem? (i := 82) (by decide +kernel)) (by decide +kernel)
theorem kw_4_79 : Cond.methodLink "StateTablesModel" 204 (sty_M_sort) ∈ stGW := st_t4 (List.mem_of_getElem? (i := 79) (by decide +kernel)) (by decide +kernel)
theorem kw_4_81 : Cond.instanceMethod (sty_M_sort) ∈ stGW := st_t4 (List.mem_of_getElem? (i := 81) (by decide +kernel)) (by decide +kernel)
theorem kw_0_32 : Cond.selects "StateTablesModel" (sty_M_sort) (sty_M_sort) ∈ stGW := st_t0 (List.mem_of_getElem? (i := 32) (by decide +kernel)) (by decide +kernel)
theorem std_M_narrow_198 : decode stc_M_narrow 198 = .ok (.aload_n 0, 1) := by decide +kernel
theorem std_M_narrow_199 : decode stc_M_narrow 199 = .ok (.aload_n 0, 1) := by decide +kernel
theorem std_M_narrow_200 : decode stc_M_narrow 200 = .ok (.getfield 175, 3) := by decide +kernel
theorem std_M_narrow_203 : decode stc_M_narrow 203 = .ok (.aload_n 0, 1) := by decide +kernel
theorem std_M_narrow_204 : decode stc_M_narrow 204 = .ok (.getfield 194, 3) := by decide +kernel
theorem std_M_narrow_207 : decode stc_M_narrow 207 = .ok (.if_icmp .le 10, 3) := by decide +kernel
theorem std_M_narrow_217 : decode stc_M_narrow 217 = .ok (.aload_n 0, 1) := by decide +kernel
theorem std_M_narrow_218 : decode stc_M_narrow 218 = .ok (.getfield 194, 3) := by decide +kernel
theorem std_M_narrow_221 : decode stc_M_narrow 221 = .ok (.putfield 194, 3) := by decide +kernel
theorem std_M_narrow_224 : decode stc_M_narrow 224 = .ok (.aload_n 0, 1) := by decide +kernel
theorem std_M_narrow_225 : decode stc_M_narrow 225 = .ok (.getfield 175, 3) := by decide +kernel
theorem std_M_narrow_228 : decode stc_M_narrow 228 = .ok (.iload_n 1, 1) := by decide +kernel
theorem std_M_narrow_229 : decode stc_M_narrow 229 = .ok (.if_icmp .le 52, 3) := by decide +kernel
theorem std_M_narrow_281 : decode stc_M_narrow 281 = .ok (.iinc 3 1, 3) := by decide +kernel
theorem std_M_narrow_284 : decode stc_M_narrow 284 = .ok (.goto (-202), 3) := by decide +kernel
theorem std_M_narrow_232 : decode stc_M_narrow 232 = .ok (.aload_n 0, 1) := by decide +kernel
theorem std_M_narrow_233 : decode stc_M_narrow 233 = .ok (.dup, 1) := by decide +kernel
theorem std_M_narrow_234 : decode stc_M_narrow 234 = .ok (.getfield 191, 3) := by decide +kernel
theorem std_M_narrow_237 : decode stc_M_narrow 237 = .ok (.iconst 1, 1) := by decide +kernel
theorem std_M_narrow_238 : decode stc_M_narrow 238 = .ok (.iadd, 1) := by decide +kernel
theorem std_M_narrow_239 : decode stc_M_narrow 239 = .ok (.putfield 191, 3) := by decide +kernel
theorem std_M_narrow_242 : decode stc_M_narrow 242 = .ok (.aload_n 0, 1) := by decide +kernel
theorem std_M_narrow_243 : decode stc_M_narrow 243 = .ok (.aload_n 0, 1) := by decide +kernel
theorem std_M_narrow_244 : decode stc_M_narrow 244 = .ok (.getfield 188, 3) := by decide +kernel
theorem std_M_narrow_247 : decode stc_M_narrow 247 = .ok (.aload_n 0, 1) := by decide +kernel
theorem std_M_narrow_248 : decode stc_M_narrow 248 = .ok (.getfield 175, 3) := by decide +kernel
theorem std_M_narrow_251 : decode stc_M_narrow 251 = .ok (.iadd, 1) := by decide +kernel
theorem std_M_narrow_252 : decode stc_M_narrow 252 = .ok (.iload_n 1, 1) := by decide +kernel
theorem std_M_narrow_253 : decode stc_M_narrow 253 = .ok (.isub, 1) := by decide +kernel
theorem std_M_narrow_254 : decode stc_M_narrow 254 = .ok (.iload_n 2, 1) := by decide +kernel
theorem std_M_narrow_255 : decode stc_M_narrow 255 = .ok (.ifCond .eq 7, 3) := by decide +kernel
theorem std_M_narrow_262 : decode stc_M_narrow 262 = .ok (.iconst 0, 1) := by decide +kernel
theorem std_M_narrow_263 : decode stc_M_narrow 263 = .ok (.iadd, 1) := by decide +kernel
theorem std_M_narrow_264 : decode stc_M_narrow 264 = .ok (.putfield 188, 3) := by decide +kernel
theorem std_M_narrow_267 : decode stc_M_narrow 267 = .ok (.iload_n 2, 1) := by decide +kernel
theorem std_M_narrow_268 : decode stc_M_narrow 268 = .ok (.ifCond .eq 8, 3) := by decide +kernel
theorem std_M_narrow_276 : decode stc_M_narrow 276 = .ok (.aload_n 0, 1) := by decide +kernel
theorem std_M_narrow_277 : decode stc_M_narrow 277 = .ok (.iload_n 1, 1) := by decide +kernel
theorem std_M_narrow_278 : decode stc_M_narrow 278 = .ok (.putfield 175, 3) := by decide +kernel
theorem std_M_narrow_258 : decode stc_M_narrow 258 = .ok (.iconst 1, 1) := by decide +kernel
theorem std_M_narrow_259 : decode stc_M_narrow 259 = .ok (.goto 4, 3) := by decide +kernel
theorem std_M_narrow_271 : decode stc_M_narrow 271 = .ok (.aload_n 0, 1) := by decide +kernel
theorem std_M_narrow_272 : decode stc_M_narrow 272 = .ok (.iload_n 1, 1) := by decide +kernel
theorem std_M_narrow_273 : decode stc_M_narrow 273 = .ok (.invokevirtual 207, 3) := by decide +kernel
theorem kw_4_90 : Cond.code sty_M_join stc_M_join 4 none ∈ stGW := st_t4 (List.mem_of_getElem? (i := 90) (by decide +kernel)) (by decide +kernel)
theorem kw_4_87 : Cond.methodLink "StateTablesModel" 207 (sty_M_join) ∈ stGW := st_t4 (List.mem_of_getElem? (i := 87) (by decide +kernel)) (by decide +kernel)
theorem kw_4_89 : Cond.instanceMethod (sty_M_join) ∈ stGW := st_t4 (List.mem_of_getElem? (i := 89) (by decide +kernel)) (by decide +kernel)
theorem kw_0_34 : Cond.selects "StateTablesModel" (sty_M_join) (sty_M_join) ∈ stGW := st_t0 (List.mem_of_getElem? (i := 34) (by decide +kernel)) (by decide +kernel)
theorem std_M_narrow_210 : decode stc_M_narrow 210 = .ok (.aload_n 0, 1) := by decide +kernel
theorem std_M_narrow_211 : decode stc_M_narrow 211 = .ok (.getfield 175, 3) := by decide +kernel
theorem std_M_narrow_214 : decode stc_M_narrow 214 = .ok (.goto 7, 3) := by decide +kernel
theorem std_M_narrow_177 : decode stc_M_narrow 177 = .ok (.aload_n 0, 1) := by decide +kernel
theorem std_M_narrow_178 : decode stc_M_narrow 178 = .ok (.bipush 100, 2) := by decide +kernel
theorem std_M_narrow_180 : decode stc_M_narrow 180 = .ok (.iload 5, 2) := by decide +kernel
theorem std_M_narrow_182 : decode stc_M_narrow 182 = .ok (.iadd, 1) := by decide +kernel
theorem std_M_narrow_183 : decode stc_M_narrow 183 = .ok (.iload 5, 2) := by decide +kernel
theorem std_M_narrow_185 : decode stc_M_narrow 185 = .ok (.invokevirtual 181, 3) := by decide +kernel
theorem std_M_narrow_188 : decode stc_M_narrow 188 = .ok (.iinc 5 1, 3) := by decide +kernel
theorem std_M_narrow_191 : decode stc_M_narrow 191 = .ok (.goto (-23), 3) := by decide +kernel
theorem std_M_narrow_111 : decode stc_M_narrow 111 = .ok (.iconst 0, 1) := by decide +kernel
theorem std_M_narrow_112 : decode stc_M_narrow 112 = .ok (.istore 6, 2) := by decide +kernel
theorem std_M_narrow_114 : decode stc_M_narrow 114 = .ok (.iload 6, 2) := by decide +kernel
theorem std_M_narrow_116 : decode stc_M_narrow 116 = .ok (.aload_n 0, 1) := by decide +kernel
theorem std_M_narrow_117 : decode stc_M_narrow 117 = .ok (.getfield 13, 3) := by decide +kernel
theorem std_M_narrow_120 : decode stc_M_narrow 120 = .ok (.iload_n 3, 1) := by decide +kernel
theorem std_M_narrow_121 : decode stc_M_narrow 121 = .ok (.iaload, 1) := by decide +kernel
theorem std_M_narrow_122 : decode stc_M_narrow 122 = .ok (.if_icmp .ge 37, 3) := by decide +kernel
theorem std_M_narrow_159 : decode stc_M_narrow 159 = .ok (.iinc 5 1, 3) := by decide +kernel
theorem std_M_narrow_162 : decode stc_M_narrow 162 = .ok (.goto (-58), 3) := by decide +kernel
theorem std_M_narrow_125 : decode stc_M_narrow 125 = .ok (.aload_n 0, 1) := by decide +kernel
theorem std_M_narrow_126 : decode stc_M_narrow 126 = .ok (.iload_n 3, 1) := by decide +kernel
theorem std_M_narrow_127 : decode stc_M_narrow 127 = .ok (.aload_n 0, 1) := by decide +kernel
theorem std_M_narrow_128 : decode stc_M_narrow 128 = .ok (.getfield 86, 3) := by decide +kernel
theorem std_M_narrow_131 : decode stc_M_narrow 131 = .ok (.iload 5, 2) := by decide +kernel
theorem std_M_narrow_133 : decode stc_M_narrow 133 = .ok (.iaload, 1) := by decide +kernel
theorem std_M_narrow_134 : decode stc_M_narrow 134 = .ok (.iload 6, 2) := by decide +kernel
theorem std_M_narrow_136 : decode stc_M_narrow 136 = .ok (.invokevirtual 197, 3) := by decide +kernel
theorem kw_4_66 : Cond.code sty_M_mayFollow stc_M_mayFollow 6 (some .boolean) ∈ stGW := st_t4 (List.mem_of_getElem? (i := 66) (by decide +kernel)) (by decide +kernel)
theorem kw_4_63 : Cond.methodLink "StateTablesModel" 197 (sty_M_mayFollow) ∈ stGW := st_t4 (List.mem_of_getElem? (i := 63) (by decide +kernel)) (by decide +kernel)
theorem kw_4_65 : Cond.instanceMethod (sty_M_mayFollow) ∈ stGW := st_t4 (List.mem_of_getElem? (i := 65) (by decide +kernel)) (by decide +kernel)
theorem kw_0_28 : Cond.selects "StateTablesModel" (sty_M_mayFollow) (sty_M_mayFollow) ∈ stGW := st_t0 (List.mem_of_getElem? (i := 28) (by decide +kernel)) (by decide +kernel)
theorem std_M_narrow_139 : decode stc_M_narrow 139 = .ok (.ifCond .eq 14, 3) := by decide +kernel
theorem std_M_narrow_153 : decode stc_M_narrow 153 = .ok (.iinc 6 1, 3) := by decide +kernel
theorem std_M_narrow_156 : decode stc_M_narrow 156 = .ok (.goto (-42), 3) := by decide +kernel
theorem std_M_narrow_142 : decode stc_M_narrow 142 = .ok (.aload_n 0, 1) := by decide +kernel
theorem std_M_narrow_143 : decode stc_M_narrow 143 = .ok (.iload 5, 2) := by decide +kernel
theorem std_M_narrow_145 : decode stc_M_narrow 145 = .ok (.iload_n 3, 1) := by decide +kernel
theorem std_M_narrow_146 : decode stc_M_narrow 146 = .ok (.iload 6, 2) := by decide +kernel
theorem std_M_narrow_148 : decode stc_M_narrow 148 = .ok (.bipush 100, 2) := by decide +kernel
theorem std_M_narrow_150 : decode stc_M_narrow 150 = .ok (.invokevirtual 200, 3) := by decide +kernel
theorem kw_4_70 : Cond.code sty_M_follow stc_M_follow 8 none ∈ stGW := st_t4 (List.mem_of_getElem? (i := 70) (by decide +kernel)) (by decide +kernel)
theorem kw_4_67 : Cond.methodLink "StateTablesModel" 200 (sty_M_follow) ∈ stGW := st_t4 (List.mem_of_getElem? (i := 67) (by decide +kernel)) (by decide +kernel)
theorem kw_4_69 : Cond.instanceMethod (sty_M_follow) ∈ stGW := st_t4 (List.mem_of_getElem? (i := 69) (by decide +kernel)) (by decide +kernel)
theorem kw_0_29 : Cond.selects "StateTablesModel" (sty_M_follow) (sty_M_follow) ∈ stGW := st_t0 (List.mem_of_getElem? (i := 29) (by decide +kernel)) (by decide +kernel)
theorem std_M_narrow_15 : decode stc_M_narrow 15 = .ok (.ldc 104, 2) := by decide +kernel
theorem std_M_narrow_17 : decode stc_M_narrow 17 = .ok (.ireturn, 1) := by decide +kernel
set_option maxHeartbeats 4000000 in
set_option maxRecDepth 100000 in
theorem c_m_narrow (l : Launch) (dC : Nat → ClassId) (dI : Nat → Nat → Nat) (cI cJ cZ : ClassId) (m0 : Nat) (k_ch : Nat) (k_co : Nat) (k_ua : Nat) (k_ub : Nat) (k_ba : Nat) (k_rt : Nat) (k_rf : Nat) (k_ct : Nat) (k_cf : Nat) (k_nd : Nat) (k_na : Nat) (k_no : Nat) (k_bt : Nat) (k_bc : Nat) (k_br : Nat) (k_pc : Nat) (k_pr : Nat) (k_la : Nat) (k_lb : Nat) (k_ha : Nat) (k_hb : Nat) (k_ls : Nat) (k_wc : Nat) (HM : Prop) (bg : Int) (pn : Int) (wd : Int) (mg : Int) (mw : Int) (mc : Int) (n : Nat) (fba : Int → Int) (VV : Int → Int) (fle : Int → Int) (fsz : Int → Int) (fco : Int → Int) (ffu : Int → Int) (fsu : Int → Int) (fbb : Int → Int) (fmo : Int → Int) (ww : Int) (lq : Prop) (kBR : BR fbb fba) (kT : TB fsz fco ffu fsu fbb fmo) (kn12 : n ≤ 12) (ksz : ∀ j, 0 ≤ j → j < 13 → 0 ≤ fsz j ∧ fsz j ≤ 6) (kle : ∀ j, 0 ≤ j → j < 2 → 0 ≤ fle j ∧ fle j ≤ 40) (kw : rI ww) : ∀ sz, Met l sty_M_narrow (Cond.code sty_M_narrow stc_M_narrow 7 (some .int) :: stGW) ({ frames := 2, cells := 0, slots := 0, locals := 49 } : Room) (va_Pc [.ref m0, .int (iI ww), .int (iI (bI lq))] (zPre (dC, dI) stCl [(cI, .int), (cJ, .long), (cZ, .boolean)] st_nw [(m0, .inr (5, [.int (iI 0), .int (iI ((n : Nat) : Int)), .ref k_ch, .ref k_co, .ref k_ua, .ref k_ub, .ref k_ba, .int (iI (fle 0)), .int (iI (fle 1)), .int (iI (fmo 0)), .int (iI (fmo 1)), .int (iI (bI HM)), .ref k_rt, .ref k_rf, .ref k_ct, .ref k_cf, .ref k_nd, .ref k_na, .ref k_no, .ref k_bt, .ref k_bc, .ref k_br, .int (iI bg), .int (iI pn), .ref k_pc, .ref k_pr, .ref k_la, .ref k_lb, .ref k_ha, .ref k_hb, .ref k_ls, .ref k_wc, .int (iI wd), .int (iI mg), .int (iI mw), .int (iI mc)])), (k_la, .inl (cI, aI 800 (fA VV))), (k_lb, .inl (cI, aI 800 (fB VV))), (k_ha, .inl (cI, aI 800 (fC VV))), (k_hb, .inl (cI, aI 800 (fD VV))), (k_ls, .inl (cI, aI 800 (fL VV))), (k_wc, .inl (cI, aI 800 (fW VV))), (k_ch, .inl (cI, aI 13 fsz)), (k_co, .inl (cI, aI 78 fco)), (k_ba, .inl (cZ, aI 468 fba)), (k_ua, .inl (cI, aI 78 ffu)), (k_ub, .inl (cI, aI 78 fsu))] sz)) (va_Qi (fun (r : Int32) (u : (Int → Int) × Int × Int × Int × Int × Int) => ((1 ≤ ww ∧ ww ≤ 60) ∧ r = iI u.2.2.2.2.2 ∧ WL fsz fco ffu fsu fbb fmo lq ww n u.2.1 u.1 u.2.2.1 u.2.2.2.1 u.2.2.2.2.1 ∧ WB fle u.1 u.2.1 u.2.2.2.2.2) ∨ (¬ (1 ≤ ww ∧ ww ≤ 60) ∧ r = iI (-2000000) ∧ u = (VV, wd, mg, mw, mc, (-2000000)))) (zPost (dC, dI) stCl [(cI, .int), (cJ, .long), (cZ, .boolean)] [(m0, .inr (5, [.int (iI 0), .int (iI ((n : Nat) : Int)), .ref k_ch, .ref k_co, .ref k_ua, .ref k_ub, .ref k_ba, .int (iI (fle 0)), .int (iI (fle 1)), .int (iI (fmo 0)), .int (iI (fmo 1)), .int (iI (bI HM)), .ref k_rt, .ref k_rf, .ref k_ct, .ref k_cf, .ref k_nd, .ref k_na, .ref k_no, .ref k_bt, .ref k_bc, .ref k_br, .int (iI bg), .int (iI pn), .ref k_pc, .ref k_pr, .ref k_la, .ref k_lb, .ref k_ha, .ref k_hb, .ref k_ls, .ref k_wc, .int (iI wd), .int (iI mg), .int (iI mw), .int (iI mc)])), (k_la, .inl (cI, aI 800 (fA VV))), (k_lb, .inl (cI, aI 800 (fB VV))), (k_ha, .inl (cI, aI 800 (fC VV))), (k_hb, .inl (cI, aI 800 (fD VV))), (k_ls, .inl (cI, aI 800 (fL VV))), (k_wc, .inl (cI, aI 800 (fW VV))), (k_ch, .inl (cI, aI 13 fsz)), (k_co, .inl (cI, aI 78 fco)), (k_ba, .inl (cZ, aI 468 fba)), (k_ua, .inl (cI, aI 78 ffu)), (k_ub, .inl (cI, aI 78 fsu))] sz (fun u : (Int → Int) × Int × Int × Int × Int × Int => [(m0, .inr (5, [.int (iI 0), .int (iI ((n : Nat) : Int)), .ref k_ch, .ref k_co, .ref k_ua, .ref k_ub, .ref k_ba, .int (iI (fle 0)), .int (iI (fle 1)), .int (iI (fmo 0)), .int (iI (fmo 1)), .int (iI (bI HM)), .ref k_rt, .ref k_rf, .ref k_ct, .ref k_cf, .ref k_nd, .ref k_na, .ref k_no, .ref k_bt, .ref k_bc, .ref k_br, .int (iI bg), .int (iI pn), .ref k_pc, .ref k_pr, .ref k_la, .ref k_lb, .ref k_ha, .ref k_hb, .ref k_ls, .ref k_wc, .int (iI (u.2.1)), .int (iI (u.2.2.1)), .int (iI (u.2.2.2.1)), .int (iI (u.2.2.2.2.1))])), (k_la, .inl (cI, aI 800 (fA (u.1)))), (k_lb, .inl (cI, aI 800 (fB (u.1)))), (k_ha, .inl (cI, aI 800 (fC (u.1)))), (k_hb, .inl (cI, aI 800 (fD (u.1)))), (k_ls, .inl (cI, aI 800 (fL (u.1)))), (k_wc, .inl (cI, aI 800 (fW (u.1)))), (k_ch, .inl (cI, aI 13 fsz)), (k_co, .inl (cI, aI 78 fco)), (k_ba, .inl (cZ, aI 468 fba)), (k_ua, .inl (cI, aI 78 ffu)), (k_ub, .inl (cI, aI 78 fsu))])) (va_A [(m0, .inr (5, [.int (iI 0), .int (iI ((n : Nat) : Int)), .ref k_ch, .ref k_co, .ref k_ua, .ref k_ub, .ref k_ba, .int (iI (fle 0)), .int (iI (fle 1)), .int (iI (fmo 0)), .int (iI (fmo 1)), .int (iI (bI HM)), .ref k_rt, .ref k_rf, .ref k_ct, .ref k_cf, .ref k_nd, .ref k_na, .ref k_no, .ref k_bt, .ref k_bc, .ref k_br, .int (iI bg), .int (iI pn), .ref k_pc, .ref k_pr, .ref k_la, .ref k_lb, .ref k_ha, .ref k_hb, .ref k_ls, .ref k_wc, .int (iI wd), .int (iI mg), .int (iI mw), .int (iI mc)])), (k_la, .inl (cI, aI 800 (fA VV))), (k_lb, .inl (cI, aI 800 (fB VV))), (k_ha, .inl (cI, aI 800 (fC VV))), (k_hb, .inl (cI, aI 800 (fD VV))), (k_ls, .inl (cI, aI 800 (fL VV))), (k_wc, .inl (cI, aI 800 (fW VV))), (k_ch, .inl (cI, aI 13 fsz)), (k_co, .inl (cI, aI 78 fco)), (k_ba, .inl (cZ, aI 468 fba)), (k_ua, .inl (cI, aI 78 ffu)), (k_ub, .inl (cI, aI 78 fsu))] sz)) 0 0 (va_A [(m0, .inr (5, [.int (iI 0), .int (iI ((n : Nat) : Int)), .ref k_ch, .ref k_co, .ref k_ua, .ref k_ub, .ref k_ba, .int (iI (fle 0)), .int (iI (fle 1)), .int (iI (fmo 0)), .int (iI (fmo 1)), .int (iI (bI HM)), .ref k_rt, .ref k_rf, .ref k_ct, .ref k_cf, .ref k_nd, .ref k_na, .ref k_no, .ref k_bt, .ref k_bc, .ref k_br, .int (iI bg), .int (iI pn), .ref k_pc, .ref k_pr, .ref k_la, .ref k_lb, .ref k_ha, .ref k_hb, .ref k_ls, .ref k_wc, .int (iI wd), .int (iI mg), .int (iI mw), .int (iI mc)])), (k_la, .inl (cI, aI 800 (fA VV))), (k_lb, .inl (cI, aI 800 (fB VV))), (k_ha, .inl (cI, aI 800 (fC VV))), (k_hb, .inl (cI, aI 800 (fD VV))), (k_ls, .inl (cI, aI 800 (fL VV))), (k_wc, .inl (cI, aI 800 (fW VV))), (k_ch, .inl (cI, aI 13 fsz)), (k_co, .inl (cI, aI 78 fco)), (k_ba, .inl (cZ, aI 468 fba)), (k_ua, .inl (cI, aI 78 ffu)), (k_ub, .inl (cI, aI 78 fsu))] sz) := by
  refine met_i (by decide) rfl (Nat.le_of_ble_eq_true rfl) ?_
  intro p e s m below meth c A Q C hmn hret
  refine g_aload_n C 0 std_M_narrow_0 rfl ?_
  refine g_iconst C std_M_narrow_1 ?_
  refine g_put C (ws' := [(m0, .inr (5, [.int (iI 0), .int (iI ((n : Nat) : Int)), .ref k_ch, .ref k_co, .ref k_ua, .ref k_ub, .ref k_ba, .int (iI (fle 0)), .int (iI (fle 1)), .int (iI (fmo 0)), .int (iI (fmo 1)), .int (iI (bI HM)), .ref k_rt, .ref k_rf, .ref k_ct, .ref k_cf, .ref k_nd, .ref k_na, .ref k_no, .ref k_bt, .ref k_bc, .ref k_br, .int (iI bg), .int (iI pn), .ref k_pc, .ref k_pr, .ref k_la, .ref k_lb, .ref k_ha, .ref k_hb, .ref k_ls, .ref k_wc, .int (iI wd), .int (iI mg), .int (iI mw), .int (iI mc)])), (k_la, .inl (cI, aI 800 (fA VV))), (k_lb, .inl (cI, aI 800 (fB VV))), (k_ha, .inl (cI, aI 800 (fC VV))), (k_hb, .inl (cI, aI 800 (fD VV))), (k_ls, .inl (cI, aI 800 (fL VV))), (k_wc, .inl (cI, aI 800 (fW VV))), (k_ch, .inl (cI, aI 13 fsz)), (k_co, .inl (cI, aI 78 fco)), (k_ba, .inl (cZ, aI 468 fba)), (k_ua, .inl (cI, aI 78 ffu)), (k_ub, .inl (cI, aI 78 fsu))]) (st_sub sti_M) stt_M sto_M stn_M 0 rfl rfl 0 (by decide) (List.mem_cons_of_mem _ kw_3_66) rfl rfl rfl rfl (Nat.le_of_ble_eq_true rfl) std_M_narrow_2 rfl ?_
  refine g_iload_n C 1 std_M_narrow_5 rfl ?_
  refine g_iconst C std_M_narrow_6 ?_
  refine g_bipush C std_M_narrow_7 (by decide) ?_
  refine g_S_i (wc := []) (wr := [(m0, .inr (5, [.int (iI 0), .int (iI ((n : Nat) : Int)), .ref k_ch, .ref k_co, .ref k_ua, .ref k_ub, .ref k_ba, .int (iI (fle 0)), .int (iI (fle 1)), .int (iI (fmo 0)), .int (iI (fmo 1)), .int (iI (bI HM)), .ref k_rt, .ref k_rf, .ref k_ct, .ref k_cf, .ref k_nd, .ref k_na, .ref k_no, .ref k_bt, .ref k_bc, .ref k_br, .int (iI bg), .int (iI pn), .ref k_pc, .ref k_pr, .ref k_la, .ref k_lb, .ref k_ha, .ref k_hb, .ref k_ls, .ref k_wc, .int (iI wd), .int (iI mg), .int (iI mw), .int (iI mc)])), (k_la, .inl (cI, aI 800 (fA VV))), (k_lb, .inl (cI, aI 800 (fB VV))), (k_ha, .inl (cI, aI 800 (fC VV))), (k_hb, .inl (cI, aI 800 (fD VV))), (k_ls, .inl (cI, aI 800 (fL VV))), (k_wc, .inl (cI, aI 800 (fW VV))), (k_ch, .inl (cI, aI 13 fsz)), (k_co, .inl (cI, aI 78 fco)), (k_ba, .inl (cZ, aI 468 fba)), (k_ua, .inl (cI, aI 78 ffu)), (k_ub, .inl (cI, aI 78 fsu))]) (rest := []) C (c_m_in l dC dI cI cJ cZ ww 1 60 (kw) (by decide) (by decide)) (st_cS C kw_3_187 kw_3_185 kw_1_6 kw_3_186 sth_M_in ⟨Nat.le_of_ble_eq_true rfl, Nat.le_of_ble_eq_true rfl⟩) rfl rfl (Nat.le_of_ble_eq_true rfl) std_M_narrow_9 ⟨Nat.le_of_ble_eq_true rfl, Nat.le_of_ble_eq_true rfl⟩ [] [0, 1, 2, 3, 4, 5, 6, 7, 8, 9, 10, 11] rfl rfl rfl rfl (by decide) (fun r1 u2 h3 => ?_)
  subst h3
  refine g_ws (ws' := [(m0, .inr (5, [.int (iI 0), .int (iI ((n : Nat) : Int)), .ref k_ch, .ref k_co, .ref k_ua, .ref k_ub, .ref k_ba, .int (iI (fle 0)), .int (iI (fle 1)), .int (iI (fmo 0)), .int (iI (fmo 1)), .int (iI (bI HM)), .ref k_rt, .ref k_rf, .ref k_ct, .ref k_cf, .ref k_nd, .ref k_na, .ref k_no, .ref k_bt, .ref k_bc, .ref k_br, .int (iI bg), .int (iI pn), .ref k_pc, .ref k_pr, .ref k_la, .ref k_lb, .ref k_ha, .ref k_hb, .ref k_ls, .ref k_wc, .int (iI wd), .int (iI mg), .int (iI mw), .int (iI mc)])), (k_la, .inl (cI, aI 800 (fA VV))), (k_lb, .inl (cI, aI 800 (fB VV))), (k_ha, .inl (cI, aI 800 (fC VV))), (k_hb, .inl (cI, aI 800 (fD VV))), (k_ls, .inl (cI, aI 800 (fL VV))), (k_wc, .inl (cI, aI 800 (fW VV))), (k_ch, .inl (cI, aI 13 fsz)), (k_co, .inl (cI, aI 78 fco)), (k_ba, .inl (cZ, aI 468 fba)), (k_ua, .inl (cI, aI 78 ffu)), (k_ub, .inl (cI, aI 78 fsu))]) rfl ?_
  refine g_ifne_b (tgt := 18) C std_M_narrow_12 (by decide) (fun c4 => ?_) (fun c4 => ?_)
  · have kw2 : 1 ≤ ww ∧ ww ≤ 60 := by omega
    refine g_aload_n C 0 std_M_narrow_18 rfl ?_
    refine g_iconst C std_M_narrow_19 ?_
    refine g_put C (ws' := [(m0, .inr (5, [.int (iI 0), .int (iI ((n : Nat) : Int)), .ref k_ch, .ref k_co, .ref k_ua, .ref k_ub, .ref k_ba, .int (iI (fle 0)), .int (iI (fle 1)), .int (iI (fmo 0)), .int (iI (fmo 1)), .int (iI (bI HM)), .ref k_rt, .ref k_rf, .ref k_ct, .ref k_cf, .ref k_nd, .ref k_na, .ref k_no, .ref k_bt, .ref k_bc, .ref k_br, .int (iI bg), .int (iI pn), .ref k_pc, .ref k_pr, .ref k_la, .ref k_lb, .ref k_ha, .ref k_hb, .ref k_ls, .ref k_wc, .int (iI wd), .int (iI 0), .int (iI mw), .int (iI mc)])), (k_la, .inl (cI, aI 800 (fA VV))), (k_lb, .inl (cI, aI 800 (fB VV))), (k_ha, .inl (cI, aI 800 (fC VV))), (k_hb, .inl (cI, aI 800 (fD VV))), (k_ls, .inl (cI, aI 800 (fL VV))), (k_wc, .inl (cI, aI 800 (fW VV))), (k_ch, .inl (cI, aI 13 fsz)), (k_co, .inl (cI, aI 78 fco)), (k_ba, .inl (cZ, aI 468 fba)), (k_ua, .inl (cI, aI 78 ffu)), (k_ub, .inl (cI, aI 78 fsu))]) (st_sub sti_M) stt_M sto_M stn_M 0 rfl rfl 33 (by decide) (List.mem_cons_of_mem _ kw_3_99) rfl rfl rfl rfl (Nat.le_of_ble_eq_true rfl) std_M_narrow_20 rfl ?_
    refine g_aload_n C 0 std_M_narrow_23 rfl ?_
    refine g_iconst C std_M_narrow_24 ?_
    refine g_put C (ws' := [(m0, .inr (5, [.int (iI 0), .int (iI ((n : Nat) : Int)), .ref k_ch, .ref k_co, .ref k_ua, .ref k_ub, .ref k_ba, .int (iI (fle 0)), .int (iI (fle 1)), .int (iI (fmo 0)), .int (iI (fmo 1)), .int (iI (bI HM)), .ref k_rt, .ref k_rf, .ref k_ct, .ref k_cf, .ref k_nd, .ref k_na, .ref k_no, .ref k_bt, .ref k_bc, .ref k_br, .int (iI bg), .int (iI pn), .ref k_pc, .ref k_pr, .ref k_la, .ref k_lb, .ref k_ha, .ref k_hb, .ref k_ls, .ref k_wc, .int (iI wd), .int (iI 0), .int (iI mw), .int (iI 0)])), (k_la, .inl (cI, aI 800 (fA VV))), (k_lb, .inl (cI, aI 800 (fB VV))), (k_ha, .inl (cI, aI 800 (fC VV))), (k_hb, .inl (cI, aI 800 (fD VV))), (k_ls, .inl (cI, aI 800 (fL VV))), (k_wc, .inl (cI, aI 800 (fW VV))), (k_ch, .inl (cI, aI 13 fsz)), (k_co, .inl (cI, aI 78 fco)), (k_ba, .inl (cZ, aI 468 fba)), (k_ua, .inl (cI, aI 78 ffu)), (k_ub, .inl (cI, aI 78 fsu))]) (st_sub sti_M) stt_M sto_M stn_M 0 rfl rfl 35 (by decide) (List.mem_cons_of_mem _ kw_3_101) rfl rfl rfl rfl (Nat.le_of_ble_eq_true rfl) std_M_narrow_25 rfl ?_
    refine g_aload_n C 0 std_M_narrow_28 rfl ?_
    refine g_iconst C std_M_narrow_29 ?_
    refine g_put C (ws' := [(m0, .inr (5, [.int (iI 0), .int (iI ((n : Nat) : Int)), .ref k_ch, .ref k_co, .ref k_ua, .ref k_ub, .ref k_ba, .int (iI (fle 0)), .int (iI (fle 1)), .int (iI (fmo 0)), .int (iI (fmo 1)), .int (iI (bI HM)), .ref k_rt, .ref k_rf, .ref k_ct, .ref k_cf, .ref k_nd, .ref k_na, .ref k_no, .ref k_bt, .ref k_bc, .ref k_br, .int (iI bg), .int (iI pn), .ref k_pc, .ref k_pr, .ref k_la, .ref k_lb, .ref k_ha, .ref k_hb, .ref k_ls, .ref k_wc, .int (iI wd), .int (iI 0), .int (iI 1), .int (iI 0)])), (k_la, .inl (cI, aI 800 (fA VV))), (k_lb, .inl (cI, aI 800 (fB VV))), (k_ha, .inl (cI, aI 800 (fC VV))), (k_hb, .inl (cI, aI 800 (fD VV))), (k_ls, .inl (cI, aI 800 (fL VV))), (k_wc, .inl (cI, aI 800 (fW VV))), (k_ch, .inl (cI, aI 13 fsz)), (k_co, .inl (cI, aI 78 fco)), (k_ba, .inl (cZ, aI 468 fba)), (k_ua, .inl (cI, aI 78 ffu)), (k_ub, .inl (cI, aI 78 fsu))]) (st_sub sti_M) stt_M sto_M stn_M 0 rfl rfl 34 (by decide) (List.mem_cons_of_mem _ kw_3_100) rfl rfl rfl rfl (Nat.le_of_ble_eq_true rfl) std_M_narrow_30 rfl ?_
    refine g_aload_n C 0 std_M_narrow_33 rfl ?_
    refine g_iconst C std_M_narrow_34 ?_
    refine g_put C (ws' := [(m0, .inr (5, [.int (iI 0), .int (iI ((n : Nat) : Int)), .ref k_ch, .ref k_co, .ref k_ua, .ref k_ub, .ref k_ba, .int (iI (fle 0)), .int (iI (fle 1)), .int (iI (fmo 0)), .int (iI (fmo 1)), .int (iI (bI HM)), .ref k_rt, .ref k_rf, .ref k_ct, .ref k_cf, .ref k_nd, .ref k_na, .ref k_no, .ref k_bt, .ref k_bc, .ref k_br, .int (iI bg), .int (iI pn), .ref k_pc, .ref k_pr, .ref k_la, .ref k_lb, .ref k_ha, .ref k_hb, .ref k_ls, .ref k_wc, .int (iI 1), .int (iI 0), .int (iI 1), .int (iI 0)])), (k_la, .inl (cI, aI 800 (fA VV))), (k_lb, .inl (cI, aI 800 (fB VV))), (k_ha, .inl (cI, aI 800 (fC VV))), (k_hb, .inl (cI, aI 800 (fD VV))), (k_ls, .inl (cI, aI 800 (fL VV))), (k_wc, .inl (cI, aI 800 (fW VV))), (k_ch, .inl (cI, aI 13 fsz)), (k_co, .inl (cI, aI 78 fco)), (k_ba, .inl (cZ, aI 468 fba)), (k_ua, .inl (cI, aI 78 ffu)), (k_ub, .inl (cI, aI 78 fsu))]) (st_sub sti_M) stt_M sto_M stn_M 0 rfl rfl 32 (by decide) (List.mem_cons_of_mem _ kw_3_98) rfl rfl rfl rfl (Nat.le_of_ble_eq_true rfl) std_M_narrow_35 rfl ?_
    refine g_aload_n C 0 std_M_narrow_38 rfl ?_
    refine g_get C (st_sub sti_M) 0 rfl rfl 26 (by decide) (List.mem_cons_of_mem _ kw_3_92) rfl rfl std_M_narrow_39 ?_
    refine g_iconst C std_M_narrow_42 ?_
    refine g_iconst C std_M_narrow_43 ?_
    refine g_iast C (ws' := [(m0, .inr (5, [.int (iI 0), .int (iI ((n : Nat) : Int)), .ref k_ch, .ref k_co, .ref k_ua, .ref k_ub, .ref k_ba, .int (iI (fle 0)), .int (iI (fle 1)), .int (iI (fmo 0)), .int (iI (fmo 1)), .int (iI (bI HM)), .ref k_rt, .ref k_rf, .ref k_ct, .ref k_cf, .ref k_nd, .ref k_na, .ref k_no, .ref k_bt, .ref k_bc, .ref k_br, .int (iI bg), .int (iI pn), .ref k_pc, .ref k_pr, .ref k_la, .ref k_lb, .ref k_ha, .ref k_hb, .ref k_ls, .ref k_wc, .int (iI 1), .int (iI 0), .int (iI 1), .int (iI 0)])), (k_la, .inl (cI, aI 800 (uZ (fA VV) 0 0))), (k_lb, .inl (cI, aI 800 (fB VV))), (k_ha, .inl (cI, aI 800 (fC VV))), (k_hb, .inl (cI, aI 800 (fD VV))), (k_ls, .inl (cI, aI 800 (fL VV))), (k_wc, .inl (cI, aI 800 (fW VV))), (k_ch, .inl (cI, aI 13 fsz)), (k_co, .inl (cI, aI 78 fco)), (k_ba, .inl (cZ, aI 468 fba)), (k_ua, .inl (cI, aI 78 ffu)), (k_ub, .inl (cI, aI 78 fsu))]) 1 0 rfl rfl (by omega) (by omega) (by omega) std_M_narrow_44 rfl ?_
    refine g_aload_n C 0 std_M_narrow_45 rfl ?_
    refine g_get C (st_sub sti_M) 0 rfl rfl 27 (by decide) (List.mem_cons_of_mem _ kw_3_93) rfl rfl std_M_narrow_46 ?_
    refine g_iconst C std_M_narrow_49 ?_
    refine g_iconst C std_M_narrow_50 ?_
    refine g_iast C (ws' := [(m0, .inr (5, [.int (iI 0), .int (iI ((n : Nat) : Int)), .ref k_ch, .ref k_co, .ref k_ua, .ref k_ub, .ref k_ba, .int (iI (fle 0)), .int (iI (fle 1)), .int (iI (fmo 0)), .int (iI (fmo 1)), .int (iI (bI HM)), .ref k_rt, .ref k_rf, .ref k_ct, .ref k_cf, .ref k_nd, .ref k_na, .ref k_no, .ref k_bt, .ref k_bc, .ref k_br, .int (iI bg), .int (iI pn), .ref k_pc, .ref k_pr, .ref k_la, .ref k_lb, .ref k_ha, .ref k_hb, .ref k_ls, .ref k_wc, .int (iI 1), .int (iI 0), .int (iI 1), .int (iI 0)])), (k_la, .inl (cI, aI 800 (uZ (fA VV) 0 0))), (k_lb, .inl (cI, aI 800 (uZ (fB VV) 0 0))), (k_ha, .inl (cI, aI 800 (fC VV))), (k_hb, .inl (cI, aI 800 (fD VV))), (k_ls, .inl (cI, aI 800 (fL VV))), (k_wc, .inl (cI, aI 800 (fW VV))), (k_ch, .inl (cI, aI 13 fsz)), (k_co, .inl (cI, aI 78 fco)), (k_ba, .inl (cZ, aI 468 fba)), (k_ua, .inl (cI, aI 78 ffu)), (k_ub, .inl (cI, aI 78 fsu))]) 2 0 rfl rfl (by omega) (by omega) (by omega) std_M_narrow_51 rfl ?_
    refine g_aload_n C 0 std_M_narrow_52 rfl ?_
    refine g_get C (st_sub sti_M) 0 rfl rfl 28 (by decide) (List.mem_cons_of_mem _ kw_3_94) rfl rfl std_M_narrow_53 ?_
    refine g_iconst C std_M_narrow_56 ?_
    refine g_iconst C std_M_narrow_57 ?_
    refine g_iast C (ws' := [(m0, .inr (5, [.int (iI 0), .int (iI ((n : Nat) : Int)), .ref k_ch, .ref k_co, .ref k_ua, .ref k_ub, .ref k_ba, .int (iI (fle 0)), .int (iI (fle 1)), .int (iI (fmo 0)), .int (iI (fmo 1)), .int (iI (bI HM)), .ref k_rt, .ref k_rf, .ref k_ct, .ref k_cf, .ref k_nd, .ref k_na, .ref k_no, .ref k_bt, .ref k_bc, .ref k_br, .int (iI bg), .int (iI pn), .ref k_pc, .ref k_pr, .ref k_la, .ref k_lb, .ref k_ha, .ref k_hb, .ref k_ls, .ref k_wc, .int (iI 1), .int (iI 0), .int (iI 1), .int (iI 0)])), (k_la, .inl (cI, aI 800 (uZ (fA VV) 0 0))), (k_lb, .inl (cI, aI 800 (uZ (fB VV) 0 0))), (k_ha, .inl (cI, aI 800 (uZ (fC VV) 0 0))), (k_hb, .inl (cI, aI 800 (fD VV))), (k_ls, .inl (cI, aI 800 (fL VV))), (k_wc, .inl (cI, aI 800 (fW VV))), (k_ch, .inl (cI, aI 13 fsz)), (k_co, .inl (cI, aI 78 fco)), (k_ba, .inl (cZ, aI 468 fba)), (k_ua, .inl (cI, aI 78 ffu)), (k_ub, .inl (cI, aI 78 fsu))]) 3 0 rfl rfl (by omega) (by omega) (by omega) std_M_narrow_58 rfl ?_
    refine g_aload_n C 0 std_M_narrow_59 rfl ?_
    refine g_get C (st_sub sti_M) 0 rfl rfl 29 (by decide) (List.mem_cons_of_mem _ kw_3_95) rfl rfl std_M_narrow_60 ?_
    refine g_iconst C std_M_narrow_63 ?_
    refine g_iconst C std_M_narrow_64 ?_
    refine g_iast C (ws' := [(m0, .inr (5, [.int (iI 0), .int (iI ((n : Nat) : Int)), .ref k_ch, .ref k_co, .ref k_ua, .ref k_ub, .ref k_ba, .int (iI (fle 0)), .int (iI (fle 1)), .int (iI (fmo 0)), .int (iI (fmo 1)), .int (iI (bI HM)), .ref k_rt, .ref k_rf, .ref k_ct, .ref k_cf, .ref k_nd, .ref k_na, .ref k_no, .ref k_bt, .ref k_bc, .ref k_br, .int (iI bg), .int (iI pn), .ref k_pc, .ref k_pr, .ref k_la, .ref k_lb, .ref k_ha, .ref k_hb, .ref k_ls, .ref k_wc, .int (iI 1), .int (iI 0), .int (iI 1), .int (iI 0)])), (k_la, .inl (cI, aI 800 (uZ (fA VV) 0 0))), (k_lb, .inl (cI, aI 800 (uZ (fB VV) 0 0))), (k_ha, .inl (cI, aI 800 (uZ (fC VV) 0 0))), (k_hb, .inl (cI, aI 800 (uZ (fD VV) 0 0))), (k_ls, .inl (cI, aI 800 (fL VV))), (k_wc, .inl (cI, aI 800 (fW VV))), (k_ch, .inl (cI, aI 13 fsz)), (k_co, .inl (cI, aI 78 fco)), (k_ba, .inl (cZ, aI 468 fba)), (k_ua, .inl (cI, aI 78 ffu)), (k_ub, .inl (cI, aI 78 fsu))]) 4 0 rfl rfl (by omega) (by omega) (by omega) std_M_narrow_65 rfl ?_
    refine g_aload_n C 0 std_M_narrow_66 rfl ?_
    refine g_get C (st_sub sti_M) 0 rfl rfl 30 (by decide) (List.mem_cons_of_mem _ kw_3_96) rfl rfl std_M_narrow_67 ?_
    refine g_iconst C std_M_narrow_70 ?_
    refine g_iconst C std_M_narrow_71 ?_
    refine g_iast C (ws' := [(m0, .inr (5, [.int (iI 0), .int (iI ((n : Nat) : Int)), .ref k_ch, .ref k_co, .ref k_ua, .ref k_ub, .ref k_ba, .int (iI (fle 0)), .int (iI (fle 1)), .int (iI (fmo 0)), .int (iI (fmo 1)), .int (iI (bI HM)), .ref k_rt, .ref k_rf, .ref k_ct, .ref k_cf, .ref k_nd, .ref k_na, .ref k_no, .ref k_bt, .ref k_bc, .ref k_br, .int (iI bg), .int (iI pn), .ref k_pc, .ref k_pr, .ref k_la, .ref k_lb, .ref k_ha, .ref k_hb, .ref k_ls, .ref k_wc, .int (iI 1), .int (iI 0), .int (iI 1), .int (iI 0)])), (k_la, .inl (cI, aI 800 (uZ (fA VV) 0 0))), (k_lb, .inl (cI, aI 800 (uZ (fB VV) 0 0))), (k_ha, .inl (cI, aI 800 (uZ (fC VV) 0 0))), (k_hb, .inl (cI, aI 800 (uZ (fD VV) 0 0))), (k_ls, .inl (cI, aI 800 (uZ (fL VV) 0 0))), (k_wc, .inl (cI, aI 800 (fW VV))), (k_ch, .inl (cI, aI 13 fsz)), (k_co, .inl (cI, aI 78 fco)), (k_ba, .inl (cZ, aI 468 fba)), (k_ua, .inl (cI, aI 78 ffu)), (k_ub, .inl (cI, aI 78 fsu))]) 5 0 rfl rfl (by omega) (by omega) (by omega) std_M_narrow_72 rfl ?_
    refine g_aload_n C 0 std_M_narrow_73 rfl ?_
    refine g_get C (st_sub sti_M) 0 rfl rfl 31 (by decide) (List.mem_cons_of_mem _ kw_3_97) rfl rfl std_M_narrow_74 ?_
    refine g_iconst C std_M_narrow_77 ?_
    refine g_iconst C std_M_narrow_78 ?_
    refine g_iast C (ws' := [(m0, .inr (5, [.int (iI 0), .int (iI ((n : Nat) : Int)), .ref k_ch, .ref k_co, .ref k_ua, .ref k_ub, .ref k_ba, .int (iI (fle 0)), .int (iI (fle 1)), .int (iI (fmo 0)), .int (iI (fmo 1)), .int (iI (bI HM)), .ref k_rt, .ref k_rf, .ref k_ct, .ref k_cf, .ref k_nd, .ref k_na, .ref k_no, .ref k_bt, .ref k_bc, .ref k_br, .int (iI bg), .int (iI pn), .ref k_pc, .ref k_pr, .ref k_la, .ref k_lb, .ref k_ha, .ref k_hb, .ref k_ls, .ref k_wc, .int (iI 1), .int (iI 0), .int (iI 1), .int (iI 0)])), (k_la, .inl (cI, aI 800 (uZ (fA VV) 0 0))), (k_lb, .inl (cI, aI 800 (uZ (fB VV) 0 0))), (k_ha, .inl (cI, aI 800 (uZ (fC VV) 0 0))), (k_hb, .inl (cI, aI 800 (uZ (fD VV) 0 0))), (k_ls, .inl (cI, aI 800 (uZ (fL VV) 0 0))), (k_wc, .inl (cI, aI 800 (uZ (fW VV) 0 0))), (k_ch, .inl (cI, aI 13 fsz)), (k_co, .inl (cI, aI 78 fco)), (k_ba, .inl (cZ, aI 468 fba)), (k_ua, .inl (cI, aI 78 ffu)), (k_ub, .inl (cI, aI 78 fsu))]) 6 0 rfl rfl (by omega) (by omega) (by omega) std_M_narrow_79 rfl ?_
    obtain ⟨w1, w2, w3, w4, w5, w6⟩ := pw_6 (R := VV) (t := 0) (E := 12884901888000) (z2 := 0) (z3 := 0) (z4 := 0) (z5 := 0) (z6 := 0) (z7 := 0) (by decide) (by decide) (by decide) (by decide) (by decide) (by decide)
    refine g_ws (ws' := [(m0, .inr (5, [.int (iI 0), .int (iI ((n : Nat) : Int)), .ref k_ch, .ref k_co, .ref k_ua, .ref k_ub, .ref k_ba, .int (iI (fle 0)), .int (iI (fle 1)), .int (iI (fmo 0)), .int (iI (fmo 1)), .int (iI (bI HM)), .ref k_rt, .ref k_rf, .ref k_ct, .ref k_cf, .ref k_nd, .ref k_na, .ref k_no, .ref k_bt, .ref k_bc, .ref k_br, .int (iI bg), .int (iI pn), .ref k_pc, .ref k_pr, .ref k_la, .ref k_lb, .ref k_ha, .ref k_hb, .ref k_ls, .ref k_wc, .int (iI 1), .int (iI 0), .int (iI 1), .int (iI 0)])), (k_la, .inl (cI, aI 800 (fA (uZ VV 0 12884901888000)))), (k_lb, .inl (cI, aI 800 (fB (uZ VV 0 12884901888000)))), (k_ha, .inl (cI, aI 800 (fC (uZ VV 0 12884901888000)))), (k_hb, .inl (cI, aI 800 (fD (uZ VV 0 12884901888000)))), (k_ls, .inl (cI, aI 800 (fL (uZ VV 0 12884901888000)))), (k_wc, .inl (cI, aI 800 (fW (uZ VV 0 12884901888000)))), (k_ch, .inl (cI, aI 13 fsz)), (k_co, .inl (cI, aI 78 fco)), (k_ba, .inl (cZ, aI 468 fba)), (k_ua, .inl (cI, aI 78 ffu)), (k_ub, .inl (cI, aI 78 fsu))]) (by rw [w1, w2, w3, w4, w5, w6]) ?_
    refine g_iconst C std_M_narrow_80 ?_
    refine g_istore_n C (lv' := [(3, .int (iI 0)), (0, .ref m0), (1, .int (iI ww)), (2, .int (iI (bI lq)))]) std_M_narrow_81 (by decide) rfl ?_
    have L82 : ∀ (nn82 : Nat) (d : Nat) (RR : Int → Int) (w0 : Int) (g0 : Int) (h0 : Int) (c0 : Int), d ≤ n → WL fsz fco ffu fsu fbb fmo lq ww d w0 RR g0 h0 c0 → (0 ≤ h0 ∧ h0 ≤ 360) → (((n : Nat) : Int) - ((d : Nat) : Int)) < (nn82 : Int) → G p l e ({ frames := 2, cells := 0, slots := 0, locals := 49 } : Room) s m ([.ref m0, .int (iI ww), .int (iI (bI lq))] : List Value).toArray below meth c (dC, dI) stCl 7 A 0 0 Q [(m0, .inr (5, [.int (iI 0), .int (iI ((n : Nat) : Int)), .ref k_ch, .ref k_co, .ref k_ua, .ref k_ub, .ref k_ba, .int (iI (fle 0)), .int (iI (fle 1)), .int (iI (fmo 0)), .int (iI (fmo 1)), .int (iI (bI HM)), .ref k_rt, .ref k_rf, .ref k_ct, .ref k_cf, .ref k_nd, .ref k_na, .ref k_no, .ref k_bt, .ref k_bc, .ref k_br, .int (iI bg), .int (iI pn), .ref k_pc, .ref k_pr, .ref k_la, .ref k_lb, .ref k_ha, .ref k_hb, .ref k_ls, .ref k_wc, .int (iI w0), .int (iI g0), .int (iI h0), .int (iI c0)])), (k_la, .inl (cI, aI 800 (fA RR))), (k_lb, .inl (cI, aI 800 (fB RR))), (k_ha, .inl (cI, aI 800 (fC RR))), (k_hb, .inl (cI, aI 800 (fD RR))), (k_ls, .inl (cI, aI 800 (fL RR))), (k_wc, .inl (cI, aI 800 (fW RR))), (k_ch, .inl (cI, aI 13 fsz)), (k_co, .inl (cI, aI 78 fco)), (k_ba, .inl (cZ, aI 468 fba)), (k_ua, .inl (cI, aI 78 ffu)), (k_ub, .inl (cI, aI 78 fsu))] 82 [(3, .int (iI ((d : Nat) : Int))), (2, .int (iI (bI lq))), (1, .int (iI ww)), (0, .ref m0)] [] := by
      intro nn82
      induction nn82 with
      | zero =>
        intro d RR w0 g0 h0 c0 kd kW kh hnn82
        exact absurd hnn82 (by omega)
      | succ nn82 ih82 =>
        intro d RR w0 g0 h0 c0 kd kW kh hnn82
        have hWi := wl_i kT kw2 d (by omega) kW
        refine g_iload_n C 0 std_M_narrow_82 rfl ?_
        refine g_aload_n C 3 std_M_narrow_83 rfl ?_
        refine g_get C (st_sub sti_M) 0 rfl rfl 1 (by decide) (List.mem_cons_of_mem _ kw_3_67) rfl rfl std_M_narrow_84 ?_
        refine g_icmp_ge (tgt := 287) C std_M_narrow_87 (by decide) ⟨by omega, by omega⟩ ⟨by omega, by omega⟩ (fun c5 => ?_) (fun c5 => ?_)
        · refine g_ldc C (z := 900000) (List.mem_cons_of_mem _ kw_3_213) (by decide) std_M_narrow_287 ?_
          refine g_istore_n C (lv' := [(3, .int (iI 900000)), (2, .int (iI (bI lq))), (1, .int (iI ww)), (0, .ref m0)]) std_M_narrow_289 (by decide) rfl ?_
          refine g_iconst C std_M_narrow_290 ?_
          refine g_istore C (lv' := [(4, .int (iI 0)), (3, .int (iI 900000)), (2, .int (iI (bI lq))), (1, .int (iI ww)), (0, .ref m0)]) std_M_narrow_291 (by decide) rfl ?_
          have L293 : ∀ (nn293 : Nat) (x3 : Int) (z : Int), (0 ≤ x3 ∧ x3 ≤ w0) → WM fle RR x3 z → (w0 - x3) < (nn293 : Int) → G p l e ({ frames := 2, cells := 0, slots := 0, locals := 49 } : Room) s m ([.ref m0, .int (iI ww), .int (iI (bI lq))] : List Value).toArray below meth c (dC, dI) stCl 7 A 0 0 Q [(m0, .inr (5, [.int (iI 0), .int (iI ((n : Nat) : Int)), .ref k_ch, .ref k_co, .ref k_ua, .ref k_ub, .ref k_ba, .int (iI (fle 0)), .int (iI (fle 1)), .int (iI (fmo 0)), .int (iI (fmo 1)), .int (iI (bI HM)), .ref k_rt, .ref k_rf, .ref k_ct, .ref k_cf, .ref k_nd, .ref k_na, .ref k_no, .ref k_bt, .ref k_bc, .ref k_br, .int (iI bg), .int (iI pn), .ref k_pc, .ref k_pr, .ref k_la, .ref k_lb, .ref k_ha, .ref k_hb, .ref k_ls, .ref k_wc, .int (iI w0), .int (iI g0), .int (iI h0), .int (iI c0)])), (k_la, .inl (cI, aI 800 (fA RR))), (k_lb, .inl (cI, aI 800 (fB RR))), (k_ha, .inl (cI, aI 800 (fC RR))), (k_hb, .inl (cI, aI 800 (fD RR))), (k_ls, .inl (cI, aI 800 (fL RR))), (k_wc, .inl (cI, aI 800 (fW RR))), (k_ch, .inl (cI, aI 13 fsz)), (k_co, .inl (cI, aI 78 fco)), (k_ba, .inl (cZ, aI 468 fba)), (k_ua, .inl (cI, aI 78 ffu)), (k_ub, .inl (cI, aI 78 fsu))] 293 [(4, .int (iI x3)), (3, .int (iI z)), (2, .int (iI (bI lq))), (1, .int (iI ww)), (0, .ref m0)] [] := by
            intro nn293
            induction nn293 with
            | zero =>
              intro x3 z kx4 kz hnn293
              exact absurd hnn293 (by omega)
            | succ nn293 ih293 =>
              intro x3 z kx4 kz hnn293
              refine g_iload C 0 std_M_narrow_293 rfl ?_
              refine g_aload_n C 4 std_M_narrow_295 rfl ?_
              refine g_get C (st_sub sti_M) 0 rfl rfl 32 (by decide) (List.mem_cons_of_mem _ kw_3_98) rfl rfl std_M_narrow_296 ?_
              refine g_icmp_ge (tgt := 359) C std_M_narrow_299 (by decide) ⟨by omega, by omega⟩ ⟨by omega, by omega⟩ (fun c6 => ?_) (fun c6 => ?_)
              · have hzr := wm_r (fun i h1 h2 => wn_m (hWi.2.1 i h1 (by omega))) kz
                refine g_iload_n C 1 std_M_narrow_359 rfl ?_
                refine g_ldc C (z := 900000) (List.mem_cons_of_mem _ kw_3_213) (by decide) std_M_narrow_360 ?_
                refine g_icmp_ne (tgt := 370) C std_M_narrow_362 (by decide) ⟨by omega, by omega⟩ ⟨by omega, by omega⟩ (fun c7 => ?_) (fun c7 => ?_)
                · refine g_iload_n C 1 std_M_narrow_370 rfl ?_
                  exact hret _ _ _ (RR, w0, g0, h0, c0, z) (Or.inl ⟨kw2, rfl, (show d = n by omega) ▸ kW, wm_e1 kz (show x3 = w0 by omega) (by omega)⟩) std_M_narrow_371
                · refine g_ldc C (z := (-1000000)) (List.mem_cons_of_mem _ kw_3_234) (by decide) std_M_narrow_365 ?_
                  refine g_goto (tgt := 371) C std_M_narrow_367 (by decide) ?_
                  exact hret _ _ _ (RR, w0, g0, h0, c0, (-1000000)) (Or.inl ⟨kw2, rfl, (show d = n by omega) ▸ kW, wm_e0 kz (show x3 = w0 by omega) (by omega) (fun i h1 h2 => wn_m (hWi.2.1 i h1 (by omega))) (by omega)⟩) std_M_narrow_371
              · have hm6 := m6 (R := RR) (k := x3)
                have hwx := wn_m (hWi.2.1 x3 (by omega) (by omega))
                have hzr := wm_r (fun i h1 h2 => wn_m (hWi.2.1 i h1 (by omega))) kz
                have hl0 := kle 0 (by omega) (by omega)
                have hl1 := kle 1 (by omega) (by omega)
                refine g_aload_n C 4 std_M_narrow_302 rfl ?_
                refine g_get C (st_sub sti_M) 0 rfl rfl 28 (by decide) (List.mem_cons_of_mem _ kw_3_94) rfl rfl std_M_narrow_303 ?_
                refine g_iload C 0 std_M_narrow_306 rfl ?_
                refine g_iald C 3 0 rfl rfl (by omega) (by omega) (by omega) std_M_narrow_308 ?_
                refine g_aload_n C 4 std_M_narrow_309 rfl ?_
                refine g_get C (st_sub sti_M) 0 rfl rfl 7 (by decide) (List.mem_cons_of_mem _ kw_3_73) rfl rfl std_M_narrow_310 ?_
                refine g_icmp_lt (tgt := 351) C std_M_narrow_313 (by decide) ⟨by omega, by omega⟩ ⟨by omega, by omega⟩ (fun c8 => ?_) (fun c8 => ?_)
                · refine g_iload_n C 1 std_M_narrow_351 rfl ?_
                  refine g_istore_n C (lv' := [(3, .int (iI z)), (4, .int (iI x3)), (2, .int (iI (bI lq))), (1, .int (iI ww)), (0, .ref m0)]) std_M_narrow_352 (by decide) rfl ?_
                  refine g_iinc C (lv' := [(4, .int (iI (x3 + 1))), (3, .int (iI z)), (2, .int (iI (bI lq))), (1, .int (iI ww)), (0, .ref m0)]) 1 std_M_narrow_353 rfl (by decide) rfl ?_
                  refine g_goto (tgt := 293) C std_M_narrow_356 (by decide) ?_
                  exact ih293 (x3 + 1) z (by omega) (wm_n kz (fun q => by have h1 : fle 0 ≤ fC RR x3 := q.1; omega)) (by omega)
                · refine g_aload_n C 4 std_M_narrow_316 rfl ?_
                  refine g_get C (st_sub sti_M) 0 rfl rfl 29 (by decide) (List.mem_cons_of_mem _ kw_3_95) rfl rfl std_M_narrow_317 ?_
                  refine g_iload C 0 std_M_narrow_320 rfl ?_
                  refine g_iald C 4 0 rfl rfl (by omega) (by omega) (by omega) std_M_narrow_322 ?_
                  refine g_aload_n C 4 std_M_narrow_323 rfl ?_
                  refine g_get C (st_sub sti_M) 0 rfl rfl 8 (by decide) (List.mem_cons_of_mem _ kw_3_74) rfl rfl std_M_narrow_324 ?_
                  refine g_icmp_lt (tgt := 351) C std_M_narrow_327 (by decide) ⟨by omega, by omega⟩ ⟨by omega, by omega⟩ (fun c9 => ?_) (fun c9 => ?_)
                  · refine g_iload_n C 1 std_M_narrow_351 rfl ?_
                    refine g_istore_n C (lv' := [(3, .int (iI z)), (4, .int (iI x3)), (2, .int (iI (bI lq))), (1, .int (iI ww)), (0, .ref m0)]) std_M_narrow_352 (by decide) rfl ?_
                    refine g_iinc C (lv' := [(4, .int (iI (x3 + 1))), (3, .int (iI z)), (2, .int (iI (bI lq))), (1, .int (iI ww)), (0, .ref m0)]) 1 std_M_narrow_353 rfl (by decide) rfl ?_
                    refine g_goto (tgt := 293) C std_M_narrow_356 (by decide) ?_
                    exact ih293 (x3 + 1) z (by omega) (wm_n kz (fun q => by have h1 : fle 1 ≤ fD RR x3 := q.2; omega)) (by omega)
                  · refine g_aload_n C 4 std_M_narrow_330 rfl ?_
                    refine g_get C (st_sub sti_M) 0 rfl rfl 31 (by decide) (List.mem_cons_of_mem _ kw_3_97) rfl rfl std_M_narrow_331 ?_
                    refine g_iload C 0 std_M_narrow_334 rfl ?_
                    refine g_iald C 6 0 rfl rfl (by omega) (by omega) (by omega) std_M_narrow_336 ?_
                    refine g_iload_n C 1 std_M_narrow_337 rfl ?_
                    refine g_icmp_ge (tgt := 351) C std_M_narrow_338 (by decide) ⟨by omega, by omega⟩ ⟨by omega, by omega⟩ (fun c10 => ?_) (fun c10 => ?_)
                    · refine g_iload_n C 1 std_M_narrow_351 rfl ?_
                      refine g_istore_n C (lv' := [(3, .int (iI z)), (4, .int (iI x3)), (2, .int (iI (bI lq))), (1, .int (iI ww)), (0, .ref m0)]) std_M_narrow_352 (by decide) rfl ?_
                      refine g_iinc C (lv' := [(4, .int (iI (x3 + 1))), (3, .int (iI z)), (2, .int (iI (bI lq))), (1, .int (iI ww)), (0, .ref m0)]) 1 std_M_narrow_353 rfl (by decide) rfl ?_
                      refine g_goto (tgt := 293) C std_M_narrow_356 (by decide) ?_
                      exact ih293 (x3 + 1) z (by omega) (wm_k kz (by omega)) (by omega)
                    · refine g_aload_n C 4 std_M_narrow_341 rfl ?_
                      refine g_get C (st_sub sti_M) 0 rfl rfl 31 (by decide) (List.mem_cons_of_mem _ kw_3_97) rfl rfl std_M_narrow_342 ?_
                      refine g_iload C 0 std_M_narrow_345 rfl ?_
                      refine g_iald C 6 0 rfl rfl (by omega) (by omega) (by omega) std_M_narrow_347 ?_
                      refine g_goto (tgt := 352) C std_M_narrow_348 (by decide) ?_
                      refine g_istore_n C (lv' := [(3, .int (iI ((fW RR) x3))), (4, .int (iI x3)), (2, .int (iI (bI lq))), (1, .int (iI ww)), (0, .ref m0)]) std_M_narrow_352 (by decide) rfl ?_
                      refine g_iinc C (lv' := [(4, .int (iI (x3 + 1))), (3, .int (iI ((fW RR) x3))), (2, .int (iI (bI lq))), (1, .int (iI ww)), (0, .ref m0)]) 1 std_M_narrow_353 rfl (by decide) rfl ?_
                      refine g_goto (tgt := 293) C std_M_narrow_356 (by decide) ?_
                      exact ih293 (x3 + 1) ((fW RR) x3) (by omega) (wm_t hWi.2.2 kz ⟨by omega, by omega⟩ ⟨show fle 0 ≤ fC RR x3 by omega, show fle 1 ≤ fD RR x3 by omega⟩ (show fW RR x3 < z by omega)) (by omega)
          obtain ⟨nn0, hnn0⟩ : ∃ nn0 : Nat, (w0 - 0) < (nn0 : Int) := z_nat _
          exact L293 nn0 0 900000 (by omega) (Or.inl ⟨rfl, fun j h1 h2 => by omega⟩) hnn0
        · refine g_aload_n C 3 std_M_narrow_90 rfl ?_
          refine g_get C (st_sub sti_M) 0 rfl rfl 32 (by decide) (List.mem_cons_of_mem _ kw_3_98) rfl rfl std_M_narrow_91 ?_
          refine g_istore C (lv' := [(4, .int (iI w0)), (3, .int (iI ((d : Nat) : Int))), (2, .int (iI (bI lq))), (1, .int (iI ww)), (0, .ref m0)]) std_M_narrow_94 (by decide) rfl ?_
          refine g_aload_n C 4 std_M_narrow_96 rfl ?_
          refine g_iconst C std_M_narrow_97 ?_
          refine g_put C (ws' := [(m0, .inr (5, [.int (iI 0), .int (iI ((n : Nat) : Int)), .ref k_ch, .ref k_co, .ref k_ua, .ref k_ub, .ref k_ba, .int (iI (fle 0)), .int (iI (fle 1)), .int (iI (fmo 0)), .int (iI (fmo 1)), .int (iI (bI HM)), .ref k_rt, .ref k_rf, .ref k_ct, .ref k_cf, .ref k_nd, .ref k_na, .ref k_no, .ref k_bt, .ref k_bc, .ref k_br, .int (iI bg), .int (iI pn), .ref k_pc, .ref k_pr, .ref k_la, .ref k_lb, .ref k_ha, .ref k_hb, .ref k_ls, .ref k_wc, .int (iI 0), .int (iI g0), .int (iI h0), .int (iI c0)])), (k_la, .inl (cI, aI 800 (fA RR))), (k_lb, .inl (cI, aI 800 (fB RR))), (k_ha, .inl (cI, aI 800 (fC RR))), (k_hb, .inl (cI, aI 800 (fD RR))), (k_ls, .inl (cI, aI 800 (fL RR))), (k_wc, .inl (cI, aI 800 (fW RR))), (k_ch, .inl (cI, aI 13 fsz)), (k_co, .inl (cI, aI 78 fco)), (k_ba, .inl (cZ, aI 468 fba)), (k_ua, .inl (cI, aI 78 ffu)), (k_ub, .inl (cI, aI 78 fsu))]) (st_sub sti_M) stt_M sto_M stn_M 0 rfl rfl 32 (by decide) (List.mem_cons_of_mem _ kw_3_98) rfl rfl rfl rfl (Nat.le_of_ble_eq_true rfl) std_M_narrow_98 rfl ?_
          refine g_iconst C std_M_narrow_101 ?_
          refine g_istore C (lv' := [(5, .int (iI 0)), (4, .int (iI w0)), (3, .int (iI ((d : Nat) : Int))), (2, .int (iI (bI lq))), (1, .int (iI ww)), (0, .ref m0)]) std_M_narrow_102 (by decide) rfl ?_
          have L104 : ∀ (nn104 : Nat) (x : Int) (m1 : Int) (V1 : Int → Int), (0 ≤ x ∧ x ≤ w0) → (0 ≤ m1 ∧ m1 ≤ x * 6) → (∀ j, 0 ≤ j → j < 100 → V1 j = RR j) → AL m1 (fun j => V1 (100 + j)) (NQ fsz fco ffu fsu fbb fmo RR ((d : Nat) : Int) x 0) → (w0 - x) < (nn104 : Int) → G p l e ({ frames := 2, cells := 0, slots := 0, locals := 49 } : Room) s m ([.ref m0, .int (iI ww), .int (iI (bI lq))] : List Value).toArray below meth c (dC, dI) stCl 7 A 0 0 Q [(m0, .inr (5, [.int (iI 0), .int (iI ((n : Nat) : Int)), .ref k_ch, .ref k_co, .ref k_ua, .ref k_ub, .ref k_ba, .int (iI (fle 0)), .int (iI (fle 1)), .int (iI (fmo 0)), .int (iI (fmo 1)), .int (iI (bI HM)), .ref k_rt, .ref k_rf, .ref k_ct, .ref k_cf, .ref k_nd, .ref k_na, .ref k_no, .ref k_bt, .ref k_bc, .ref k_br, .int (iI bg), .int (iI pn), .ref k_pc, .ref k_pr, .ref k_la, .ref k_lb, .ref k_ha, .ref k_hb, .ref k_ls, .ref k_wc, .int (iI m1), .int (iI g0), .int (iI h0), .int (iI c0)])), (k_la, .inl (cI, aI 800 (fA V1))), (k_lb, .inl (cI, aI 800 (fB V1))), (k_ha, .inl (cI, aI 800 (fC V1))), (k_hb, .inl (cI, aI 800 (fD V1))), (k_ls, .inl (cI, aI 800 (fL V1))), (k_wc, .inl (cI, aI 800 (fW V1))), (k_ch, .inl (cI, aI 13 fsz)), (k_co, .inl (cI, aI 78 fco)), (k_ba, .inl (cZ, aI 468 fba)), (k_ua, .inl (cI, aI 78 ffu)), (k_ub, .inl (cI, aI 78 fsu))] 104 [(5, .int (iI x)), (4, .int (iI w0)), (3, .int (iI ((d : Nat) : Int))), (2, .int (iI (bI lq))), (1, .int (iI ww)), (0, .ref m0)] [] := by
            intro nn104
            induction nn104 with
            | zero =>
              intro x m1 V1 kx km kK kA hnn104
              exact absurd hnn104 (by omega)
            | succ nn104 ih104 =>
              intro x m1 V1 kx km kK kA hnn104
              refine g_iload C 0 std_M_narrow_104 rfl ?_
              refine g_iload C 1 std_M_narrow_106 rfl ?_
              refine g_icmp_ge (tgt := 165) C std_M_narrow_108 (by decide) ⟨by omega, by omega⟩ ⟨by omega, by omega⟩ (fun c11 => ?_) (fun c11 => ?_)
              · have hxw : x = w0 := by omega
                have hAw : AL m1 (fun j => V1 (100 + j)) (NX fsz fco ffu fsu fbb fmo RR w0 ((d : Nat) : Int)) := hxw ▸ kA
                refine g_iconst C std_M_narrow_165 ?_
                refine g_istore C (lv' := [(5, .int (iI 0)), (4, .int (iI w0)), (3, .int (iI ((d : Nat) : Int))), (2, .int (iI (bI lq))), (1, .int (iI ww)), (0, .ref m0)]) std_M_narrow_166 (by decide) rfl ?_
                have L168 : ∀ (nn168 : Nat) (x2 : Int) (V3 : Int → Int), (0 ≤ x2 ∧ x2 ≤ m1) → (∀ j, 0 ≤ j → j < x2 → V3 j = V1 (100 + j)) → (∀ j, x2 ≤ j → j < 799 → V3 j = V1 j) → (m1 - x2) < (nn168 : Int) → G p l e ({ frames := 2, cells := 0, slots := 0, locals := 49 } : Room) s m ([.ref m0, .int (iI ww), .int (iI (bI lq))] : List Value).toArray below meth c (dC, dI) stCl 7 A 0 0 Q [(m0, .inr (5, [.int (iI 0), .int (iI ((n : Nat) : Int)), .ref k_ch, .ref k_co, .ref k_ua, .ref k_ub, .ref k_ba, .int (iI (fle 0)), .int (iI (fle 1)), .int (iI (fmo 0)), .int (iI (fmo 1)), .int (iI (bI HM)), .ref k_rt, .ref k_rf, .ref k_ct, .ref k_cf, .ref k_nd, .ref k_na, .ref k_no, .ref k_bt, .ref k_bc, .ref k_br, .int (iI bg), .int (iI pn), .ref k_pc, .ref k_pr, .ref k_la, .ref k_lb, .ref k_ha, .ref k_hb, .ref k_ls, .ref k_wc, .int (iI m1), .int (iI g0), .int (iI h0), .int (iI c0)])), (k_la, .inl (cI, aI 800 (fA V3))), (k_lb, .inl (cI, aI 800 (fB V3))), (k_ha, .inl (cI, aI 800 (fC V3))), (k_hb, .inl (cI, aI 800 (fD V3))), (k_ls, .inl (cI, aI 800 (fL V3))), (k_wc, .inl (cI, aI 800 (fW V3))), (k_ch, .inl (cI, aI 13 fsz)), (k_co, .inl (cI, aI 78 fco)), (k_ba, .inl (cZ, aI 468 fba)), (k_ua, .inl (cI, aI 78 ffu)), (k_ub, .inl (cI, aI 78 fsu))] 168 [(5, .int (iI x2)), (3, .int (iI ((d : Nat) : Int))), (2, .int (iI (bI lq))), (1, .int (iI ww)), (0, .ref m0)] [] := by
                  intro nn168
                  induction nn168 with
                  | zero =>
                    intro x2 V3 kx3 k1 k2 hnn168
                    exact absurd hnn168 (by omega)
                  | succ nn168 ih168 =>
                    intro x2 V3 kx3 k1 k2 hnn168
                    refine g_iload C 0 std_M_narrow_168 rfl ?_
                    refine g_aload_n C 4 std_M_narrow_170 rfl ?_
                    refine g_get C (st_sub sti_M) 0 rfl rfl 32 (by decide) (List.mem_cons_of_mem _ kw_3_98) rfl rfl std_M_narrow_171 ?_
                    refine g_icmp_ge (tgt := 194) C std_M_narrow_174 (by decide) ⟨by omega, by omega⟩ ⟨by omega, by omega⟩ (fun c12 => ?_) (fun c12 => ?_)
                    · have hAv : AL m1 V3 (NX fsz fco ffu fsu fbb fmo RR w0 ((d : Nat) : Int)) := al_c hAw (fun _ => Iff.rfl) (fun j h1 h2 => k1 j h1 (by omega))
                      have hV3 : ∀ i, 0 ≤ i → i < m1 → WN (1000 * ((d : Nat) : Int) + 1000) (V3 i) := fun i h1 h2 => nq_wn kT ⟨by omega, by omega⟩ hWi.2.1 (Int.le_refl _) (Or.inl rfl) (by omega) ((hAv.2 (V3 i)).mp ⟨i, h1, h2, rfl⟩).1
                      refine g_aload_n C 4 std_M_narrow_194 rfl ?_
                      refine g_V_v (wc := [(m0, .inr (5, [.int (iI 0), .int (iI ((n : Nat) : Int)), .ref k_ch, .ref k_co, .ref k_ua, .ref k_ub, .ref k_ba, .int (iI (fle 0)), .int (iI (fle 1)), .int (iI (fmo 0)), .int (iI (fmo 1)), .int (iI (bI HM)), .ref k_rt, .ref k_rf, .ref k_ct, .ref k_cf, .ref k_nd, .ref k_na, .ref k_no, .ref k_bt, .ref k_bc, .ref k_br, .int (iI bg), .int (iI pn), .ref k_pc, .ref k_pr, .ref k_la, .ref k_lb, .ref k_ha, .ref k_hb, .ref k_ls, .ref k_wc, .int (iI m1), .int (iI g0), .int (iI h0), .int (iI c0)])), (k_la, .inl (cI, aI 800 (fA V3))), (k_lb, .inl (cI, aI 800 (fB V3))), (k_ha, .inl (cI, aI 800 (fC V3))), (k_hb, .inl (cI, aI 800 (fD V3))), (k_ls, .inl (cI, aI 800 (fL V3))), (k_wc, .inl (cI, aI 800 (fW V3)))]) (wr := [(k_ch, .inl (cI, aI 13 fsz)), (k_co, .inl (cI, aI 78 fco)), (k_ba, .inl (cZ, aI 468 fba)), (k_ua, .inl (cI, aI 78 ffu)), (k_ub, .inl (cI, aI 78 fsu))]) (rest := []) C (c_m_sort l dC dI cI cJ cZ m0 k_ch k_co k_ua k_ub k_ba k_rt k_rf k_ct k_cf k_nd k_na k_no k_bt k_bc k_br k_pc k_pr k_la k_lb k_ha k_hb k_ls k_wc HM bg pn m1 g0 h0 c0 ((n : Nat) : Int) fle fmo V3 (1000 * ((d : Nat) : Int) + 1000) (⟨by omega, by omega⟩) (hV3) (by omega)) (st_cV C kw_4_82 kw_4_79 kw_1_6 kw_4_81 kw_0_32 sth_M_sort ⟨Nat.le_of_ble_eq_true rfl, Nat.le_of_ble_eq_true rfl⟩) 0 rfl rfl rfl rfl (Nat.le_of_ble_eq_true rfl) std_M_narrow_195 ⟨Nat.le_of_ble_eq_true rfl, Nat.le_of_ble_eq_true rfl⟩ [0, 1, 2, 3, 4, 5, 6] [7, 8, 9, 10, 11] rfl rfl rfl rfl (by decide) (fun u14 h15 => ?_)
                      refine g_ws (ws' := [(k_ch, .inl (cI, aI 13 fsz)), (k_co, .inl (cI, aI 78 fco)), (k_ba, .inl (cZ, aI 468 fba)), (k_ua, .inl (cI, aI 78 ffu)), (k_ub, .inl (cI, aI 78 fsu)), (m0, .inr (5, [.int (iI 0), .int (iI ((n : Nat) : Int)), .ref k_ch, .ref k_co, .ref k_ua, .ref k_ub, .ref k_ba, .int (iI (fle 0)), .int (iI (fle 1)), .int (iI (fmo 0)), .int (iI (fmo 1)), .int (iI (bI HM)), .ref k_rt, .ref k_rf, .ref k_ct, .ref k_cf, .ref k_nd, .ref k_na, .ref k_no, .ref k_bt, .ref k_bc, .ref k_br, .int (iI bg), .int (iI pn), .ref k_pc, .ref k_pr, .ref k_la, .ref k_lb, .ref k_ha, .ref k_hb, .ref k_ls, .ref k_wc, .int (iI m1), .int (iI g0), .int (iI h0), .int (iI c0)])), (k_la, .inl (cI, aI 800 (fA u14))), (k_lb, .inl (cI, aI 800 (fB u14))), (k_ha, .inl (cI, aI 800 (fC u14))), (k_hb, .inl (cI, aI 800 (fD u14))), (k_ls, .inl (cI, aI 800 (fL u14))), (k_wc, .inl (cI, aI 800 (fW u14)))]) rfl ?_
                      have hEN := al_en (by omega) hAv h15
                      have hR1 := en_wn kT ⟨by omega, by omega⟩ hWi.2.1 (by omega) hEN
                      refine g_aload_n C 4 std_M_narrow_198 rfl ?_
                      refine g_aload_n C 4 std_M_narrow_199 rfl ?_
                      refine g_get C (st_sub sti_M) 5 rfl rfl 32 (by decide) (List.mem_cons_of_mem _ kw_3_98) rfl rfl std_M_narrow_200 ?_
                      refine g_aload_n C 4 std_M_narrow_203 rfl ?_
                      refine g_get C (st_sub sti_M) 5 rfl rfl 34 (by decide) (List.mem_cons_of_mem _ kw_3_100) rfl rfl std_M_narrow_204 ?_
                      refine g_icmp_le (tgt := 217) C std_M_narrow_207 (by decide) ⟨by omega, by omega⟩ ⟨by omega, by omega⟩ (fun c16 => ?_) (fun c16 => ?_)
                      · refine g_aload_n C 4 std_M_narrow_217 rfl ?_
                        refine g_get C (st_sub sti_M) 5 rfl rfl 34 (by decide) (List.mem_cons_of_mem _ kw_3_100) rfl rfl std_M_narrow_218 ?_
                        refine g_put C (ws' := [(k_ch, .inl (cI, aI 13 fsz)), (k_co, .inl (cI, aI 78 fco)), (k_ba, .inl (cZ, aI 468 fba)), (k_ua, .inl (cI, aI 78 ffu)), (k_ub, .inl (cI, aI 78 fsu)), (m0, .inr (5, [.int (iI 0), .int (iI ((n : Nat) : Int)), .ref k_ch, .ref k_co, .ref k_ua, .ref k_ub, .ref k_ba, .int (iI (fle 0)), .int (iI (fle 1)), .int (iI (fmo 0)), .int (iI (fmo 1)), .int (iI (bI HM)), .ref k_rt, .ref k_rf, .ref k_ct, .ref k_cf, .ref k_nd, .ref k_na, .ref k_no, .ref k_bt, .ref k_bc, .ref k_br, .int (iI bg), .int (iI pn), .ref k_pc, .ref k_pr, .ref k_la, .ref k_lb, .ref k_ha, .ref k_hb, .ref k_ls, .ref k_wc, .int (iI m1), .int (iI g0), .int (iI h0), .int (iI c0)])), (k_la, .inl (cI, aI 800 (fA u14))), (k_lb, .inl (cI, aI 800 (fB u14))), (k_ha, .inl (cI, aI 800 (fC u14))), (k_hb, .inl (cI, aI 800 (fD u14))), (k_ls, .inl (cI, aI 800 (fL u14))), (k_wc, .inl (cI, aI 800 (fW u14)))]) (st_sub sti_M) stt_M sto_M stn_M 5 rfl rfl 34 (by decide) (List.mem_cons_of_mem _ kw_3_100) rfl rfl rfl rfl (Nat.le_of_ble_eq_true rfl) std_M_narrow_221 rfl ?_
                        refine g_aload_n C 4 std_M_narrow_224 rfl ?_
                        refine g_get C (st_sub sti_M) 5 rfl rfl 32 (by decide) (List.mem_cons_of_mem _ kw_3_98) rfl rfl std_M_narrow_225 ?_
                        refine g_iload_n C 3 std_M_narrow_228 rfl ?_
                        refine g_icmp_le (tgt := 281) C std_M_narrow_229 (by decide) ⟨by omega, by omega⟩ ⟨by omega, by omega⟩ (fun c17 => ?_) (fun c17 => ?_)
                        · refine g_iinc C (lv' := [(3, .int (iI (((d : Nat) : Int) + 1))), (5, .int (iI x2)), (2, .int (iI (bI lq))), (1, .int (iI ww)), (0, .ref m0)]) 1 std_M_narrow_281 rfl (by decide) rfl ?_
                          refine g_goto (tgt := 82) C std_M_narrow_284 (by decide) ?_
                          refine g_sub (ws' := [(m0, .inr (5, [.int (iI 0), .int (iI ((n : Nat) : Int)), .ref k_ch, .ref k_co, .ref k_ua, .ref k_ub, .ref k_ba, .int (iI (fle 0)), .int (iI (fle 1)), .int (iI (fmo 0)), .int (iI (fmo 1)), .int (iI (bI HM)), .ref k_rt, .ref k_rf, .ref k_ct, .ref k_cf, .ref k_nd, .ref k_na, .ref k_no, .ref k_bt, .ref k_bc, .ref k_br, .int (iI bg), .int (iI pn), .ref k_pc, .ref k_pr, .ref k_la, .ref k_lb, .ref k_ha, .ref k_hb, .ref k_ls, .ref k_wc, .int (iI m1), .int (iI g0), .int (iI h0), .int (iI c0)])), (k_la, .inl (cI, aI 800 (fA u14))), (k_lb, .inl (cI, aI 800 (fB u14))), (k_ha, .inl (cI, aI 800 (fC u14))), (k_hb, .inl (cI, aI 800 (fD u14))), (k_ls, .inl (cI, aI 800 (fL u14))), (k_wc, .inl (cI, aI 800 (fW u14))), (k_ch, .inl (cI, aI 13 fsz)), (k_co, .inl (cI, aI 78 fco)), (k_ba, .inl (cZ, aI 468 fba)), (k_ua, .inl (cI, aI 78 ffu)), (k_ub, .inl (cI, aI 78 fsu))]) [5, 6, 7, 8, 9, 10, 11, 0, 1, 2, 3, 4] rfl rfl ?_
                          refine g_lv (lv' := [(3, .int (iI (((d : Nat) : Int) + 1))), (2, .int (iI (bI lq))), (1, .int (iI ww)), (0, .ref m0)]) [0, 2, 3, 4] rfl ?_
                          refine g_wide (k := 0) (n := 0) (Nat.le_of_ble_eq_true rfl) (Nat.le_of_ble_eq_true rfl) ?_
                          exact ih82 (d + 1) u14 m1 g0 h0 c0 (by omega) (by have hW2 := wl_a kW hEN (by omega); rw [show max h0 m1 = h0 by omega] at hW2; exact hW2) (by omega) (by omega)
                        · refine g_aload_n C 4 std_M_narrow_232 rfl ?_
                          refine g_dup C std_M_narrow_233 rfl ?_
                          refine g_get C (st_sub sti_M) 5 rfl rfl 35 (by decide) (List.mem_cons_of_mem _ kw_3_101) rfl rfl std_M_narrow_234 ?_
                          refine g_iconst C std_M_narrow_237 ?_
                          refine g_iadd C std_M_narrow_238 ?_
                          refine g_put C (ws' := [(k_ch, .inl (cI, aI 13 fsz)), (k_co, .inl (cI, aI 78 fco)), (k_ba, .inl (cZ, aI 468 fba)), (k_ua, .inl (cI, aI 78 ffu)), (k_ub, .inl (cI, aI 78 fsu)), (m0, .inr (5, [.int (iI 0), .int (iI ((n : Nat) : Int)), .ref k_ch, .ref k_co, .ref k_ua, .ref k_ub, .ref k_ba, .int (iI (fle 0)), .int (iI (fle 1)), .int (iI (fmo 0)), .int (iI (fmo 1)), .int (iI (bI HM)), .ref k_rt, .ref k_rf, .ref k_ct, .ref k_cf, .ref k_nd, .ref k_na, .ref k_no, .ref k_bt, .ref k_bc, .ref k_br, .int (iI bg), .int (iI pn), .ref k_pc, .ref k_pr, .ref k_la, .ref k_lb, .ref k_ha, .ref k_hb, .ref k_ls, .ref k_wc, .int (iI m1), .int (iI g0), .int (iI h0), .int (iI (c0 + 1))])), (k_la, .inl (cI, aI 800 (fA u14))), (k_lb, .inl (cI, aI 800 (fB u14))), (k_ha, .inl (cI, aI 800 (fC u14))), (k_hb, .inl (cI, aI 800 (fD u14))), (k_ls, .inl (cI, aI 800 (fL u14))), (k_wc, .inl (cI, aI 800 (fW u14)))]) (st_sub sti_M) stt_M sto_M stn_M 5 rfl rfl 35 (by decide) (List.mem_cons_of_mem _ kw_3_101) rfl rfl rfl rfl (Nat.le_of_ble_eq_true rfl) std_M_narrow_239 rfl ?_
                          refine g_aload_n C 4 std_M_narrow_242 rfl ?_
                          refine g_aload_n C 4 std_M_narrow_243 rfl ?_
                          refine g_get C (st_sub sti_M) 5 rfl rfl 33 (by decide) (List.mem_cons_of_mem _ kw_3_99) rfl rfl std_M_narrow_244 ?_
                          refine g_aload_n C 4 std_M_narrow_247 rfl ?_
                          refine g_get C (st_sub sti_M) 5 rfl rfl 32 (by decide) (List.mem_cons_of_mem _ kw_3_98) rfl rfl std_M_narrow_248 ?_
                          refine g_iadd C std_M_narrow_251 ?_
                          refine g_iload_n C 3 std_M_narrow_252 rfl ?_
                          refine g_isub C std_M_narrow_253 ?_
                          refine g_iload_n C 2 std_M_narrow_254 rfl ?_
                          refine g_ifeq_b (tgt := 262) C std_M_narrow_255 (by decide) (fun c18 => ?_) (fun c18 => ?_)
                          · refine g_iconst C std_M_narrow_262 ?_
                            refine g_iadd C std_M_narrow_263 ?_
                            refine g_put C (ws' := [(k_ch, .inl (cI, aI 13 fsz)), (k_co, .inl (cI, aI 78 fco)), (k_ba, .inl (cZ, aI 468 fba)), (k_ua, .inl (cI, aI 78 ffu)), (k_ub, .inl (cI, aI 78 fsu)), (m0, .inr (5, [.int (iI 0), .int (iI ((n : Nat) : Int)), .ref k_ch, .ref k_co, .ref k_ua, .ref k_ub, .ref k_ba, .int (iI (fle 0)), .int (iI (fle 1)), .int (iI (fmo 0)), .int (iI (fmo 1)), .int (iI (bI HM)), .ref k_rt, .ref k_rf, .ref k_ct, .ref k_cf, .ref k_nd, .ref k_na, .ref k_no, .ref k_bt, .ref k_bc, .ref k_br, .int (iI bg), .int (iI pn), .ref k_pc, .ref k_pr, .ref k_la, .ref k_lb, .ref k_ha, .ref k_hb, .ref k_ls, .ref k_wc, .int (iI m1), .int (iI (((g0 + m1) - ww) + 0)), .int (iI h0), .int (iI (c0 + 1))])), (k_la, .inl (cI, aI 800 (fA u14))), (k_lb, .inl (cI, aI 800 (fB u14))), (k_ha, .inl (cI, aI 800 (fC u14))), (k_hb, .inl (cI, aI 800 (fD u14))), (k_ls, .inl (cI, aI 800 (fL u14))), (k_wc, .inl (cI, aI 800 (fW u14)))]) (st_sub sti_M) stt_M sto_M stn_M 5 rfl rfl 33 (by decide) (List.mem_cons_of_mem _ kw_3_99) rfl rfl rfl rfl (Nat.le_of_ble_eq_true rfl) std_M_narrow_264 rfl ?_
                            refine g_iload_n C 2 std_M_narrow_267 rfl ?_
                            refine g_ifeq_b (tgt := 276) C std_M_narrow_268 (by decide) (fun c19 => ?_) (fun c19 => ?_)
                            · refine g_aload_n C 4 std_M_narrow_276 rfl ?_
                              refine g_iload_n C 3 std_M_narrow_277 rfl ?_
                              refine g_put C (ws' := [(k_ch, .inl (cI, aI 13 fsz)), (k_co, .inl (cI, aI 78 fco)), (k_ba, .inl (cZ, aI 468 fba)), (k_ua, .inl (cI, aI 78 ffu)), (k_ub, .inl (cI, aI 78 fsu)), (m0, .inr (5, [.int (iI 0), .int (iI ((n : Nat) : Int)), .ref k_ch, .ref k_co, .ref k_ua, .ref k_ub, .ref k_ba, .int (iI (fle 0)), .int (iI (fle 1)), .int (iI (fmo 0)), .int (iI (fmo 1)), .int (iI (bI HM)), .ref k_rt, .ref k_rf, .ref k_ct, .ref k_cf, .ref k_nd, .ref k_na, .ref k_no, .ref k_bt, .ref k_bc, .ref k_br, .int (iI bg), .int (iI pn), .ref k_pc, .ref k_pr, .ref k_la, .ref k_lb, .ref k_ha, .ref k_hb, .ref k_ls, .ref k_wc, .int (iI ww), .int (iI (((g0 + m1) - ww) + 0)), .int (iI h0), .int (iI (c0 + 1))])), (k_la, .inl (cI, aI 800 (fA u14))), (k_lb, .inl (cI, aI 800 (fB u14))), (k_ha, .inl (cI, aI 800 (fC u14))), (k_hb, .inl (cI, aI 800 (fD u14))), (k_ls, .inl (cI, aI 800 (fL u14))), (k_wc, .inl (cI, aI 800 (fW u14)))]) (st_sub sti_M) stt_M sto_M stn_M 5 rfl rfl 32 (by decide) (List.mem_cons_of_mem _ kw_3_98) rfl rfl rfl rfl (Nat.le_of_ble_eq_true rfl) std_M_narrow_278 rfl ?_
                              refine g_iinc C (lv' := [(3, .int (iI (((d : Nat) : Int) + 1))), (5, .int (iI x2)), (2, .int (iI (bI lq))), (1, .int (iI ww)), (0, .ref m0)]) 1 std_M_narrow_281 rfl (by decide) rfl ?_
                              refine g_goto (tgt := 82) C std_M_narrow_284 (by decide) ?_
                              refine g_sub (ws' := [(m0, .inr (5, [.int (iI 0), .int (iI ((n : Nat) : Int)), .ref k_ch, .ref k_co, .ref k_ua, .ref k_ub, .ref k_ba, .int (iI (fle 0)), .int (iI (fle 1)), .int (iI (fmo 0)), .int (iI (fmo 1)), .int (iI (bI HM)), .ref k_rt, .ref k_rf, .ref k_ct, .ref k_cf, .ref k_nd, .ref k_na, .ref k_no, .ref k_bt, .ref k_bc, .ref k_br, .int (iI bg), .int (iI pn), .ref k_pc, .ref k_pr, .ref k_la, .ref k_lb, .ref k_ha, .ref k_hb, .ref k_ls, .ref k_wc, .int (iI ww), .int (iI (((g0 + m1) - ww) + 0)), .int (iI h0), .int (iI (c0 + 1))])), (k_la, .inl (cI, aI 800 (fA u14))), (k_lb, .inl (cI, aI 800 (fB u14))), (k_ha, .inl (cI, aI 800 (fC u14))), (k_hb, .inl (cI, aI 800 (fD u14))), (k_ls, .inl (cI, aI 800 (fL u14))), (k_wc, .inl (cI, aI 800 (fW u14))), (k_ch, .inl (cI, aI 13 fsz)), (k_co, .inl (cI, aI 78 fco)), (k_ba, .inl (cZ, aI 468 fba)), (k_ua, .inl (cI, aI 78 ffu)), (k_ub, .inl (cI, aI 78 fsu))]) [5, 6, 7, 8, 9, 10, 11, 0, 1, 2, 3, 4] rfl rfl ?_
                              refine g_lv (lv' := [(3, .int (iI (((d : Nat) : Int) + 1))), (2, .int (iI (bI lq))), (1, .int (iI ww)), (0, .ref m0)]) [0, 2, 3, 4] rfl ?_
                              refine g_wide (k := 0) (n := 0) (Nat.le_of_ble_eq_true rfl) (Nat.le_of_ble_eq_true rfl) ?_
                              exact ih82 (d + 1) u14 ww (((g0 + m1) - ww) + 0) h0 (c0 + 1) (by omega) (by have hW2 := wl_b (l' := (((g0 + m1) - ww) + 0)) kW hEN (by omega) (Or.inr ⟨c18, by omega, rfl⟩); rw [show max h0 m1 = h0 by omega] at hW2; exact hW2) (by omega) (by omega)
                            · exfalso; contradiction
                          · refine g_iconst C std_M_narrow_258 ?_
                            refine g_goto (tgt := 263) C std_M_narrow_259 (by decide) ?_
                            refine g_iadd C std_M_narrow_263 ?_
                            refine g_put C (ws' := [(k_ch, .inl (cI, aI 13 fsz)), (k_co, .inl (cI, aI 78 fco)), (k_ba, .inl (cZ, aI 468 fba)), (k_ua, .inl (cI, aI 78 ffu)), (k_ub, .inl (cI, aI 78 fsu)), (m0, .inr (5, [.int (iI 0), .int (iI ((n : Nat) : Int)), .ref k_ch, .ref k_co, .ref k_ua, .ref k_ub, .ref k_ba, .int (iI (fle 0)), .int (iI (fle 1)), .int (iI (fmo 0)), .int (iI (fmo 1)), .int (iI (bI HM)), .ref k_rt, .ref k_rf, .ref k_ct, .ref k_cf, .ref k_nd, .ref k_na, .ref k_no, .ref k_bt, .ref k_bc, .ref k_br, .int (iI bg), .int (iI pn), .ref k_pc, .ref k_pr, .ref k_la, .ref k_lb, .ref k_ha, .ref k_hb, .ref k_ls, .ref k_wc, .int (iI m1), .int (iI (((g0 + m1) - ww) + 1)), .int (iI h0), .int (iI (c0 + 1))])), (k_la, .inl (cI, aI 800 (fA u14))), (k_lb, .inl (cI, aI 800 (fB u14))), (k_ha, .inl (cI, aI 800 (fC u14))), (k_hb, .inl (cI, aI 800 (fD u14))), (k_ls, .inl (cI, aI 800 (fL u14))), (k_wc, .inl (cI, aI 800 (fW u14)))]) (st_sub sti_M) stt_M sto_M stn_M 5 rfl rfl 33 (by decide) (List.mem_cons_of_mem _ kw_3_99) rfl rfl rfl rfl (Nat.le_of_ble_eq_true rfl) std_M_narrow_264 rfl ?_
                            refine g_iload_n C 2 std_M_narrow_267 rfl ?_
                            refine g_ifeq_b (tgt := 276) C std_M_narrow_268 (by decide) (fun c20 => ?_) (fun c20 => ?_)
                            · exfalso; contradiction
                            · refine g_aload_n C 4 std_M_narrow_271 rfl ?_
                              refine g_iload_n C 3 std_M_narrow_272 rfl ?_
                              refine g_V_v (wc := [(m0, .inr (5, [.int (iI 0), .int (iI ((n : Nat) : Int)), .ref k_ch, .ref k_co, .ref k_ua, .ref k_ub, .ref k_ba, .int (iI (fle 0)), .int (iI (fle 1)), .int (iI (fmo 0)), .int (iI (fmo 1)), .int (iI (bI HM)), .ref k_rt, .ref k_rf, .ref k_ct, .ref k_cf, .ref k_nd, .ref k_na, .ref k_no, .ref k_bt, .ref k_bc, .ref k_br, .int (iI bg), .int (iI pn), .ref k_pc, .ref k_pr, .ref k_la, .ref k_lb, .ref k_ha, .ref k_hb, .ref k_ls, .ref k_wc, .int (iI m1), .int (iI (((g0 + m1) - ww) + 1)), .int (iI h0), .int (iI (c0 + 1))])), (k_la, .inl (cI, aI 800 (fA u14))), (k_lb, .inl (cI, aI 800 (fB u14))), (k_ha, .inl (cI, aI 800 (fC u14))), (k_hb, .inl (cI, aI 800 (fD u14))), (k_ls, .inl (cI, aI 800 (fL u14))), (k_wc, .inl (cI, aI 800 (fW u14)))]) (wr := [(k_ch, .inl (cI, aI 13 fsz)), (k_co, .inl (cI, aI 78 fco)), (k_ba, .inl (cZ, aI 468 fba)), (k_ua, .inl (cI, aI 78 ffu)), (k_ub, .inl (cI, aI 78 fsu))]) (rest := []) C (c_m_join l dC dI cI cJ cZ m0 k_ch k_co k_ua k_ub k_ba k_rt k_rf k_ct k_cf k_nd k_na k_no k_bt k_bc k_br k_pc k_pr k_la k_lb k_ha k_hb k_ls k_wc HM bg pn m1 (((g0 + m1) - ww) + 1) h0 (c0 + 1) ((n : Nat) : Int) fle fmo u14 ww (1000 * ((d : Nat) : Int) + 1000) (⟨by omega, by omega, by omega⟩) (hR1) (by omega)) (st_cV C kw_4_90 kw_4_87 kw_1_6 kw_4_89 kw_0_34 sth_M_join ⟨Nat.le_of_ble_eq_true rfl, Nat.le_of_ble_eq_true rfl⟩) 0 rfl rfl rfl rfl (Nat.le_of_ble_eq_true rfl) std_M_narrow_273 ⟨Nat.le_of_ble_eq_true rfl, Nat.le_of_ble_eq_true rfl⟩ [5, 6, 7, 8, 9, 10, 11] [0, 1, 2, 3, 4] rfl rfl rfl rfl (by decide) (fun u22 h23 => ?_)
                              refine g_ws (ws' := [(k_ch, .inl (cI, aI 13 fsz)), (k_co, .inl (cI, aI 78 fco)), (k_ba, .inl (cZ, aI 468 fba)), (k_ua, .inl (cI, aI 78 ffu)), (k_ub, .inl (cI, aI 78 fsu)), (m0, .inr (5, [.int (iI 0), .int (iI ((n : Nat) : Int)), .ref k_ch, .ref k_co, .ref k_ua, .ref k_ub, .ref k_ba, .int (iI (fle 0)), .int (iI (fle 1)), .int (iI (fmo 0)), .int (iI (fmo 1)), .int (iI (bI HM)), .ref k_rt, .ref k_rf, .ref k_ct, .ref k_cf, .ref k_nd, .ref k_na, .ref k_no, .ref k_bt, .ref k_bc, .ref k_br, .int (iI bg), .int (iI pn), .ref k_pc, .ref k_pr, .ref k_la, .ref k_lb, .ref k_ha, .ref k_hb, .ref k_ls, .ref k_wc, .int (iI m1), .int (iI (((g0 + m1) - ww) + 1)), .int (iI h0), .int (iI (c0 + 1))])), (k_la, .inl (cI, aI 800 (fA (uZ u14 (ww - 1) (UI u14 (ww - 1) m1))))), (k_lb, .inl (cI, aI 800 (fB (uZ u14 (ww - 1) (UI u14 (ww - 1) m1))))), (k_ha, .inl (cI, aI 800 (fC (uZ u14 (ww - 1) (UI u14 (ww - 1) m1))))), (k_hb, .inl (cI, aI 800 (fD (uZ u14 (ww - 1) (UI u14 (ww - 1) m1))))), (k_ls, .inl (cI, aI 800 (fL (uZ u14 (ww - 1) (UI u14 (ww - 1) m1))))), (k_wc, .inl (cI, aI 800 (fW (uZ u14 (ww - 1) (UI u14 (ww - 1) m1)))))]) rfl ?_
                              refine g_aload_n C 4 std_M_narrow_276 rfl ?_
                              refine g_iload_n C 3 std_M_narrow_277 rfl ?_
                              refine g_put C (ws' := [(k_ch, .inl (cI, aI 13 fsz)), (k_co, .inl (cI, aI 78 fco)), (k_ba, .inl (cZ, aI 468 fba)), (k_ua, .inl (cI, aI 78 ffu)), (k_ub, .inl (cI, aI 78 fsu)), (m0, .inr (5, [.int (iI 0), .int (iI ((n : Nat) : Int)), .ref k_ch, .ref k_co, .ref k_ua, .ref k_ub, .ref k_ba, .int (iI (fle 0)), .int (iI (fle 1)), .int (iI (fmo 0)), .int (iI (fmo 1)), .int (iI (bI HM)), .ref k_rt, .ref k_rf, .ref k_ct, .ref k_cf, .ref k_nd, .ref k_na, .ref k_no, .ref k_bt, .ref k_bc, .ref k_br, .int (iI bg), .int (iI pn), .ref k_pc, .ref k_pr, .ref k_la, .ref k_lb, .ref k_ha, .ref k_hb, .ref k_ls, .ref k_wc, .int (iI ww), .int (iI (((g0 + m1) - ww) + 1)), .int (iI h0), .int (iI (c0 + 1))])), (k_la, .inl (cI, aI 800 (fA (uZ u14 (ww - 1) (UI u14 (ww - 1) m1))))), (k_lb, .inl (cI, aI 800 (fB (uZ u14 (ww - 1) (UI u14 (ww - 1) m1))))), (k_ha, .inl (cI, aI 800 (fC (uZ u14 (ww - 1) (UI u14 (ww - 1) m1))))), (k_hb, .inl (cI, aI 800 (fD (uZ u14 (ww - 1) (UI u14 (ww - 1) m1))))), (k_ls, .inl (cI, aI 800 (fL (uZ u14 (ww - 1) (UI u14 (ww - 1) m1))))), (k_wc, .inl (cI, aI 800 (fW (uZ u14 (ww - 1) (UI u14 (ww - 1) m1)))))]) (st_sub sti_M) stt_M sto_M stn_M 5 rfl rfl 32 (by decide) (List.mem_cons_of_mem _ kw_3_98) rfl rfl rfl rfl (Nat.le_of_ble_eq_true rfl) std_M_narrow_278 rfl ?_
                              refine g_iinc C (lv' := [(3, .int (iI (((d : Nat) : Int) + 1))), (5, .int (iI x2)), (2, .int (iI (bI lq))), (1, .int (iI ww)), (0, .ref m0)]) 1 std_M_narrow_281 rfl (by decide) rfl ?_
                              refine g_goto (tgt := 82) C std_M_narrow_284 (by decide) ?_
                              refine g_sub (ws' := [(m0, .inr (5, [.int (iI 0), .int (iI ((n : Nat) : Int)), .ref k_ch, .ref k_co, .ref k_ua, .ref k_ub, .ref k_ba, .int (iI (fle 0)), .int (iI (fle 1)), .int (iI (fmo 0)), .int (iI (fmo 1)), .int (iI (bI HM)), .ref k_rt, .ref k_rf, .ref k_ct, .ref k_cf, .ref k_nd, .ref k_na, .ref k_no, .ref k_bt, .ref k_bc, .ref k_br, .int (iI bg), .int (iI pn), .ref k_pc, .ref k_pr, .ref k_la, .ref k_lb, .ref k_ha, .ref k_hb, .ref k_ls, .ref k_wc, .int (iI ww), .int (iI (((g0 + m1) - ww) + 1)), .int (iI h0), .int (iI (c0 + 1))])), (k_la, .inl (cI, aI 800 (fA (uZ u14 (ww - 1) (UI u14 (ww - 1) m1))))), (k_lb, .inl (cI, aI 800 (fB (uZ u14 (ww - 1) (UI u14 (ww - 1) m1))))), (k_ha, .inl (cI, aI 800 (fC (uZ u14 (ww - 1) (UI u14 (ww - 1) m1))))), (k_hb, .inl (cI, aI 800 (fD (uZ u14 (ww - 1) (UI u14 (ww - 1) m1))))), (k_ls, .inl (cI, aI 800 (fL (uZ u14 (ww - 1) (UI u14 (ww - 1) m1))))), (k_wc, .inl (cI, aI 800 (fW (uZ u14 (ww - 1) (UI u14 (ww - 1) m1))))), (k_ch, .inl (cI, aI 13 fsz)), (k_co, .inl (cI, aI 78 fco)), (k_ba, .inl (cZ, aI 468 fba)), (k_ua, .inl (cI, aI 78 ffu)), (k_ub, .inl (cI, aI 78 fsu))]) [5, 6, 7, 8, 9, 10, 11, 0, 1, 2, 3, 4] rfl rfl ?_
                              refine g_lv (lv' := [(3, .int (iI (((d : Nat) : Int) + 1))), (2, .int (iI (bI lq))), (1, .int (iI ww)), (0, .ref m0)]) [0, 2, 3, 4] rfl ?_
                              refine g_wide (k := 0) (n := 0) (Nat.le_of_ble_eq_true rfl) (Nat.le_of_ble_eq_true rfl) ?_
                              exact ih82 (d + 1) (uZ u14 (ww - 1) (UI u14 (ww - 1) m1)) ww (((g0 + m1) - ww) + 1) h0 (c0 + 1) (by omega) (by have hW2 := wl_b (l' := (((g0 + m1) - ww) + 1)) kW hEN (by omega) (Or.inl ⟨c18, by omega, rfl⟩); rw [show max h0 m1 = h0 by omega] at hW2; exact hW2) (by omega) (by omega)
                      · refine g_aload_n C 4 std_M_narrow_210 rfl ?_
                        refine g_get C (st_sub sti_M) 5 rfl rfl 32 (by decide) (List.mem_cons_of_mem _ kw_3_98) rfl rfl std_M_narrow_211 ?_
                        refine g_goto (tgt := 221) C std_M_narrow_214 (by decide) ?_
                        refine g_put C (ws' := [(k_ch, .inl (cI, aI 13 fsz)), (k_co, .inl (cI, aI 78 fco)), (k_ba, .inl (cZ, aI 468 fba)), (k_ua, .inl (cI, aI 78 ffu)), (k_ub, .inl (cI, aI 78 fsu)), (m0, .inr (5, [.int (iI 0), .int (iI ((n : Nat) : Int)), .ref k_ch, .ref k_co, .ref k_ua, .ref k_ub, .ref k_ba, .int (iI (fle 0)), .int (iI (fle 1)), .int (iI (fmo 0)), .int (iI (fmo 1)), .int (iI (bI HM)), .ref k_rt, .ref k_rf, .ref k_ct, .ref k_cf, .ref k_nd, .ref k_na, .ref k_no, .ref k_bt, .ref k_bc, .ref k_br, .int (iI bg), .int (iI pn), .ref k_pc, .ref k_pr, .ref k_la, .ref k_lb, .ref k_ha, .ref k_hb, .ref k_ls, .ref k_wc, .int (iI m1), .int (iI g0), .int (iI m1), .int (iI c0)])), (k_la, .inl (cI, aI 800 (fA u14))), (k_lb, .inl (cI, aI 800 (fB u14))), (k_ha, .inl (cI, aI 800 (fC u14))), (k_hb, .inl (cI, aI 800 (fD u14))), (k_ls, .inl (cI, aI 800 (fL u14))), (k_wc, .inl (cI, aI 800 (fW u14)))]) (st_sub sti_M) stt_M sto_M stn_M 5 rfl rfl 34 (by decide) (List.mem_cons_of_mem _ kw_3_100) rfl rfl rfl rfl (Nat.le_of_ble_eq_true rfl) std_M_narrow_221 rfl ?_
                        refine g_aload_n C 4 std_M_narrow_224 rfl ?_
                        refine g_get C (st_sub sti_M) 5 rfl rfl 32 (by decide) (List.mem_cons_of_mem _ kw_3_98) rfl rfl std_M_narrow_225 ?_
                        refine g_iload_n C 3 std_M_narrow_228 rfl ?_
                        refine g_icmp_le (tgt := 281) C std_M_narrow_229 (by decide) ⟨by omega, by omega⟩ ⟨by omega, by omega⟩ (fun c24 => ?_) (fun c24 => ?_)
                        · refine g_iinc C (lv' := [(3, .int (iI (((d : Nat) : Int) + 1))), (5, .int (iI x2)), (2, .int (iI (bI lq))), (1, .int (iI ww)), (0, .ref m0)]) 1 std_M_narrow_281 rfl (by decide) rfl ?_
                          refine g_goto (tgt := 82) C std_M_narrow_284 (by decide) ?_
                          refine g_sub (ws' := [(m0, .inr (5, [.int (iI 0), .int (iI ((n : Nat) : Int)), .ref k_ch, .ref k_co, .ref k_ua, .ref k_ub, .ref k_ba, .int (iI (fle 0)), .int (iI (fle 1)), .int (iI (fmo 0)), .int (iI (fmo 1)), .int (iI (bI HM)), .ref k_rt, .ref k_rf, .ref k_ct, .ref k_cf, .ref k_nd, .ref k_na, .ref k_no, .ref k_bt, .ref k_bc, .ref k_br, .int (iI bg), .int (iI pn), .ref k_pc, .ref k_pr, .ref k_la, .ref k_lb, .ref k_ha, .ref k_hb, .ref k_ls, .ref k_wc, .int (iI m1), .int (iI g0), .int (iI m1), .int (iI c0)])), (k_la, .inl (cI, aI 800 (fA u14))), (k_lb, .inl (cI, aI 800 (fB u14))), (k_ha, .inl (cI, aI 800 (fC u14))), (k_hb, .inl (cI, aI 800 (fD u14))), (k_ls, .inl (cI, aI 800 (fL u14))), (k_wc, .inl (cI, aI 800 (fW u14))), (k_ch, .inl (cI, aI 13 fsz)), (k_co, .inl (cI, aI 78 fco)), (k_ba, .inl (cZ, aI 468 fba)), (k_ua, .inl (cI, aI 78 ffu)), (k_ub, .inl (cI, aI 78 fsu))]) [5, 6, 7, 8, 9, 10, 11, 0, 1, 2, 3, 4] rfl rfl ?_
                          refine g_lv (lv' := [(3, .int (iI (((d : Nat) : Int) + 1))), (2, .int (iI (bI lq))), (1, .int (iI ww)), (0, .ref m0)]) [0, 2, 3, 4] rfl ?_
                          refine g_wide (k := 0) (n := 0) (Nat.le_of_ble_eq_true rfl) (Nat.le_of_ble_eq_true rfl) ?_
                          exact ih82 (d + 1) u14 m1 g0 m1 c0 (by omega) (by have hW2 := wl_a kW hEN (by omega); rw [show max h0 m1 = m1 by omega] at hW2; exact hW2) (by omega) (by omega)
                        · refine g_aload_n C 4 std_M_narrow_232 rfl ?_
                          refine g_dup C std_M_narrow_233 rfl ?_
                          refine g_get C (st_sub sti_M) 5 rfl rfl 35 (by decide) (List.mem_cons_of_mem _ kw_3_101) rfl rfl std_M_narrow_234 ?_
                          refine g_iconst C std_M_narrow_237 ?_
                          refine g_iadd C std_M_narrow_238 ?_
                          refine g_put C (ws' := [(k_ch, .inl (cI, aI 13 fsz)), (k_co, .inl (cI, aI 78 fco)), (k_ba, .inl (cZ, aI 468 fba)), (k_ua, .inl (cI, aI 78 ffu)), (k_ub, .inl (cI, aI 78 fsu)), (m0, .inr (5, [.int (iI 0), .int (iI ((n : Nat) : Int)), .ref k_ch, .ref k_co, .ref k_ua, .ref k_ub, .ref k_ba, .int (iI (fle 0)), .int (iI (fle 1)), .int (iI (fmo 0)), .int (iI (fmo 1)), .int (iI (bI HM)), .ref k_rt, .ref k_rf, .ref k_ct, .ref k_cf, .ref k_nd, .ref k_na, .ref k_no, .ref k_bt, .ref k_bc, .ref k_br, .int (iI bg), .int (iI pn), .ref k_pc, .ref k_pr, .ref k_la, .ref k_lb, .ref k_ha, .ref k_hb, .ref k_ls, .ref k_wc, .int (iI m1), .int (iI g0), .int (iI m1), .int (iI (c0 + 1))])), (k_la, .inl (cI, aI 800 (fA u14))), (k_lb, .inl (cI, aI 800 (fB u14))), (k_ha, .inl (cI, aI 800 (fC u14))), (k_hb, .inl (cI, aI 800 (fD u14))), (k_ls, .inl (cI, aI 800 (fL u14))), (k_wc, .inl (cI, aI 800 (fW u14)))]) (st_sub sti_M) stt_M sto_M stn_M 5 rfl rfl 35 (by decide) (List.mem_cons_of_mem _ kw_3_101) rfl rfl rfl rfl (Nat.le_of_ble_eq_true rfl) std_M_narrow_239 rfl ?_
                          refine g_aload_n C 4 std_M_narrow_242 rfl ?_
                          refine g_aload_n C 4 std_M_narrow_243 rfl ?_
                          refine g_get C (st_sub sti_M) 5 rfl rfl 33 (by decide) (List.mem_cons_of_mem _ kw_3_99) rfl rfl std_M_narrow_244 ?_
                          refine g_aload_n C 4 std_M_narrow_247 rfl ?_
                          refine g_get C (st_sub sti_M) 5 rfl rfl 32 (by decide) (List.mem_cons_of_mem _ kw_3_98) rfl rfl std_M_narrow_248 ?_
                          refine g_iadd C std_M_narrow_251 ?_
                          refine g_iload_n C 3 std_M_narrow_252 rfl ?_
                          refine g_isub C std_M_narrow_253 ?_
                          refine g_iload_n C 2 std_M_narrow_254 rfl ?_
                          refine g_ifeq_b (tgt := 262) C std_M_narrow_255 (by decide) (fun c25 => ?_) (fun c25 => ?_)
                          · refine g_iconst C std_M_narrow_262 ?_
                            refine g_iadd C std_M_narrow_263 ?_
                            refine g_put C (ws' := [(k_ch, .inl (cI, aI 13 fsz)), (k_co, .inl (cI, aI 78 fco)), (k_ba, .inl (cZ, aI 468 fba)), (k_ua, .inl (cI, aI 78 ffu)), (k_ub, .inl (cI, aI 78 fsu)), (m0, .inr (5, [.int (iI 0), .int (iI ((n : Nat) : Int)), .ref k_ch, .ref k_co, .ref k_ua, .ref k_ub, .ref k_ba, .int (iI (fle 0)), .int (iI (fle 1)), .int (iI (fmo 0)), .int (iI (fmo 1)), .int (iI (bI HM)), .ref k_rt, .ref k_rf, .ref k_ct, .ref k_cf, .ref k_nd, .ref k_na, .ref k_no, .ref k_bt, .ref k_bc, .ref k_br, .int (iI bg), .int (iI pn), .ref k_pc, .ref k_pr, .ref k_la, .ref k_lb, .ref k_ha, .ref k_hb, .ref k_ls, .ref k_wc, .int (iI m1), .int (iI (((g0 + m1) - ww) + 0)), .int (iI m1), .int (iI (c0 + 1))])), (k_la, .inl (cI, aI 800 (fA u14))), (k_lb, .inl (cI, aI 800 (fB u14))), (k_ha, .inl (cI, aI 800 (fC u14))), (k_hb, .inl (cI, aI 800 (fD u14))), (k_ls, .inl (cI, aI 800 (fL u14))), (k_wc, .inl (cI, aI 800 (fW u14)))]) (st_sub sti_M) stt_M sto_M stn_M 5 rfl rfl 33 (by decide) (List.mem_cons_of_mem _ kw_3_99) rfl rfl rfl rfl (Nat.le_of_ble_eq_true rfl) std_M_narrow_264 rfl ?_
                            refine g_iload_n C 2 std_M_narrow_267 rfl ?_
                            refine g_ifeq_b (tgt := 276) C std_M_narrow_268 (by decide) (fun c26 => ?_) (fun c26 => ?_)
                            · refine g_aload_n C 4 std_M_narrow_276 rfl ?_
                              refine g_iload_n C 3 std_M_narrow_277 rfl ?_
                              refine g_put C (ws' := [(k_ch, .inl (cI, aI 13 fsz)), (k_co, .inl (cI, aI 78 fco)), (k_ba, .inl (cZ, aI 468 fba)), (k_ua, .inl (cI, aI 78 ffu)), (k_ub, .inl (cI, aI 78 fsu)), (m0, .inr (5, [.int (iI 0), .int (iI ((n : Nat) : Int)), .ref k_ch, .ref k_co, .ref k_ua, .ref k_ub, .ref k_ba, .int (iI (fle 0)), .int (iI (fle 1)), .int (iI (fmo 0)), .int (iI (fmo 1)), .int (iI (bI HM)), .ref k_rt, .ref k_rf, .ref k_ct, .ref k_cf, .ref k_nd, .ref k_na, .ref k_no, .ref k_bt, .ref k_bc, .ref k_br, .int (iI bg), .int (iI pn), .ref k_pc, .ref k_pr, .ref k_la, .ref k_lb, .ref k_ha, .ref k_hb, .ref k_ls, .ref k_wc, .int (iI ww), .int (iI (((g0 + m1) - ww) + 0)), .int (iI m1), .int (iI (c0 + 1))])), (k_la, .inl (cI, aI 800 (fA u14))), (k_lb, .inl (cI, aI 800 (fB u14))), (k_ha, .inl (cI, aI 800 (fC u14))), (k_hb, .inl (cI, aI 800 (fD u14))), (k_ls, .inl (cI, aI 800 (fL u14))), (k_wc, .inl (cI, aI 800 (fW u14)))]) (st_sub sti_M) stt_M sto_M stn_M 5 rfl rfl 32 (by decide) (List.mem_cons_of_mem _ kw_3_98) rfl rfl rfl rfl (Nat.le_of_ble_eq_true rfl) std_M_narrow_278 rfl ?_
                              refine g_iinc C (lv' := [(3, .int (iI (((d : Nat) : Int) + 1))), (5, .int (iI x2)), (2, .int (iI (bI lq))), (1, .int (iI ww)), (0, .ref m0)]) 1 std_M_narrow_281 rfl (by decide) rfl ?_
                              refine g_goto (tgt := 82) C std_M_narrow_284 (by decide) ?_
                              refine g_sub (ws' := [(m0, .inr (5, [.int (iI 0), .int (iI ((n : Nat) : Int)), .ref k_ch, .ref k_co, .ref k_ua, .ref k_ub, .ref k_ba, .int (iI (fle 0)), .int (iI (fle 1)), .int (iI (fmo 0)), .int (iI (fmo 1)), .int (iI (bI HM)), .ref k_rt, .ref k_rf, .ref k_ct, .ref k_cf, .ref k_nd, .ref k_na, .ref k_no, .ref k_bt, .ref k_bc, .ref k_br, .int (iI bg), .int (iI pn), .ref k_pc, .ref k_pr, .ref k_la, .ref k_lb, .ref k_ha, .ref k_hb, .ref k_ls, .ref k_wc, .int (iI ww), .int (iI (((g0 + m1) - ww) + 0)), .int (iI m1), .int (iI (c0 + 1))])), (k_la, .inl (cI, aI 800 (fA u14))), (k_lb, .inl (cI, aI 800 (fB u14))), (k_ha, .inl (cI, aI 800 (fC u14))), (k_hb, .inl (cI, aI 800 (fD u14))), (k_ls, .inl (cI, aI 800 (fL u14))), (k_wc, .inl (cI, aI 800 (fW u14))), (k_ch, .inl (cI, aI 13 fsz)), (k_co, .inl (cI, aI 78 fco)), (k_ba, .inl (cZ, aI 468 fba)), (k_ua, .inl (cI, aI 78 ffu)), (k_ub, .inl (cI, aI 78 fsu))]) [5, 6, 7, 8, 9, 10, 11, 0, 1, 2, 3, 4] rfl rfl ?_
                              refine g_lv (lv' := [(3, .int (iI (((d : Nat) : Int) + 1))), (2, .int (iI (bI lq))), (1, .int (iI ww)), (0, .ref m0)]) [0, 2, 3, 4] rfl ?_
                              refine g_wide (k := 0) (n := 0) (Nat.le_of_ble_eq_true rfl) (Nat.le_of_ble_eq_true rfl) ?_
                              exact ih82 (d + 1) u14 ww (((g0 + m1) - ww) + 0) m1 (c0 + 1) (by omega) (by have hW2 := wl_b (l' := (((g0 + m1) - ww) + 0)) kW hEN (by omega) (Or.inr ⟨c25, by omega, rfl⟩); rw [show max h0 m1 = m1 by omega] at hW2; exact hW2) (by omega) (by omega)
                            · exfalso; contradiction
                          · refine g_iconst C std_M_narrow_258 ?_
                            refine g_goto (tgt := 263) C std_M_narrow_259 (by decide) ?_
                            refine g_iadd C std_M_narrow_263 ?_
                            refine g_put C (ws' := [(k_ch, .inl (cI, aI 13 fsz)), (k_co, .inl (cI, aI 78 fco)), (k_ba, .inl (cZ, aI 468 fba)), (k_ua, .inl (cI, aI 78 ffu)), (k_ub, .inl (cI, aI 78 fsu)), (m0, .inr (5, [.int (iI 0), .int (iI ((n : Nat) : Int)), .ref k_ch, .ref k_co, .ref k_ua, .ref k_ub, .ref k_ba, .int (iI (fle 0)), .int (iI (fle 1)), .int (iI (fmo 0)), .int (iI (fmo 1)), .int (iI (bI HM)), .ref k_rt, .ref k_rf, .ref k_ct, .ref k_cf, .ref k_nd, .ref k_na, .ref k_no, .ref k_bt, .ref k_bc, .ref k_br, .int (iI bg), .int (iI pn), .ref k_pc, .ref k_pr, .ref k_la, .ref k_lb, .ref k_ha, .ref k_hb, .ref k_ls, .ref k_wc, .int (iI m1), .int (iI (((g0 + m1) - ww) + 1)), .int (iI m1), .int (iI (c0 + 1))])), (k_la, .inl (cI, aI 800 (fA u14))), (k_lb, .inl (cI, aI 800 (fB u14))), (k_ha, .inl (cI, aI 800 (fC u14))), (k_hb, .inl (cI, aI 800 (fD u14))), (k_ls, .inl (cI, aI 800 (fL u14))), (k_wc, .inl (cI, aI 800 (fW u14)))]) (st_sub sti_M) stt_M sto_M stn_M 5 rfl rfl 33 (by decide) (List.mem_cons_of_mem _ kw_3_99) rfl rfl rfl rfl (Nat.le_of_ble_eq_true rfl) std_M_narrow_264 rfl ?_
                            refine g_iload_n C 2 std_M_narrow_267 rfl ?_
                            refine g_ifeq_b (tgt := 276) C std_M_narrow_268 (by decide) (fun c27 => ?_) (fun c27 => ?_)
                            · exfalso; contradiction
                            · refine g_aload_n C 4 std_M_narrow_271 rfl ?_
                              refine g_iload_n C 3 std_M_narrow_272 rfl ?_
                              refine g_V_v (wc := [(m0, .inr (5, [.int (iI 0), .int (iI ((n : Nat) : Int)), .ref k_ch, .ref k_co, .ref k_ua, .ref k_ub, .ref k_ba, .int (iI (fle 0)), .int (iI (fle 1)), .int (iI (fmo 0)), .int (iI (fmo 1)), .int (iI (bI HM)), .ref k_rt, .ref k_rf, .ref k_ct, .ref k_cf, .ref k_nd, .ref k_na, .ref k_no, .ref k_bt, .ref k_bc, .ref k_br, .int (iI bg), .int (iI pn), .ref k_pc, .ref k_pr, .ref k_la, .ref k_lb, .ref k_ha, .ref k_hb, .ref k_ls, .ref k_wc, .int (iI m1), .int (iI (((g0 + m1) - ww) + 1)), .int (iI m1), .int (iI (c0 + 1))])), (k_la, .inl (cI, aI 800 (fA u14))), (k_lb, .inl (cI, aI 800 (fB u14))), (k_ha, .inl (cI, aI 800 (fC u14))), (k_hb, .inl (cI, aI 800 (fD u14))), (k_ls, .inl (cI, aI 800 (fL u14))), (k_wc, .inl (cI, aI 800 (fW u14)))]) (wr := [(k_ch, .inl (cI, aI 13 fsz)), (k_co, .inl (cI, aI 78 fco)), (k_ba, .inl (cZ, aI 468 fba)), (k_ua, .inl (cI, aI 78 ffu)), (k_ub, .inl (cI, aI 78 fsu))]) (rest := []) C (c_m_join l dC dI cI cJ cZ m0 k_ch k_co k_ua k_ub k_ba k_rt k_rf k_ct k_cf k_nd k_na k_no k_bt k_bc k_br k_pc k_pr k_la k_lb k_ha k_hb k_ls k_wc HM bg pn m1 (((g0 + m1) - ww) + 1) m1 (c0 + 1) ((n : Nat) : Int) fle fmo u14 ww (1000 * ((d : Nat) : Int) + 1000) (⟨by omega, by omega, by omega⟩) (hR1) (by omega)) (st_cV C kw_4_90 kw_4_87 kw_1_6 kw_4_89 kw_0_34 sth_M_join ⟨Nat.le_of_ble_eq_true rfl, Nat.le_of_ble_eq_true rfl⟩) 0 rfl rfl rfl rfl (Nat.le_of_ble_eq_true rfl) std_M_narrow_273 ⟨Nat.le_of_ble_eq_true rfl, Nat.le_of_ble_eq_true rfl⟩ [5, 6, 7, 8, 9, 10, 11] [0, 1, 2, 3, 4] rfl rfl rfl rfl (by decide) (fun u29 h30 => ?_)
                              refine g_ws (ws' := [(k_ch, .inl (cI, aI 13 fsz)), (k_co, .inl (cI, aI 78 fco)), (k_ba, .inl (cZ, aI 468 fba)), (k_ua, .inl (cI, aI 78 ffu)), (k_ub, .inl (cI, aI 78 fsu)), (m0, .inr (5, [.int (iI 0), .int (iI ((n : Nat) : Int)), .ref k_ch, .ref k_co, .ref k_ua, .ref k_ub, .ref k_ba, .int (iI (fle 0)), .int (iI (fle 1)), .int (iI (fmo 0)), .int (iI (fmo 1)), .int (iI (bI HM)), .ref k_rt, .ref k_rf, .ref k_ct, .ref k_cf, .ref k_nd, .ref k_na, .ref k_no, .ref k_bt, .ref k_bc, .ref k_br, .int (iI bg), .int (iI pn), .ref k_pc, .ref k_pr, .ref k_la, .ref k_lb, .ref k_ha, .ref k_hb, .ref k_ls, .ref k_wc, .int (iI m1), .int (iI (((g0 + m1) - ww) + 1)), .int (iI m1), .int (iI (c0 + 1))])), (k_la, .inl (cI, aI 800 (fA (uZ u14 (ww - 1) (UI u14 (ww - 1) m1))))), (k_lb, .inl (cI, aI 800 (fB (uZ u14 (ww - 1) (UI u14 (ww - 1) m1))))), (k_ha, .inl (cI, aI 800 (fC (uZ u14 (ww - 1) (UI u14 (ww - 1) m1))))), (k_hb, .inl (cI, aI 800 (fD (uZ u14 (ww - 1) (UI u14 (ww - 1) m1))))), (k_ls, .inl (cI, aI 800 (fL (uZ u14 (ww - 1) (UI u14 (ww - 1) m1))))), (k_wc, .inl (cI, aI 800 (fW (uZ u14 (ww - 1) (UI u14 (ww - 1) m1)))))]) rfl ?_
                              refine g_aload_n C 4 std_M_narrow_276 rfl ?_
                              refine g_iload_n C 3 std_M_narrow_277 rfl ?_
                              refine g_put C (ws' := [(k_ch, .inl (cI, aI 13 fsz)), (k_co, .inl (cI, aI 78 fco)), (k_ba, .inl (cZ, aI 468 fba)), (k_ua, .inl (cI, aI 78 ffu)), (k_ub, .inl (cI, aI 78 fsu)), (m0, .inr (5, [.int (iI 0), .int (iI ((n : Nat) : Int)), .ref k_ch, .ref k_co, .ref k_ua, .ref k_ub, .ref k_ba, .int (iI (fle 0)), .int (iI (fle 1)), .int (iI (fmo 0)), .int (iI (fmo 1)), .int (iI (bI HM)), .ref k_rt, .ref k_rf, .ref k_ct, .ref k_cf, .ref k_nd, .ref k_na, .ref k_no, .ref k_bt, .ref k_bc, .ref k_br, .int (iI bg), .int (iI pn), .ref k_pc, .ref k_pr, .ref k_la, .ref k_lb, .ref k_ha, .ref k_hb, .ref k_ls, .ref k_wc, .int (iI ww), .int (iI (((g0 + m1) - ww) + 1)), .int (iI m1), .int (iI (c0 + 1))])), (k_la, .inl (cI, aI 800 (fA (uZ u14 (ww - 1) (UI u14 (ww - 1) m1))))), (k_lb, .inl (cI, aI 800 (fB (uZ u14 (ww - 1) (UI u14 (ww - 1) m1))))), (k_ha, .inl (cI, aI 800 (fC (uZ u14 (ww - 1) (UI u14 (ww - 1) m1))))), (k_hb, .inl (cI, aI 800 (fD (uZ u14 (ww - 1) (UI u14 (ww - 1) m1))))), (k_ls, .inl (cI, aI 800 (fL (uZ u14 (ww - 1) (UI u14 (ww - 1) m1))))), (k_wc, .inl (cI, aI 800 (fW (uZ u14 (ww - 1) (UI u14 (ww - 1) m1)))))]) (st_sub sti_M) stt_M sto_M stn_M 5 rfl rfl 32 (by decide) (List.mem_cons_of_mem _ kw_3_98) rfl rfl rfl rfl (Nat.le_of_ble_eq_true rfl) std_M_narrow_278 rfl ?_
                              refine g_iinc C (lv' := [(3, .int (iI (((d : Nat) : Int) + 1))), (5, .int (iI x2)), (2, .int (iI (bI lq))), (1, .int (iI ww)), (0, .ref m0)]) 1 std_M_narrow_281 rfl (by decide) rfl ?_
                              refine g_goto (tgt := 82) C std_M_narrow_284 (by decide) ?_
                              refine g_sub (ws' := [(m0, .inr (5, [.int (iI 0), .int (iI ((n : Nat) : Int)), .ref k_ch, .ref k_co, .ref k_ua, .ref k_ub, .ref k_ba, .int (iI (fle 0)), .int (iI (fle 1)), .int (iI (fmo 0)), .int (iI (fmo 1)), .int (iI (bI HM)), .ref k_rt, .ref k_rf, .ref k_ct, .ref k_cf, .ref k_nd, .ref k_na, .ref k_no, .ref k_bt, .ref k_bc, .ref k_br, .int (iI bg), .int (iI pn), .ref k_pc, .ref k_pr, .ref k_la, .ref k_lb, .ref k_ha, .ref k_hb, .ref k_ls, .ref k_wc, .int (iI ww), .int (iI (((g0 + m1) - ww) + 1)), .int (iI m1), .int (iI (c0 + 1))])), (k_la, .inl (cI, aI 800 (fA (uZ u14 (ww - 1) (UI u14 (ww - 1) m1))))), (k_lb, .inl (cI, aI 800 (fB (uZ u14 (ww - 1) (UI u14 (ww - 1) m1))))), (k_ha, .inl (cI, aI 800 (fC (uZ u14 (ww - 1) (UI u14 (ww - 1) m1))))), (k_hb, .inl (cI, aI 800 (fD (uZ u14 (ww - 1) (UI u14 (ww - 1) m1))))), (k_ls, .inl (cI, aI 800 (fL (uZ u14 (ww - 1) (UI u14 (ww - 1) m1))))), (k_wc, .inl (cI, aI 800 (fW (uZ u14 (ww - 1) (UI u14 (ww - 1) m1))))), (k_ch, .inl (cI, aI 13 fsz)), (k_co, .inl (cI, aI 78 fco)), (k_ba, .inl (cZ, aI 468 fba)), (k_ua, .inl (cI, aI 78 ffu)), (k_ub, .inl (cI, aI 78 fsu))]) [5, 6, 7, 8, 9, 10, 11, 0, 1, 2, 3, 4] rfl rfl ?_
                              refine g_lv (lv' := [(3, .int (iI (((d : Nat) : Int) + 1))), (2, .int (iI (bI lq))), (1, .int (iI ww)), (0, .ref m0)]) [0, 2, 3, 4] rfl ?_
                              refine g_wide (k := 0) (n := 0) (Nat.le_of_ble_eq_true rfl) (Nat.le_of_ble_eq_true rfl) ?_
                              exact ih82 (d + 1) (uZ u14 (ww - 1) (UI u14 (ww - 1) m1)) ww (((g0 + m1) - ww) + 1) m1 (c0 + 1) (by omega) (by have hW2 := wl_b (l' := (((g0 + m1) - ww) + 1)) kW hEN (by omega) (Or.inl ⟨c25, by omega, rfl⟩); rw [show max h0 m1 = m1 by omega] at hW2; exact hW2) (by omega) (by omega)
                    · refine g_aload_n C 4 std_M_narrow_177 rfl ?_
                      refine g_bipush C std_M_narrow_178 (by decide) ?_
                      refine g_iload C 0 std_M_narrow_180 rfl ?_
                      refine g_iadd C std_M_narrow_182 ?_
                      refine g_iload C 0 std_M_narrow_183 rfl ?_
                      refine g_V_v (wc := [(m0, .inr (5, [.int (iI 0), .int (iI ((n : Nat) : Int)), .ref k_ch, .ref k_co, .ref k_ua, .ref k_ub, .ref k_ba, .int (iI (fle 0)), .int (iI (fle 1)), .int (iI (fmo 0)), .int (iI (fmo 1)), .int (iI (bI HM)), .ref k_rt, .ref k_rf, .ref k_ct, .ref k_cf, .ref k_nd, .ref k_na, .ref k_no, .ref k_bt, .ref k_bc, .ref k_br, .int (iI bg), .int (iI pn), .ref k_pc, .ref k_pr, .ref k_la, .ref k_lb, .ref k_ha, .ref k_hb, .ref k_ls, .ref k_wc, .int (iI m1), .int (iI g0), .int (iI h0), .int (iI c0)])), (k_la, .inl (cI, aI 800 (fA V3))), (k_lb, .inl (cI, aI 800 (fB V3))), (k_ha, .inl (cI, aI 800 (fC V3))), (k_hb, .inl (cI, aI 800 (fD V3))), (k_ls, .inl (cI, aI 800 (fL V3))), (k_wc, .inl (cI, aI 800 (fW V3)))]) (wr := [(k_ch, .inl (cI, aI 13 fsz)), (k_co, .inl (cI, aI 78 fco)), (k_ba, .inl (cZ, aI 468 fba)), (k_ua, .inl (cI, aI 78 ffu)), (k_ub, .inl (cI, aI 78 fsu))]) (rest := []) C (c_m_move l dC dI cI cJ cZ m0 k_ch k_co k_ua k_ub k_ba k_rt k_rf k_ct k_cf k_nd k_na k_no k_bt k_bc k_br k_pc k_pr k_la k_lb k_ha k_hb k_ls k_wc HM bg pn m1 g0 h0 c0 ((n : Nat) : Int) fle fmo V3 (100 + x2) x2 (⟨by omega, by omega⟩) (⟨by omega, by omega⟩)) (st_cV C kw_4_78 kw_4_75 kw_1_6 kw_4_77 kw_0_31 sth_M_move ⟨Nat.le_of_ble_eq_true rfl, Nat.le_of_ble_eq_true rfl⟩) 0 rfl rfl rfl rfl (Nat.le_of_ble_eq_true rfl) std_M_narrow_185 ⟨Nat.le_of_ble_eq_true rfl, Nat.le_of_ble_eq_true rfl⟩ [0, 1, 2, 3, 4, 5, 6] [7, 8, 9, 10, 11] rfl rfl rfl rfl (by decide) (fun u32 h33 => ?_)
                      refine g_ws (ws' := [(k_ch, .inl (cI, aI 13 fsz)), (k_co, .inl (cI, aI 78 fco)), (k_ba, .inl (cZ, aI 468 fba)), (k_ua, .inl (cI, aI 78 ffu)), (k_ub, .inl (cI, aI 78 fsu)), (m0, .inr (5, [.int (iI 0), .int (iI ((n : Nat) : Int)), .ref k_ch, .ref k_co, .ref k_ua, .ref k_ub, .ref k_ba, .int (iI (fle 0)), .int (iI (fle 1)), .int (iI (fmo 0)), .int (iI (fmo 1)), .int (iI (bI HM)), .ref k_rt, .ref k_rf, .ref k_ct, .ref k_cf, .ref k_nd, .ref k_na, .ref k_no, .ref k_bt, .ref k_bc, .ref k_br, .int (iI bg), .int (iI pn), .ref k_pc, .ref k_pr, .ref k_la, .ref k_lb, .ref k_ha, .ref k_hb, .ref k_ls, .ref k_wc, .int (iI m1), .int (iI g0), .int (iI h0), .int (iI c0)])), (k_la, .inl (cI, aI 800 (fA (uZ V3 x2 (V3 (100 + x2)))))), (k_lb, .inl (cI, aI 800 (fB (uZ V3 x2 (V3 (100 + x2)))))), (k_ha, .inl (cI, aI 800 (fC (uZ V3 x2 (V3 (100 + x2)))))), (k_hb, .inl (cI, aI 800 (fD (uZ V3 x2 (V3 (100 + x2)))))), (k_ls, .inl (cI, aI 800 (fL (uZ V3 x2 (V3 (100 + x2)))))), (k_wc, .inl (cI, aI 800 (fW (uZ V3 x2 (V3 (100 + x2))))))]) rfl ?_
                      refine g_iinc C (lv' := [(5, .int (iI (x2 + 1))), (3, .int (iI ((d : Nat) : Int))), (2, .int (iI (bI lq))), (1, .int (iI ww)), (0, .ref m0)]) 0 std_M_narrow_188 rfl (by decide) rfl ?_
                      refine g_goto (tgt := 168) C std_M_narrow_191 (by decide) ?_
                      refine g_sub (ws' := [(m0, .inr (5, [.int (iI 0), .int (iI ((n : Nat) : Int)), .ref k_ch, .ref k_co, .ref k_ua, .ref k_ub, .ref k_ba, .int (iI (fle 0)), .int (iI (fle 1)), .int (iI (fmo 0)), .int (iI (fmo 1)), .int (iI (bI HM)), .ref k_rt, .ref k_rf, .ref k_ct, .ref k_cf, .ref k_nd, .ref k_na, .ref k_no, .ref k_bt, .ref k_bc, .ref k_br, .int (iI bg), .int (iI pn), .ref k_pc, .ref k_pr, .ref k_la, .ref k_lb, .ref k_ha, .ref k_hb, .ref k_ls, .ref k_wc, .int (iI m1), .int (iI g0), .int (iI h0), .int (iI c0)])), (k_la, .inl (cI, aI 800 (fA (uZ V3 x2 (V3 (100 + x2)))))), (k_lb, .inl (cI, aI 800 (fB (uZ V3 x2 (V3 (100 + x2)))))), (k_ha, .inl (cI, aI 800 (fC (uZ V3 x2 (V3 (100 + x2)))))), (k_hb, .inl (cI, aI 800 (fD (uZ V3 x2 (V3 (100 + x2)))))), (k_ls, .inl (cI, aI 800 (fL (uZ V3 x2 (V3 (100 + x2)))))), (k_wc, .inl (cI, aI 800 (fW (uZ V3 x2 (V3 (100 + x2)))))), (k_ch, .inl (cI, aI 13 fsz)), (k_co, .inl (cI, aI 78 fco)), (k_ba, .inl (cZ, aI 468 fba)), (k_ua, .inl (cI, aI 78 ffu)), (k_ub, .inl (cI, aI 78 fsu))]) [5, 6, 7, 8, 9, 10, 11, 0, 1, 2, 3, 4] rfl rfl ?_
                      refine g_wide (k := 0) (n := 0) (Nat.le_of_ble_eq_true rfl) (Nat.le_of_ble_eq_true rfl) ?_
                      exact ih168 (x2 + 1) (uZ V3 x2 (V3 (100 + x2))) (by omega) (cp_1 k1 (k2 (100 + x2) (by omega) (by omega))) (fun j h1 h2 => by rw [uZ_n (by omega)]; exact k2 j (by omega) h2) (by omega)
                refine g_lv (lv' := [(5, .int (iI 0)), (3, .int (iI ((d : Nat) : Int))), (2, .int (iI (bI lq))), (1, .int (iI ww)), (0, .ref m0)]) [0, 2, 3, 4, 5] rfl ?_
                obtain ⟨nn0, hnn0⟩ : ∃ nn0 : Nat, (m1 - 0) < (nn0 : Int) := z_nat _
                exact L168 nn0 0 V1 (by omega) (fun j h1 h2 => by omega) (fun _ _ _ => rfl) hnn0
              · have hsz := ksz ((d : Nat) : Int) (by omega) (by omega)
                refine g_iconst C std_M_narrow_111 ?_
                refine g_istore C (lv' := [(6, .int (iI 0)), (5, .int (iI x)), (4, .int (iI w0)), (3, .int (iI ((d : Nat) : Int))), (2, .int (iI (bI lq))), (1, .int (iI ww)), (0, .ref m0)]) std_M_narrow_112 (by decide) rfl ?_
                have L114 : ∀ (nn114 : Nat) (y : Int) (m2 : Int) (V2 : Int → Int), (0 ≤ y ∧ y ≤ fsz ((d : Nat) : Int)) → (0 ≤ m2 ∧ m2 ≤ x * 6 + y) → (∀ j, 0 ≤ j → j < 100 → V2 j = RR j) → AL m2 (fun j => V2 (100 + j)) (NQ fsz fco ffu fsu fbb fmo RR ((d : Nat) : Int) x y) → (fsz ((d : Nat) : Int) - y) < (nn114 : Int) → G p l e ({ frames := 2, cells := 0, slots := 0, locals := 49 } : Room) s m ([.ref m0, .int (iI ww), .int (iI (bI lq))] : List Value).toArray below meth c (dC, dI) stCl 7 A 0 0 Q [(m0, .inr (5, [.int (iI 0), .int (iI ((n : Nat) : Int)), .ref k_ch, .ref k_co, .ref k_ua, .ref k_ub, .ref k_ba, .int (iI (fle 0)), .int (iI (fle 1)), .int (iI (fmo 0)), .int (iI (fmo 1)), .int (iI (bI HM)), .ref k_rt, .ref k_rf, .ref k_ct, .ref k_cf, .ref k_nd, .ref k_na, .ref k_no, .ref k_bt, .ref k_bc, .ref k_br, .int (iI bg), .int (iI pn), .ref k_pc, .ref k_pr, .ref k_la, .ref k_lb, .ref k_ha, .ref k_hb, .ref k_ls, .ref k_wc, .int (iI m2), .int (iI g0), .int (iI h0), .int (iI c0)])), (k_la, .inl (cI, aI 800 (fA V2))), (k_lb, .inl (cI, aI 800 (fB V2))), (k_ha, .inl (cI, aI 800 (fC V2))), (k_hb, .inl (cI, aI 800 (fD V2))), (k_ls, .inl (cI, aI 800 (fL V2))), (k_wc, .inl (cI, aI 800 (fW V2))), (k_ch, .inl (cI, aI 13 fsz)), (k_co, .inl (cI, aI 78 fco)), (k_ba, .inl (cZ, aI 468 fba)), (k_ua, .inl (cI, aI 78 ffu)), (k_ub, .inl (cI, aI 78 fsu))] 114 [(6, .int (iI y)), (5, .int (iI x)), (4, .int (iI w0)), (3, .int (iI ((d : Nat) : Int))), (2, .int (iI (bI lq))), (1, .int (iI ww)), (0, .ref m0)] [] := by
                  intro nn114
                  induction nn114 with
                  | zero =>
                    intro y m2 V2 ky km2 kK2 kA2 hnn114
                    exact absurd hnn114 (by omega)
                  | succ nn114 ih114 =>
                    intro y m2 V2 ky km2 kK2 kA2 hnn114
                    refine g_iload C 0 std_M_narrow_114 rfl ?_
                    refine g_aload_n C 6 std_M_narrow_116 rfl ?_
                    refine g_get C (st_sub sti_M) 0 rfl rfl 2 (by decide) (List.mem_cons_of_mem _ kw_3_68) rfl rfl std_M_narrow_117 ?_
                    refine g_iload_n C 3 std_M_narrow_120 rfl ?_
                    refine g_iald C 7 0 rfl rfl (by omega) (by omega) (by omega) std_M_narrow_121 ?_
                    refine g_icmp_ge (tgt := 159) C std_M_narrow_122 (by decide) ⟨by omega, by omega⟩ ⟨by omega, by omega⟩ (fun c34 => ?_) (fun c34 => ?_)
                    · refine g_iinc C (lv' := [(5, .int (iI (x + 1))), (6, .int (iI y)), (4, .int (iI w0)), (3, .int (iI ((d : Nat) : Int))), (2, .int (iI (bI lq))), (1, .int (iI ww)), (0, .ref m0)]) 1 std_M_narrow_159 rfl (by decide) rfl ?_
                      refine g_goto (tgt := 104) C std_M_narrow_162 (by decide) ?_
                      refine g_lv (lv' := [(5, .int (iI (x + 1))), (4, .int (iI w0)), (3, .int (iI ((d : Nat) : Int))), (2, .int (iI (bI lq))), (1, .int (iI ww)), (0, .ref m0)]) [0, 2, 3, 4, 5, 6] rfl ?_
                      exact ih104 (x + 1) m2 V2 (by omega) (by omega) (kK2) (al_c kA2 (fun _ => nq_e (by omega) (by omega)) (fun _ _ _ => rfl)) (by omega)
                    · have hV2x : V2 x = RR x := kK2 x (by omega) (by omega)
                      have hRx := hWi.2.1 x (by omega) (by omega)
                      have hm6 := m6 (R := V2) (k := x)
                      have hNQ : ∀ E, (NQ fsz fco ffu fsu fbb fmo RR ((d : Nat) : Int) x y) E → WN (1000 * ((d : Nat) : Int) + 1000) E := fun E hE => nq_wn kT ⟨by omega, by omega⟩ hWi.2.1 (by omega) (Or.inr (by omega)) (by omega) hE
                      refine g_aload_n C 6 std_M_narrow_125 rfl ?_
                      refine g_iload_n C 3 std_M_narrow_126 rfl ?_
                      refine g_aload_n C 6 std_M_narrow_127 rfl ?_
                      refine g_get C (st_sub sti_M) 0 rfl rfl 30 (by decide) (List.mem_cons_of_mem _ kw_3_96) rfl rfl std_M_narrow_128 ?_
                      refine g_iload C 1 std_M_narrow_131 rfl ?_
                      refine g_iald C 5 0 rfl rfl (by omega) (by omega) (by omega) std_M_narrow_133 ?_
                      refine g_iload C 0 std_M_narrow_134 rfl ?_
                      refine g_V_i (wc := [(m0, .inr (5, [.int (iI 0), .int (iI ((n : Nat) : Int)), .ref k_ch, .ref k_co, .ref k_ua, .ref k_ub, .ref k_ba, .int (iI (fle 0)), .int (iI (fle 1)), .int (iI (fmo 0)), .int (iI (fmo 1)), .int (iI (bI HM)), .ref k_rt, .ref k_rf, .ref k_ct, .ref k_cf, .ref k_nd, .ref k_na, .ref k_no, .ref k_bt, .ref k_bc, .ref k_br, .int (iI bg), .int (iI pn), .ref k_pc, .ref k_pr, .ref k_la, .ref k_lb, .ref k_ha, .ref k_hb, .ref k_ls, .ref k_wc, .int (iI m2), .int (iI g0), .int (iI h0), .int (iI c0)])), (k_ba, .inl (cZ, aI 468 fba))]) (wr := [(k_la, .inl (cI, aI 800 (fA V2))), (k_lb, .inl (cI, aI 800 (fB V2))), (k_ha, .inl (cI, aI 800 (fC V2))), (k_hb, .inl (cI, aI 800 (fD V2))), (k_ls, .inl (cI, aI 800 (fL V2))), (k_wc, .inl (cI, aI 800 (fW V2))), (k_ch, .inl (cI, aI 13 fsz)), (k_co, .inl (cI, aI 78 fco)), (k_ua, .inl (cI, aI 78 ffu)), (k_ub, .inl (cI, aI 78 fsu))]) (rest := []) C (c_m_mayFollow l dC dI cI cJ cZ m0 k_ch k_co k_ua k_ub k_ba k_rt k_rf k_ct k_cf k_nd k_na k_no k_bt k_bc k_br k_pc k_pr k_la k_lb k_ha k_hb k_ls k_wc HM bg pn m2 g0 h0 c0 ((n : Nat) : Int) fle fmo fba fbb ((d : Nat) : Int) ((fL V2) x) y (kBR) (⟨by omega, by omega⟩) (⟨by omega, by omega⟩) (⟨by omega, by omega⟩) (fl_0 kW hV2x (by omega) (by omega))) (st_cV C kw_4_66 kw_4_63 kw_1_6 kw_4_65 kw_0_28 sth_M_mayFollow ⟨Nat.le_of_ble_eq_true rfl, Nat.le_of_ble_eq_true rfl⟩) 0 rfl rfl rfl rfl (Nat.le_of_ble_eq_true rfl) std_M_narrow_136 ⟨Nat.le_of_ble_eq_true rfl, Nat.le_of_ble_eq_true rfl⟩ [0, 9] [1, 2, 3, 4, 5, 6, 7, 8, 10, 11] rfl rfl rfl rfl (by decide) (fun r35 u36 h37 => ?_)
                      subst h37
                      refine g_ws (ws' := [(k_la, .inl (cI, aI 800 (fA V2))), (k_lb, .inl (cI, aI 800 (fB V2))), (k_ha, .inl (cI, aI 800 (fC V2))), (k_hb, .inl (cI, aI 800 (fD V2))), (k_ls, .inl (cI, aI 800 (fL V2))), (k_wc, .inl (cI, aI 800 (fW V2))), (k_ch, .inl (cI, aI 13 fsz)), (k_co, .inl (cI, aI 78 fco)), (k_ua, .inl (cI, aI 78 ffu)), (k_ub, .inl (cI, aI 78 fsu)), (m0, .inr (5, [.int (iI 0), .int (iI ((n : Nat) : Int)), .ref k_ch, .ref k_co, .ref k_ua, .ref k_ub, .ref k_ba, .int (iI (fle 0)), .int (iI (fle 1)), .int (iI (fmo 0)), .int (iI (fmo 1)), .int (iI (bI HM)), .ref k_rt, .ref k_rf, .ref k_ct, .ref k_cf, .ref k_nd, .ref k_na, .ref k_no, .ref k_bt, .ref k_bc, .ref k_br, .int (iI bg), .int (iI pn), .ref k_pc, .ref k_pr, .ref k_la, .ref k_lb, .ref k_ha, .ref k_hb, .ref k_ls, .ref k_wc, .int (iI m2), .int (iI g0), .int (iI h0), .int (iI c0)])), (k_ba, .inl (cZ, aI 468 fba))]) rfl ?_
                      refine g_ifeq_b (tgt := 153) C std_M_narrow_139 (by decide) (fun c38 => ?_) (fun c38 => ?_)
                      · have hnw : ¬ wo ffu fsu fbb fmo ((((d : Nat) : Int) * 6) + y) (RR x) := wo_no hV2x c38
                        refine g_iinc C (lv' := [(6, .int (iI (y + 1))), (5, .int (iI x)), (4, .int (iI w0)), (3, .int (iI ((d : Nat) : Int))), (2, .int (iI (bI lq))), (1, .int (iI ww)), (0, .ref m0)]) 0 std_M_narrow_153 rfl (by decide) rfl ?_
                        refine g_goto (tgt := 114) C std_M_narrow_156 (by decide) ?_
                        refine g_sub (ws' := [(m0, .inr (5, [.int (iI 0), .int (iI ((n : Nat) : Int)), .ref k_ch, .ref k_co, .ref k_ua, .ref k_ub, .ref k_ba, .int (iI (fle 0)), .int (iI (fle 1)), .int (iI (fmo 0)), .int (iI (fmo 1)), .int (iI (bI HM)), .ref k_rt, .ref k_rf, .ref k_ct, .ref k_cf, .ref k_nd, .ref k_na, .ref k_no, .ref k_bt, .ref k_bc, .ref k_br, .int (iI bg), .int (iI pn), .ref k_pc, .ref k_pr, .ref k_la, .ref k_lb, .ref k_ha, .ref k_hb, .ref k_ls, .ref k_wc, .int (iI m2), .int (iI g0), .int (iI h0), .int (iI c0)])), (k_la, .inl (cI, aI 800 (fA V2))), (k_lb, .inl (cI, aI 800 (fB V2))), (k_ha, .inl (cI, aI 800 (fC V2))), (k_hb, .inl (cI, aI 800 (fD V2))), (k_ls, .inl (cI, aI 800 (fL V2))), (k_wc, .inl (cI, aI 800 (fW V2))), (k_ch, .inl (cI, aI 13 fsz)), (k_co, .inl (cI, aI 78 fco)), (k_ba, .inl (cZ, aI 468 fba)), (k_ua, .inl (cI, aI 78 ffu)), (k_ub, .inl (cI, aI 78 fsu))]) [10, 0, 1, 2, 3, 4, 5, 6, 7, 11, 8, 9] rfl rfl ?_
                        refine g_wide (k := 0) (n := 0) (Nat.le_of_ble_eq_true rfl) (Nat.le_of_ble_eq_true rfl) ?_
                        exact ih114 (y + 1) m2 V2 (by omega) (by omega) (kK2) (al_c kA2 (fun _ => nq_no (by omega) (by omega) hnw) (fun _ _ _ => rfl)) (by omega)
                      · refine g_aload_n C 6 std_M_narrow_142 rfl ?_
                        refine g_iload C 1 std_M_narrow_143 rfl ?_
                        refine g_iload_n C 3 std_M_narrow_145 rfl ?_
                        refine g_iload C 0 std_M_narrow_146 rfl ?_
                        refine g_bipush C std_M_narrow_148 (by decide) ?_
                        refine g_V_v (wc := [(m0, .inr (5, [.int (iI 0), .int (iI ((n : Nat) : Int)), .ref k_ch, .ref k_co, .ref k_ua, .ref k_ub, .ref k_ba, .int (iI (fle 0)), .int (iI (fle 1)), .int (iI (fmo 0)), .int (iI (fmo 1)), .int (iI (bI HM)), .ref k_rt, .ref k_rf, .ref k_ct, .ref k_cf, .ref k_nd, .ref k_na, .ref k_no, .ref k_bt, .ref k_bc, .ref k_br, .int (iI bg), .int (iI pn), .ref k_pc, .ref k_pr, .ref k_la, .ref k_lb, .ref k_ha, .ref k_hb, .ref k_ls, .ref k_wc, .int (iI m2), .int (iI g0), .int (iI h0), .int (iI c0)])), (k_la, .inl (cI, aI 800 (fA V2))), (k_lb, .inl (cI, aI 800 (fB V2))), (k_ha, .inl (cI, aI 800 (fC V2))), (k_hb, .inl (cI, aI 800 (fD V2))), (k_ls, .inl (cI, aI 800 (fL V2))), (k_wc, .inl (cI, aI 800 (fW V2))), (k_ua, .inl (cI, aI 78 ffu)), (k_ub, .inl (cI, aI 78 fsu)), (k_co, .inl (cI, aI 78 fco))]) (wr := [(k_ch, .inl (cI, aI 13 fsz)), (k_ba, .inl (cZ, aI 468 fba))]) (rest := []) C (c_m_follow l dC dI cI cJ cZ m0 k_ch k_co k_ua k_ub k_ba k_rt k_rf k_ct k_cf k_nd k_na k_no k_bt k_bc k_br k_pc k_pr k_la k_lb k_ha k_hb k_ls k_wc HM bg pn m2 g0 h0 c0 ((n : Nat) : Int) fle V2 fsz fco ffu fsu fbb fmo x ((d : Nat) : Int) y 100 (1000 * ((d : Nat) : Int)) (1000 * ((d : Nat) : Int) + 1000) (kT) (⟨by omega, by omega⟩) (⟨by omega, by omega, by omega⟩) (⟨by omega, by omega⟩) (⟨by omega, by omega⟩) (by rw [hV2x]; exact hRx) (fun j h1 h2 => hNQ (V2 j) ((kA2.2 (V2 j)).mp ⟨j - 100, by omega, by omega, by show V2 (100 + (j - 100)) = V2 j; rw [show 100 + (j - 100) = j by omega]⟩).1) (⟨by omega, by omega⟩)) (st_cV C kw_4_70 kw_4_67 kw_1_6 kw_4_69 kw_0_29 sth_M_follow ⟨Nat.le_of_ble_eq_true rfl, Nat.le_of_ble_eq_true rfl⟩) 0 rfl rfl rfl rfl (Nat.le_of_ble_eq_true rfl) std_M_narrow_150 ⟨Nat.le_of_ble_eq_true rfl, Nat.le_of_ble_eq_true rfl⟩ [10, 0, 1, 2, 3, 4, 5, 8, 9, 7] [6, 11] rfl rfl rfl rfl (by decide) (fun u40 h41 => ?_)
                        obtain ⟨VF42, m43⟩ := u40
                        dsimp only at h41
                        refine g_ws (ws' := [(k_ch, .inl (cI, aI 13 fsz)), (k_ba, .inl (cZ, aI 468 fba)), (m0, .inr (5, [.int (iI 0), .int (iI ((n : Nat) : Int)), .ref k_ch, .ref k_co, .ref k_ua, .ref k_ub, .ref k_ba, .int (iI (fle 0)), .int (iI (fle 1)), .int (iI (fmo 0)), .int (iI (fmo 1)), .int (iI (bI HM)), .ref k_rt, .ref k_rf, .ref k_ct, .ref k_cf, .ref k_nd, .ref k_na, .ref k_no, .ref k_bt, .ref k_bc, .ref k_br, .int (iI bg), .int (iI pn), .ref k_pc, .ref k_pr, .ref k_la, .ref k_lb, .ref k_ha, .ref k_hb, .ref k_ls, .ref k_wc, .int (iI m43), .int (iI g0), .int (iI h0), .int (iI c0)])), (k_la, .inl (cI, aI 800 (fA VF42))), (k_lb, .inl (cI, aI 800 (fB VF42))), (k_ha, .inl (cI, aI 800 (fC VF42))), (k_hb, .inl (cI, aI 800 (fD VF42))), (k_ls, .inl (cI, aI 800 (fL VF42))), (k_wc, .inl (cI, aI 800 (fW VF42))), (k_ua, .inl (cI, aI 78 ffu)), (k_ub, .inl (cI, aI 78 fsu)), (k_co, .inl (cI, aI 78 fco))]) rfl ?_
                        have hMA := mf_al (by omega) (by omega) (by omega) kA2 (fun E hE => (hNQ E hE).1.1) hV2x c38 h41
                        refine g_iinc C (lv' := [(6, .int (iI (y + 1))), (5, .int (iI x)), (4, .int (iI w0)), (3, .int (iI ((d : Nat) : Int))), (2, .int (iI (bI lq))), (1, .int (iI ww)), (0, .ref m0)]) 0 std_M_narrow_153 rfl (by decide) rfl ?_
                        refine g_goto (tgt := 114) C std_M_narrow_156 (by decide) ?_
                        refine g_sub (ws' := [(m0, .inr (5, [.int (iI 0), .int (iI ((n : Nat) : Int)), .ref k_ch, .ref k_co, .ref k_ua, .ref k_ub, .ref k_ba, .int (iI (fle 0)), .int (iI (fle 1)), .int (iI (fmo 0)), .int (iI (fmo 1)), .int (iI (bI HM)), .ref k_rt, .ref k_rf, .ref k_ct, .ref k_cf, .ref k_nd, .ref k_na, .ref k_no, .ref k_bt, .ref k_bc, .ref k_br, .int (iI bg), .int (iI pn), .ref k_pc, .ref k_pr, .ref k_la, .ref k_lb, .ref k_ha, .ref k_hb, .ref k_ls, .ref k_wc, .int (iI m43), .int (iI g0), .int (iI h0), .int (iI c0)])), (k_la, .inl (cI, aI 800 (fA VF42))), (k_lb, .inl (cI, aI 800 (fB VF42))), (k_ha, .inl (cI, aI 800 (fC VF42))), (k_hb, .inl (cI, aI 800 (fD VF42))), (k_ls, .inl (cI, aI 800 (fL VF42))), (k_wc, .inl (cI, aI 800 (fW VF42))), (k_ch, .inl (cI, aI 13 fsz)), (k_co, .inl (cI, aI 78 fco)), (k_ba, .inl (cZ, aI 468 fba)), (k_ua, .inl (cI, aI 78 ffu)), (k_ub, .inl (cI, aI 78 fsu))]) [2, 3, 4, 5, 6, 7, 8, 0, 11, 1, 9, 10] rfl rfl ?_
                        refine g_wide (k := 0) (n := 0) (Nat.le_of_ble_eq_true rfl) (Nat.le_of_ble_eq_true rfl) ?_
                        exact ih114 (y + 1) m43 VF42 (by omega) (by omega) (fun j h1 h2 => (hMA.2.2 j h2).trans (kK2 j h1 h2)) (hMA.1) (by omega)
                obtain ⟨nn0, hnn0⟩ : ∃ nn0 : Nat, (fsz ((d : Nat) : Int) - 0) < (nn0 : Int) := z_nat _
                exact L114 nn0 0 m1 V1 (by omega) (by omega) (kK) (kA) hnn0
          obtain ⟨nn0, hnn0⟩ : ∃ nn0 : Nat, (w0 - 0) < (nn0 : Int) := z_nat _
          exact L104 nn0 0 0 RR (by omega) (by omega) (fun _ _ _ => rfl) (al_0 nq_00) hnn0
    refine g_lv (lv' := [(3, .int (iI 0)), (2, .int (iI (bI lq))), (1, .int (iI ww)), (0, .ref m0)]) [0, 3, 2, 1] rfl ?_
    refine g_wide (k := 0) (n := 0) (Nat.le_of_ble_eq_true rfl) (Nat.le_of_ble_eq_true rfl) ?_
    obtain ⟨nn0, hnn0⟩ : ∃ nn0 : Nat, (((n : Nat) : Int) - ((0 : Nat) : Int)) < (nn0 : Int) := z_nat _
    exact L82 nn0 0 (uZ VV 0 12884901888000) 1 0 1 0 (by omega) (⟨rfl, uZ_s, rfl, rfl, rfl⟩) (by omega) hnn0
  · refine g_ldc C (z := (-2000000)) (List.mem_cons_of_mem _ kw_3_188) (by decide) std_M_narrow_15 ?_
    refine g_wide (k := 0) (n := 0) (Nat.le_of_ble_eq_true rfl) (Nat.le_of_ble_eq_true rfl) ?_
    exact hret _ _ _ (VV, wd, mg, mw, mc, (-2000000)) (Or.inr ⟨by omega, rfl, rfl⟩) std_M_narrow_17

