/-! the model: follow -/
abbrev sty_M_follow : MethodName := ⟨"StateTablesModel", "follow", "(IIII)V"⟩
abbrev stc_M_follow : ByteArray := prog_7_method_37_code
theorem sth_M_follow : (sty_M_follow).cls ≠ "java/lang/invoke/MethodHandle" ∧ (sty_M_follow).cls ≠ "java/lang/invoke/VarHandle" ∧ (parseMethodDescriptor (sty_M_follow).desc).map (fun d => d.parameters.length) = some 4 := by decide +kernel
theorem std_M_follow_0 : decode stc_M_follow 0 = .ok (.iload 4, 2) := by decide +kernel
theorem std_M_follow_2 : decode stc_M_follow 2 = .ok (.aload_n 0, 1) := by decide +kernel
theorem std_M_follow_3 : decode stc_M_follow 3 = .ok (.getfield 175, 3) := by decide +kernel
theorem kw_3_98 : Cond.fieldLink "StateTablesModel" 175 "StateTablesModel" "wide" "I" ∈ stGW := st_t3 (List.mem_of_getElem? (i := 98) (by decide +kernel)) (by decide +kernel)
theorem std_M_follow_6 : decode stc_M_follow 6 = .ok (.iadd, 1) := by decide +kernel
theorem std_M_follow_7 : decode stc_M_follow 7 = .ok (.istore 5, 2) := by decide +kernel
theorem std_M_follow_9 : decode stc_M_follow 9 = .ok (.bipush 6, 2) := by decide +kernel
theorem std_M_follow_11 : decode stc_M_follow 11 = .ok (.iload_n 2, 1) := by decide +kernel
theorem std_M_follow_12 : decode stc_M_follow 12 = .ok (.imul, 1) := by decide +kernel
theorem std_M_follow_13 : decode stc_M_follow 13 = .ok (.iload_n 3, 1) := by decide +kernel
theorem std_M_follow_14 : decode stc_M_follow 14 = .ok (.iadd, 1) := by decide +kernel
theorem std_M_follow_15 : decode stc_M_follow 15 = .ok (.istore 6, 2) := by decide +kernel
theorem std_M_follow_17 : decode stc_M_follow 17 = .ok (.aload_n 0, 1) := by decide +kernel
theorem std_M_follow_18 : decode stc_M_follow 18 = .ok (.getfield 74, 3) := by decide +kernel
theorem std_M_follow_21 : decode stc_M_follow 21 = .ok (.iload 5, 2) := by decide +kernel
theorem std_M_follow_23 : decode stc_M_follow 23 = .ok (.aload_n 0, 1) := by decide +kernel
theorem std_M_follow_24 : decode stc_M_follow 24 = .ok (.getfield 74, 3) := by decide +kernel
theorem std_M_follow_27 : decode stc_M_follow 27 = .ok (.iload_n 1, 1) := by decide +kernel
theorem std_M_follow_28 : decode stc_M_follow 28 = .ok (.iaload, 1) := by decide +kernel
theorem std_M_follow_29 : decode stc_M_follow 29 = .ok (.aload_n 0, 1) := by decide +kernel
theorem std_M_follow_30 : decode stc_M_follow 30 = .ok (.getfield 20, 3) := by decide +kernel
theorem std_M_follow_33 : decode stc_M_follow 33 = .ok (.iload 6, 2) := by decide +kernel
theorem std_M_follow_35 : decode stc_M_follow 35 = .ok (.iaload, 1) := by decide +kernel
theorem std_M_follow_36 : decode stc_M_follow 36 = .ok (.iadd, 1) := by decide +kernel
theorem std_M_follow_37 : decode stc_M_follow 37 = .ok (.iastore, 1) := by decide +kernel
theorem std_M_follow_38 : decode stc_M_follow 38 = .ok (.aload_n 0, 1) := by decide +kernel
theorem std_M_follow_39 : decode stc_M_follow 39 = .ok (.getfield 77, 3) := by decide +kernel
theorem std_M_follow_42 : decode stc_M_follow 42 = .ok (.iload 5, 2) := by decide +kernel
theorem std_M_follow_44 : decode stc_M_follow 44 = .ok (.aload_n 0, 1) := by decide +kernel
theorem std_M_follow_45 : decode stc_M_follow 45 = .ok (.getfield 77, 3) := by decide +kernel
theorem std_M_follow_48 : decode stc_M_follow 48 = .ok (.iload_n 1, 1) := by decide +kernel
theorem std_M_follow_49 : decode stc_M_follow 49 = .ok (.iaload, 1) := by decide +kernel
theorem std_M_follow_50 : decode stc_M_follow 50 = .ok (.aload_n 0, 1) := by decide +kernel
theorem std_M_follow_51 : decode stc_M_follow 51 = .ok (.getfield 23, 3) := by decide +kernel
theorem std_M_follow_54 : decode stc_M_follow 54 = .ok (.iload 6, 2) := by decide +kernel
theorem std_M_follow_56 : decode stc_M_follow 56 = .ok (.iaload, 1) := by decide +kernel
theorem std_M_follow_57 : decode stc_M_follow 57 = .ok (.iadd, 1) := by decide +kernel
theorem std_M_follow_58 : decode stc_M_follow 58 = .ok (.iastore, 1) := by decide +kernel
theorem std_M_follow_59 : decode stc_M_follow 59 = .ok (.aload_n 0, 1) := by decide +kernel
theorem std_M_follow_60 : decode stc_M_follow 60 = .ok (.getfield 74, 3) := by decide +kernel
theorem std_M_follow_63 : decode stc_M_follow 63 = .ok (.iload 5, 2) := by decide +kernel
theorem std_M_follow_65 : decode stc_M_follow 65 = .ok (.iaload, 1) := by decide +kernel
theorem std_M_follow_66 : decode stc_M_follow 66 = .ok (.aload_n 0, 1) := by decide +kernel
theorem std_M_follow_67 : decode stc_M_follow 67 = .ok (.getfield 30, 3) := by decide +kernel
theorem std_M_follow_70 : decode stc_M_follow 70 = .ok (.if_icmp .gt 17, 3) := by decide +kernel
theorem std_M_follow_87 : decode stc_M_follow 87 = .ok (.return_, 1) := by decide +kernel
theorem std_M_follow_73 : decode stc_M_follow 73 = .ok (.aload_n 0, 1) := by decide +kernel
theorem std_M_follow_74 : decode stc_M_follow 74 = .ok (.getfield 77, 3) := by decide +kernel
theorem std_M_follow_77 : decode stc_M_follow 77 = .ok (.iload 5, 2) := by decide +kernel
theorem std_M_follow_79 : decode stc_M_follow 79 = .ok (.iaload, 1) := by decide +kernel
theorem std_M_follow_80 : decode stc_M_follow 80 = .ok (.aload_n 0, 1) := by decide +kernel
theorem std_M_follow_81 : decode stc_M_follow 81 = .ok (.getfield 33, 3) := by decide +kernel
theorem std_M_follow_84 : decode stc_M_follow 84 = .ok (.if_icmp .le 4, 3) := by decide +kernel
theorem std_M_follow_221 : decode stc_M_follow 221 = .ok (.iload 7, 2) := by decide +kernel
theorem std_M_follow_223 : decode stc_M_follow 223 = .ok (.iload 5, 2) := by decide +kernel
theorem std_M_follow_225 : decode stc_M_follow 225 = .ok (.if_icmp .ge 62, 3) := by decide +kernel
theorem std_M_follow_287 : decode stc_M_follow 287 = .ok (.aload_n 0, 1) := by decide +kernel
theorem std_M_follow_288 : decode stc_M_follow 288 = .ok (.dup, 1) := by decide +kernel
theorem std_M_follow_289 : decode stc_M_follow 289 = .ok (.getfield 175, 3) := by decide +kernel
theorem std_M_follow_292 : decode stc_M_follow 292 = .ok (.iconst 1, 1) := by decide +kernel
theorem std_M_follow_293 : decode stc_M_follow 293 = .ok (.iadd, 1) := by decide +kernel
theorem std_M_follow_294 : decode stc_M_follow 294 = .ok (.putfield 175, 3) := by decide +kernel
theorem std_M_follow_297 : decode stc_M_follow 297 = .ok (.return_, 1) := by decide +kernel
theorem std_M_follow_228 : decode stc_M_follow 228 = .ok (.aload_n 0, 1) := by decide +kernel
theorem std_M_follow_229 : decode stc_M_follow 229 = .ok (.iload 7, 2) := by decide +kernel
theorem std_M_follow_231 : decode stc_M_follow 231 = .ok (.iload 5, 2) := by decide +kernel
theorem std_M_follow_233 : decode stc_M_follow 233 = .ok (.invokevirtual 178, 3) := by decide +kernel
theorem kw_4_74 : Cond.code sty_M_isOne stc_M_isOne 3 (some .boolean) ∈ stGW := st_t4 (List.mem_of_getElem? (i := 74) (by decide +kernel)) (by decide +kernel)
theorem kw_4_71 : Cond.methodLink "StateTablesModel" 178 (sty_M_isOne) ∈ stGW := st_t4 (List.mem_of_getElem? (i := 71) (by decide +kernel)) (by decide +kernel)
theorem kw_4_73 : Cond.instanceMethod (sty_M_isOne) ∈ stGW := st_t4 (List.mem_of_getElem? (i := 73) (by decide +kernel)) (by decide +kernel)
theorem kw_0_30 : Cond.selects "StateTablesModel" (sty_M_isOne) (sty_M_isOne) ∈ stGW := st_t0 (List.mem_of_getElem? (i := 30) (by decide +kernel)) (by decide +kernel)
theorem std_M_follow_236 : decode stc_M_follow 236 = .ok (.ifCond .eq 45, 3) := by decide +kernel
theorem std_M_follow_281 : decode stc_M_follow 281 = .ok (.iinc 7 1, 3) := by decide +kernel
theorem std_M_follow_284 : decode stc_M_follow 284 = .ok (.goto (-63), 3) := by decide +kernel
theorem std_M_follow_239 : decode stc_M_follow 239 = .ok (.aload_n 0, 1) := by decide +kernel
theorem std_M_follow_240 : decode stc_M_follow 240 = .ok (.getfield 89, 3) := by decide +kernel
theorem std_M_follow_243 : decode stc_M_follow 243 = .ok (.iload 7, 2) := by decide +kernel
theorem std_M_follow_245 : decode stc_M_follow 245 = .ok (.aload_n 0, 1) := by decide +kernel
theorem std_M_follow_246 : decode stc_M_follow 246 = .ok (.getfield 89, 3) := by decide +kernel
theorem std_M_follow_249 : decode stc_M_follow 249 = .ok (.iload 5, 2) := by decide +kernel
theorem std_M_follow_251 : decode stc_M_follow 251 = .ok (.iaload, 1) := by decide +kernel
theorem std_M_follow_252 : decode stc_M_follow 252 = .ok (.aload_n 0, 1) := by decide +kernel
theorem std_M_follow_253 : decode stc_M_follow 253 = .ok (.getfield 89, 3) := by decide +kernel
theorem std_M_follow_256 : decode stc_M_follow 256 = .ok (.iload 7, 2) := by decide +kernel
theorem std_M_follow_258 : decode stc_M_follow 258 = .ok (.iaload, 1) := by decide +kernel
theorem std_M_follow_259 : decode stc_M_follow 259 = .ok (.if_icmp .ge 13, 3) := by decide +kernel
theorem std_M_follow_272 : decode stc_M_follow 272 = .ok (.aload_n 0, 1) := by decide +kernel
theorem std_M_follow_273 : decode stc_M_follow 273 = .ok (.getfield 89, 3) := by decide +kernel
theorem std_M_follow_276 : decode stc_M_follow 276 = .ok (.iload 7, 2) := by decide +kernel
theorem std_M_follow_278 : decode stc_M_follow 278 = .ok (.iaload, 1) := by decide +kernel
theorem std_M_follow_279 : decode stc_M_follow 279 = .ok (.iastore, 1) := by decide +kernel
theorem std_M_follow_280 : decode stc_M_follow 280 = .ok (.return_, 1) := by decide +kernel
theorem std_M_follow_262 : decode stc_M_follow 262 = .ok (.aload_n 0, 1) := by decide +kernel
theorem std_M_follow_263 : decode stc_M_follow 263 = .ok (.getfield 89, 3) := by decide +kernel
theorem std_M_follow_266 : decode stc_M_follow 266 = .ok (.iload 5, 2) := by decide +kernel
theorem std_M_follow_268 : decode stc_M_follow 268 = .ok (.iaload, 1) := by decide +kernel
theorem std_M_follow_269 : decode stc_M_follow 269 = .ok (.goto 10, 3) := by decide +kernel
theorem std_M_follow_88 : decode stc_M_follow 88 = .ok (.aload_n 0, 1) := by decide +kernel
theorem std_M_follow_89 : decode stc_M_follow 89 = .ok (.getfield 80, 3) := by decide +kernel
theorem std_M_follow_92 : decode stc_M_follow 92 = .ok (.iload 5, 2) := by decide +kernel
theorem std_M_follow_94 : decode stc_M_follow 94 = .ok (.aload_n 0, 1) := by decide +kernel
theorem std_M_follow_95 : decode stc_M_follow 95 = .ok (.getfield 80, 3) := by decide +kernel
theorem std_M_follow_98 : decode stc_M_follow 98 = .ok (.iload_n 1, 1) := by decide +kernel
theorem std_M_follow_99 : decode stc_M_follow 99 = .ok (.iaload, 1) := by decide +kernel
theorem std_M_follow_100 : decode stc_M_follow 100 = .ok (.aload_n 0, 1) := by decide +kernel
theorem std_M_follow_101 : decode stc_M_follow 101 = .ok (.getfield 20, 3) := by decide +kernel
theorem std_M_follow_104 : decode stc_M_follow 104 = .ok (.iload 6, 2) := by decide +kernel
theorem std_M_follow_106 : decode stc_M_follow 106 = .ok (.iaload, 1) := by decide +kernel
theorem std_M_follow_107 : decode stc_M_follow 107 = .ok (.iadd, 1) := by decide +kernel
theorem std_M_follow_108 : decode stc_M_follow 108 = .ok (.aload_n 0, 1) := by decide +kernel
theorem std_M_follow_109 : decode stc_M_follow 109 = .ok (.getfield 30, 3) := by decide +kernel
theorem std_M_follow_112 : decode stc_M_follow 112 = .ok (.if_icmp .le 10, 3) := by decide +kernel
theorem std_M_follow_122 : decode stc_M_follow 122 = .ok (.aload_n 0, 1) := by decide +kernel
theorem std_M_follow_123 : decode stc_M_follow 123 = .ok (.getfield 80, 3) := by decide +kernel
theorem std_M_follow_126 : decode stc_M_follow 126 = .ok (.iload_n 1, 1) := by decide +kernel
theorem std_M_follow_127 : decode stc_M_follow 127 = .ok (.iaload, 1) := by decide +kernel
theorem std_M_follow_128 : decode stc_M_follow 128 = .ok (.aload_n 0, 1) := by decide +kernel
theorem std_M_follow_129 : decode stc_M_follow 129 = .ok (.getfield 20, 3) := by decide +kernel
theorem std_M_follow_132 : decode stc_M_follow 132 = .ok (.iload 6, 2) := by decide +kernel
theorem std_M_follow_134 : decode stc_M_follow 134 = .ok (.iaload, 1) := by decide +kernel
theorem std_M_follow_135 : decode stc_M_follow 135 = .ok (.iadd, 1) := by decide +kernel
theorem std_M_follow_136 : decode stc_M_follow 136 = .ok (.iastore, 1) := by decide +kernel
theorem std_M_follow_137 : decode stc_M_follow 137 = .ok (.aload_n 0, 1) := by decide +kernel
theorem std_M_follow_138 : decode stc_M_follow 138 = .ok (.getfield 83, 3) := by decide +kernel
theorem std_M_follow_141 : decode stc_M_follow 141 = .ok (.iload 5, 2) := by decide +kernel
theorem std_M_follow_143 : decode stc_M_follow 143 = .ok (.aload_n 0, 1) := by decide +kernel
theorem std_M_follow_144 : decode stc_M_follow 144 = .ok (.getfield 83, 3) := by decide +kernel
theorem std_M_follow_147 : decode stc_M_follow 147 = .ok (.iload_n 1, 1) := by decide +kernel
theorem std_M_follow_148 : decode stc_M_follow 148 = .ok (.iaload, 1) := by decide +kernel
theorem std_M_follow_149 : decode stc_M_follow 149 = .ok (.aload_n 0, 1) := by decide +kernel
theorem std_M_follow_150 : decode stc_M_follow 150 = .ok (.getfield 23, 3) := by decide +kernel
theorem std_M_follow_153 : decode stc_M_follow 153 = .ok (.iload 6, 2) := by decide +kernel
theorem std_M_follow_155 : decode stc_M_follow 155 = .ok (.iaload, 1) := by decide +kernel
theorem std_M_follow_156 : decode stc_M_follow 156 = .ok (.iadd, 1) := by decide +kernel
theorem std_M_follow_157 : decode stc_M_follow 157 = .ok (.aload_n 0, 1) := by decide +kernel
theorem std_M_follow_158 : decode stc_M_follow 158 = .ok (.getfield 33, 3) := by decide +kernel
theorem std_M_follow_161 : decode stc_M_follow 161 = .ok (.if_icmp .le 10, 3) := by decide +kernel
theorem std_M_follow_171 : decode stc_M_follow 171 = .ok (.aload_n 0, 1) := by decide +kernel
theorem std_M_follow_172 : decode stc_M_follow 172 = .ok (.getfield 83, 3) := by decide +kernel
theorem std_M_follow_175 : decode stc_M_follow 175 = .ok (.iload_n 1, 1) := by decide +kernel
theorem std_M_follow_176 : decode stc_M_follow 176 = .ok (.iaload, 1) := by decide +kernel
theorem std_M_follow_177 : decode stc_M_follow 177 = .ok (.aload_n 0, 1) := by decide +kernel
theorem std_M_follow_178 : decode stc_M_follow 178 = .ok (.getfield 23, 3) := by decide +kernel
theorem std_M_follow_181 : decode stc_M_follow 181 = .ok (.iload 6, 2) := by decide +kernel
theorem std_M_follow_183 : decode stc_M_follow 183 = .ok (.iaload, 1) := by decide +kernel
theorem std_M_follow_184 : decode stc_M_follow 184 = .ok (.iadd, 1) := by decide +kernel
theorem std_M_follow_185 : decode stc_M_follow 185 = .ok (.iastore, 1) := by decide +kernel
theorem std_M_follow_186 : decode stc_M_follow 186 = .ok (.aload_n 0, 1) := by decide +kernel
theorem std_M_follow_187 : decode stc_M_follow 187 = .ok (.getfield 86, 3) := by decide +kernel
theorem std_M_follow_190 : decode stc_M_follow 190 = .ok (.iload 5, 2) := by decide +kernel
theorem std_M_follow_192 : decode stc_M_follow 192 = .ok (.iconst 1, 1) := by decide +kernel
theorem std_M_follow_193 : decode stc_M_follow 193 = .ok (.iload_n 3, 1) := by decide +kernel
theorem std_M_follow_194 : decode stc_M_follow 194 = .ok (.ishl, 1) := by decide +kernel
theorem std_M_follow_195 : decode stc_M_follow 195 = .ok (.iastore, 1) := by decide +kernel
theorem std_M_follow_196 : decode stc_M_follow 196 = .ok (.aload_n 0, 1) := by decide +kernel
theorem std_M_follow_197 : decode stc_M_follow 197 = .ok (.getfield 89, 3) := by decide +kernel
theorem std_M_follow_200 : decode stc_M_follow 200 = .ok (.iload 5, 2) := by decide +kernel
theorem std_M_follow_202 : decode stc_M_follow 202 = .ok (.aload_n 0, 1) := by decide +kernel
theorem std_M_follow_203 : decode stc_M_follow 203 = .ok (.getfield 89, 3) := by decide +kernel
theorem std_M_follow_206 : decode stc_M_follow 206 = .ok (.iload_n 1, 1) := by decide +kernel
theorem std_M_follow_207 : decode stc_M_follow 207 = .ok (.iaload, 1) := by decide +kernel
theorem std_M_follow_208 : decode stc_M_follow 208 = .ok (.aload_n 0, 1) := by decide +kernel
theorem std_M_follow_209 : decode stc_M_follow 209 = .ok (.getfield 17, 3) := by decide +kernel
theorem std_M_follow_212 : decode stc_M_follow 212 = .ok (.iload 6, 2) := by decide +kernel
theorem std_M_follow_214 : decode stc_M_follow 214 = .ok (.iaload, 1) := by decide +kernel
theorem std_M_follow_215 : decode stc_M_follow 215 = .ok (.iadd, 1) := by decide +kernel
theorem std_M_follow_216 : decode stc_M_follow 216 = .ok (.iastore, 1) := by decide +kernel
theorem std_M_follow_217 : decode stc_M_follow 217 = .ok (.iload 4, 2) := by decide +kernel
theorem std_M_follow_219 : decode stc_M_follow 219 = .ok (.istore 7, 2) := by decide +kernel
theorem std_M_follow_164 : decode stc_M_follow 164 = .ok (.aload_n 0, 1) := by decide +kernel
theorem std_M_follow_165 : decode stc_M_follow 165 = .ok (.getfield 33, 3) := by decide +kernel
theorem std_M_follow_168 : decode stc_M_follow 168 = .ok (.goto 17, 3) := by decide +kernel
theorem std_M_follow_115 : decode stc_M_follow 115 = .ok (.aload_n 0, 1) := by decide +kernel
theorem std_M_follow_116 : decode stc_M_follow 116 = .ok (.getfield 30, 3) := by decide +kernel
theorem std_M_follow_119 : decode stc_M_follow 119 = .ok (.goto 17, 3) := by decide +kernel
set_option maxHeartbeats 4000000 in
set_option maxRecDepth 100000 in
theorem c_m_follow (l : Launch) (dC : Nat → ClassId) (dI : Nat → Nat → Nat) (cI cJ cZ : ClassId) (m0 : Nat) (k_ch : Nat) (k_co : Nat) (k_ua : Nat) (k_ub : Nat) (k_ba : Nat) (k_rt : Nat) (k_rf : Nat) (k_ct : Nat) (k_cf : Nat) (k_nd : Nat) (k_na : Nat) (k_no : Nat) (k_bt : Nat) (k_bc : Nat) (k_br : Nat) (k_pc : Nat) (k_pr : Nat) (k_la : Nat) (k_lb : Nat) (k_ha : Nat) (k_hb : Nat) (k_ls : Nat) (k_wc : Nat) (HM : Prop) (bg : Int) (pn : Int) (wd : Int) (mg : Int) (mw : Int) (mc : Int) (steps : Int) (fle : Int → Int) (VV : Int → Int) (fsz : Int → Int) (fco : Int → Int) (ffu : Int → Int) (fsu : Int → Int) (fbb : Int → Int) (fmo : Int → Int) (k : Int) (sd : Int) (cc : Int) (fr : Int) (dd : Int) (d2 : Int) (kT : TB fsz fco ffu fsu fbb fmo) (kx : 0 ≤ k ∧ k < fr) (kfr : 0 ≤ fr ∧ 0 ≤ wd ∧ fr + wd < 799) (ks : 0 ≤ sd ∧ sd < 12) (kc : 0 ≤ cc ∧ cc < 6) (kR : WN dd (VV k)) (kV : ∀ j, fr ≤ j → j < fr + wd → WN d2 (VV j)) (kdd : dd ≤ 12000 ∧ d2 ≤ 12000) : ∀ sz, Met l sty_M_follow (Cond.code sty_M_follow stc_M_follow 8 none :: stGW) ({ frames := 1, cells := 0, slots := 0, locals := 22 } : Room) (va_Pc [.ref m0, .int (iI k), .int (iI sd), .int (iI cc), .int (iI fr)] (zPre (dC, dI) stCl [(cI, .int), (cJ, .long), (cZ, .boolean)] st_nw [(m0, .inr (5, [.int (iI 0), .int (iI steps), .ref k_ch, .ref k_co, .ref k_ua, .ref k_ub, .ref k_ba, .int (iI (fle 0)), .int (iI (fle 1)), .int (iI (fmo 0)), .int (iI (fmo 1)), .int (iI (bI HM)), .ref k_rt, .ref k_rf, .ref k_ct, .ref k_cf, .ref k_nd, .ref k_na, .ref k_no, .ref k_bt, .ref k_bc, .ref k_br, .int (iI bg), .int (iI pn), .ref k_pc, .ref k_pr, .ref k_la, .ref k_lb, .ref k_ha, .ref k_hb, .ref k_ls, .ref k_wc, .int (iI wd), .int (iI mg), .int (iI mw), .int (iI mc)])), (k_la, .inl (cI, aI 800 (fA VV))), (k_lb, .inl (cI, aI 800 (fB VV))), (k_ha, .inl (cI, aI 800 (fC VV))), (k_hb, .inl (cI, aI 800 (fD VV))), (k_ls, .inl (cI, aI 800 (fL VV))), (k_wc, .inl (cI, aI 800 (fW VV))), (k_ua, .inl (cI, aI 78 ffu)), (k_ub, .inl (cI, aI 78 fsu)), (k_co, .inl (cI, aI 78 fco))] sz)) (va_Qv (fun (u : (Int → Int) × Int) => MF fco ffu fsu fmo VV fr wd k ((sd * 6) + cc) cc u.1 u.2) (zPost (dC, dI) stCl [(cI, .int), (cJ, .long), (cZ, .boolean)] [(m0, .inr (5, [.int (iI 0), .int (iI steps), .ref k_ch, .ref k_co, .ref k_ua, .ref k_ub, .ref k_ba, .int (iI (fle 0)), .int (iI (fle 1)), .int (iI (fmo 0)), .int (iI (fmo 1)), .int (iI (bI HM)), .ref k_rt, .ref k_rf, .ref k_ct, .ref k_cf, .ref k_nd, .ref k_na, .ref k_no, .ref k_bt, .ref k_bc, .ref k_br, .int (iI bg), .int (iI pn), .ref k_pc, .ref k_pr, .ref k_la, .ref k_lb, .ref k_ha, .ref k_hb, .ref k_ls, .ref k_wc, .int (iI wd), .int (iI mg), .int (iI mw), .int (iI mc)])), (k_la, .inl (cI, aI 800 (fA VV))), (k_lb, .inl (cI, aI 800 (fB VV))), (k_ha, .inl (cI, aI 800 (fC VV))), (k_hb, .inl (cI, aI 800 (fD VV))), (k_ls, .inl (cI, aI 800 (fL VV))), (k_wc, .inl (cI, aI 800 (fW VV))), (k_ua, .inl (cI, aI 78 ffu)), (k_ub, .inl (cI, aI 78 fsu)), (k_co, .inl (cI, aI 78 fco))] sz (fun u : (Int → Int) × Int => [(m0, .inr (5, [.int (iI 0), .int (iI steps), .ref k_ch, .ref k_co, .ref k_ua, .ref k_ub, .ref k_ba, .int (iI (fle 0)), .int (iI (fle 1)), .int (iI (fmo 0)), .int (iI (fmo 1)), .int (iI (bI HM)), .ref k_rt, .ref k_rf, .ref k_ct, .ref k_cf, .ref k_nd, .ref k_na, .ref k_no, .ref k_bt, .ref k_bc, .ref k_br, .int (iI bg), .int (iI pn), .ref k_pc, .ref k_pr, .ref k_la, .ref k_lb, .ref k_ha, .ref k_hb, .ref k_ls, .ref k_wc, .int (iI (u.2)), .int (iI mg), .int (iI mw), .int (iI mc)])), (k_la, .inl (cI, aI 800 (fA (u.1)))), (k_lb, .inl (cI, aI 800 (fB (u.1)))), (k_ha, .inl (cI, aI 800 (fC (u.1)))), (k_hb, .inl (cI, aI 800 (fD (u.1)))), (k_ls, .inl (cI, aI 800 (fL (u.1)))), (k_wc, .inl (cI, aI 800 (fW (u.1)))), (k_ua, .inl (cI, aI 78 ffu)), (k_ub, .inl (cI, aI 78 fsu)), (k_co, .inl (cI, aI 78 fco))])) (va_A [(m0, .inr (5, [.int (iI 0), .int (iI steps), .ref k_ch, .ref k_co, .ref k_ua, .ref k_ub, .ref k_ba, .int (iI (fle 0)), .int (iI (fle 1)), .int (iI (fmo 0)), .int (iI (fmo 1)), .int (iI (bI HM)), .ref k_rt, .ref k_rf, .ref k_ct, .ref k_cf, .ref k_nd, .ref k_na, .ref k_no, .ref k_bt, .ref k_bc, .ref k_br, .int (iI bg), .int (iI pn), .ref k_pc, .ref k_pr, .ref k_la, .ref k_lb, .ref k_ha, .ref k_hb, .ref k_ls, .ref k_wc, .int (iI wd), .int (iI mg), .int (iI mw), .int (iI mc)])), (k_la, .inl (cI, aI 800 (fA VV))), (k_lb, .inl (cI, aI 800 (fB VV))), (k_ha, .inl (cI, aI 800 (fC VV))), (k_hb, .inl (cI, aI 800 (fD VV))), (k_ls, .inl (cI, aI 800 (fL VV))), (k_wc, .inl (cI, aI 800 (fW VV))), (k_ua, .inl (cI, aI 78 ffu)), (k_ub, .inl (cI, aI 78 fsu)), (k_co, .inl (cI, aI 78 fco))] sz)) 0 0 (va_A [(m0, .inr (5, [.int (iI 0), .int (iI steps), .ref k_ch, .ref k_co, .ref k_ua, .ref k_ub, .ref k_ba, .int (iI (fle 0)), .int (iI (fle 1)), .int (iI (fmo 0)), .int (iI (fmo 1)), .int (iI (bI HM)), .ref k_rt, .ref k_rf, .ref k_ct, .ref k_cf, .ref k_nd, .ref k_na, .ref k_no, .ref k_bt, .ref k_bc, .ref k_br, .int (iI bg), .int (iI pn), .ref k_pc, .ref k_pr, .ref k_la, .ref k_lb, .ref k_ha, .ref k_hb, .ref k_ls, .ref k_wc, .int (iI wd), .int (iI mg), .int (iI mw), .int (iI mc)])), (k_la, .inl (cI, aI 800 (fA VV))), (k_lb, .inl (cI, aI 800 (fB VV))), (k_ha, .inl (cI, aI 800 (fC VV))), (k_hb, .inl (cI, aI 800 (fD VV))), (k_ls, .inl (cI, aI 800 (fL VV))), (k_wc, .inl (cI, aI 800 (fW VV))), (k_ua, .inl (cI, aI 78 ffu)), (k_ub, .inl (cI, aI 78 fsu)), (k_co, .inl (cI, aI 78 fco))] sz) := by
  refine met_v (by decide) rfl (Nat.le_of_ble_eq_true rfl) ?_
  intro p e s m below meth c A Q C hmn hret
  refine g_iload C 4 std_M_follow_0 rfl ?_
  refine g_aload_n C 0 std_M_follow_2 rfl ?_
  refine g_get C (st_sub sti_M) 0 rfl rfl 32 (by decide) (List.mem_cons_of_mem _ kw_3_98) rfl rfl std_M_follow_3 ?_
  refine g_iadd C std_M_follow_6 ?_
  refine g_istore C (lv' := [(5, .int (iI (fr + wd))), (0, .ref m0), (1, .int (iI k)), (2, .int (iI sd)), (3, .int (iI cc)), (4, .int (iI fr))]) std_M_follow_7 (by decide) rfl ?_
  have hm := m6 (R := VV) (k := k)
  have hw := wn_m kR
  have hT1 := kT.2.1 ((sd * 6) + cc) (by omega) (by omega)
  have hT2 := kT.2.2.1 ((sd * 6) + cc) (by omega) (by omega)
  have hT3 := kT.2.2.2 0 (by omega) (by omega)
  have hT4 := kT.2.2.2 1 (by omega) (by omega)
  have hfu : ffu ((6 * sd) + cc) = ffu ((sd * 6) + cc) := by rw [Int.mul_comm 6]
  have hfs : fsu ((6 * sd) + cc) = fsu ((sd * 6) + cc) := by rw [Int.mul_comm 6]
  have hfc : fco ((6 * sd) + cc) = fco ((sd * 6) + cc) := by rw [Int.mul_comm 6]
  have h2c := pw6 cc.toNat (by omega)
  refine g_bipush C std_M_follow_9 (by decide) ?_
  refine g_iload_n C 3 std_M_follow_11 rfl ?_
  refine g_imul C std_M_follow_12 ?_
  refine g_iload_n C 4 std_M_follow_13 rfl ?_
  refine g_iadd C std_M_follow_14 ?_
  refine g_istore C (lv' := [(6, .int (iI ((6 * sd) + cc))), (5, .int (iI (fr + wd))), (0, .ref m0), (1, .int (iI k)), (2, .int (iI sd)), (3, .int (iI cc)), (4, .int (iI fr))]) std_M_follow_15 (by decide) rfl ?_
  refine g_aload_n C 2 std_M_follow_17 rfl ?_
  refine g_get C (st_sub sti_M) 0 rfl rfl 26 (by decide) (List.mem_cons_of_mem _ kw_3_92) rfl rfl std_M_follow_18 ?_
  refine g_iload C 1 std_M_follow_21 rfl ?_
  refine g_aload_n C 2 std_M_follow_23 rfl ?_
  refine g_get C (st_sub sti_M) 0 rfl rfl 26 (by decide) (List.mem_cons_of_mem _ kw_3_92) rfl rfl std_M_follow_24 ?_
  refine g_iload_n C 3 std_M_follow_27 rfl ?_
  refine g_iald C 1 0 rfl rfl (by omega) (by omega) (by omega) std_M_follow_28 ?_
  refine g_aload_n C 2 std_M_follow_29 rfl ?_
  refine g_get C (st_sub sti_M) 0 rfl rfl 4 (by decide) (List.mem_cons_of_mem _ kw_3_70) rfl rfl std_M_follow_30 ?_
  refine g_iload C 0 std_M_follow_33 rfl ?_
  refine g_iald C 7 0 rfl rfl (by omega) (by omega) (by omega) std_M_follow_35 ?_
  refine g_iadd C std_M_follow_36 ?_
  refine g_iast C (ws' := [(m0, .inr (5, [.int (iI 0), .int (iI steps), .ref k_ch, .ref k_co, .ref k_ua, .ref k_ub, .ref k_ba, .int (iI (fle 0)), .int (iI (fle 1)), .int (iI (fmo 0)), .int (iI (fmo 1)), .int (iI (bI HM)), .ref k_rt, .ref k_rf, .ref k_ct, .ref k_cf, .ref k_nd, .ref k_na, .ref k_no, .ref k_bt, .ref k_bc, .ref k_br, .int (iI bg), .int (iI pn), .ref k_pc, .ref k_pr, .ref k_la, .ref k_lb, .ref k_ha, .ref k_hb, .ref k_ls, .ref k_wc, .int (iI wd), .int (iI mg), .int (iI mw), .int (iI mc)])), (k_la, .inl (cI, aI 800 (uZ (fA VV) (fr + wd) (((fA VV) k) + (ffu ((6 * sd) + cc)))))), (k_lb, .inl (cI, aI 800 (fB VV))), (k_ha, .inl (cI, aI 800 (fC VV))), (k_hb, .inl (cI, aI 800 (fD VV))), (k_ls, .inl (cI, aI 800 (fL VV))), (k_wc, .inl (cI, aI 800 (fW VV))), (k_ua, .inl (cI, aI 78 ffu)), (k_ub, .inl (cI, aI 78 fsu)), (k_co, .inl (cI, aI 78 fco))]) 1 0 rfl rfl (by omega) (by omega) (by omega) std_M_follow_37 rfl ?_
  refine g_aload_n C 2 std_M_follow_38 rfl ?_
  refine g_get C (st_sub sti_M) 0 rfl rfl 27 (by decide) (List.mem_cons_of_mem _ kw_3_93) rfl rfl std_M_follow_39 ?_
  refine g_iload C 1 std_M_follow_42 rfl ?_
  refine g_aload_n C 2 std_M_follow_44 rfl ?_
  refine g_get C (st_sub sti_M) 0 rfl rfl 27 (by decide) (List.mem_cons_of_mem _ kw_3_93) rfl rfl std_M_follow_45 ?_
  refine g_iload_n C 3 std_M_follow_48 rfl ?_
  refine g_iald C 2 0 rfl rfl (by omega) (by omega) (by omega) std_M_follow_49 ?_
  refine g_aload_n C 2 std_M_follow_50 rfl ?_
  refine g_get C (st_sub sti_M) 0 rfl rfl 5 (by decide) (List.mem_cons_of_mem _ kw_3_71) rfl rfl std_M_follow_51 ?_
  refine g_iload C 0 std_M_follow_54 rfl ?_
  refine g_iald C 8 0 rfl rfl (by omega) (by omega) (by omega) std_M_follow_56 ?_
  refine g_iadd C std_M_follow_57 ?_
  refine g_iast C (ws' := [(m0, .inr (5, [.int (iI 0), .int (iI steps), .ref k_ch, .ref k_co, .ref k_ua, .ref k_ub, .ref k_ba, .int (iI (fle 0)), .int (iI (fle 1)), .int (iI (fmo 0)), .int (iI (fmo 1)), .int (iI (bI HM)), .ref k_rt, .ref k_rf, .ref k_ct, .ref k_cf, .ref k_nd, .ref k_na, .ref k_no, .ref k_bt, .ref k_bc, .ref k_br, .int (iI bg), .int (iI pn), .ref k_pc, .ref k_pr, .ref k_la, .ref k_lb, .ref k_ha, .ref k_hb, .ref k_ls, .ref k_wc, .int (iI wd), .int (iI mg), .int (iI mw), .int (iI mc)])), (k_la, .inl (cI, aI 800 (uZ (fA VV) (fr + wd) (((fA VV) k) + (ffu ((6 * sd) + cc)))))), (k_lb, .inl (cI, aI 800 (uZ (fB VV) (fr + wd) (((fB VV) k) + (fsu ((6 * sd) + cc)))))), (k_ha, .inl (cI, aI 800 (fC VV))), (k_hb, .inl (cI, aI 800 (fD VV))), (k_ls, .inl (cI, aI 800 (fL VV))), (k_wc, .inl (cI, aI 800 (fW VV))), (k_ua, .inl (cI, aI 78 ffu)), (k_ub, .inl (cI, aI 78 fsu)), (k_co, .inl (cI, aI 78 fco))]) 2 0 rfl rfl (by omega) (by omega) (by omega) std_M_follow_58 rfl ?_
  refine g_aload_n C 2 std_M_follow_59 rfl ?_
  refine g_get C (st_sub sti_M) 0 rfl rfl 26 (by decide) (List.mem_cons_of_mem _ kw_3_92) rfl rfl std_M_follow_60 ?_
  refine g_iload C 1 std_M_follow_63 rfl ?_
  refine g_iald C 1 0 rfl rfl (by omega) (by omega) (by omega) std_M_follow_65 ?_
  refine g_st (st' := [.int (iI (((fA VV) k) + (ffu ((6 * sd) + cc))))]) (by rw [uZ_s]) ?_
  refine g_aload_n C 2 std_M_follow_66 rfl ?_
  refine g_get C (st_sub sti_M) 0 rfl rfl 9 (by decide) (List.mem_cons_of_mem _ kw_3_75) rfl rfl std_M_follow_67 ?_
  refine g_icmp_gt (tgt := 87) C std_M_follow_70 (by decide) ⟨by omega, by omega⟩ ⟨by omega, by omega⟩ (fun c1 => ?_) (fun c1 => ?_)
  · obtain ⟨EE, w1, w2, w3, w4, w5, w6⟩ := pw_2 (R := VV) (t := (fr + wd)) (z3 := (((fA VV) k) + (ffu ((6 * sd) + cc)))) (z4 := (((fB VV) k) + (fsu ((6 * sd) + cc)))) ⟨by omega, by omega⟩ ⟨by omega, by omega⟩
    refine g_ws (ws' := [(m0, .inr (5, [.int (iI 0), .int (iI steps), .ref k_ch, .ref k_co, .ref k_ua, .ref k_ub, .ref k_ba, .int (iI (fle 0)), .int (iI (fle 1)), .int (iI (fmo 0)), .int (iI (fmo 1)), .int (iI (bI HM)), .ref k_rt, .ref k_rf, .ref k_ct, .ref k_cf, .ref k_nd, .ref k_na, .ref k_no, .ref k_bt, .ref k_bc, .ref k_br, .int (iI bg), .int (iI pn), .ref k_pc, .ref k_pr, .ref k_la, .ref k_lb, .ref k_ha, .ref k_hb, .ref k_ls, .ref k_wc, .int (iI wd), .int (iI mg), .int (iI mw), .int (iI mc)])), (k_la, .inl (cI, aI 800 (fA (uZ VV (fr + wd) EE)))), (k_lb, .inl (cI, aI 800 (fB (uZ VV (fr + wd) EE)))), (k_ha, .inl (cI, aI 800 (fC (uZ VV (fr + wd) EE)))), (k_hb, .inl (cI, aI 800 (fD (uZ VV (fr + wd) EE)))), (k_ls, .inl (cI, aI 800 (fL (uZ VV (fr + wd) EE)))), (k_wc, .inl (cI, aI 800 (fW (uZ VV (fr + wd) EE)))), (k_ua, .inl (cI, aI 78 ffu)), (k_ub, .inl (cI, aI 78 fsu)), (k_co, .inl (cI, aI 78 fco))]) (by rw [w1, w2, w3, w4, w5, w6]) ?_
    exact hret _ _ ((uZ VV (fr + wd) EE), wd) (Or.inl ⟨by omega, rfl, fun j h => uZ_n (by omega)⟩) std_M_follow_87
  · refine g_aload_n C 2 std_M_follow_73 rfl ?_
    refine g_get C (st_sub sti_M) 0 rfl rfl 27 (by decide) (List.mem_cons_of_mem _ kw_3_93) rfl rfl std_M_follow_74 ?_
    refine g_iload C 1 std_M_follow_77 rfl ?_
    refine g_iald C 2 0 rfl rfl (by omega) (by omega) (by omega) std_M_follow_79 ?_
    refine g_st (st' := [.int (iI (((fB VV) k) + (fsu ((6 * sd) + cc))))]) (by rw [uZ_s]) ?_
    refine g_aload_n C 2 std_M_follow_80 rfl ?_
    refine g_get C (st_sub sti_M) 0 rfl rfl 10 (by decide) (List.mem_cons_of_mem _ kw_3_76) rfl rfl std_M_follow_81 ?_
    refine g_icmp_le (tgt := 88) C std_M_follow_84 (by decide) ⟨by omega, by omega⟩ ⟨by omega, by omega⟩ (fun c2 => ?_) (fun c2 => ?_)
    · have hfit : fA VV k + ffu ((sd * 6) + cc) ≤ fmo 0 ∧ fB VV k + fsu ((sd * 6) + cc) ≤ fmo 1 := ⟨by omega, by omega⟩
      have hE0c : (wfo fco ffu fsu fmo ((sd * 6) + cc) (2 ^ cc.toNat) (VV k)) / 1073741824 - 12000 = fW VV k + fco ((sd * 6) + cc) := wfo_c ⟨by omega, by omega⟩ ⟨by omega, by omega⟩ ⟨by omega, by omega⟩ ⟨by omega, by omega⟩ h2c
      have L221 : ∀ (nn221 : Nat) (x : Int), (fr ≤ x ∧ x ≤ (fr + wd)) → (∀ j, fr ≤ j → j < x → ¬ VV j % 1073741824 = (wfo fco ffu fsu fmo ((sd * 6) + cc) (2 ^ cc.toNat) (VV k)) % 1073741824) → ((fr + wd) - x) < (nn221 : Int) → G p l e ({ frames := 1, cells := 0, slots := 0, locals := 22 } : Room) s m ([.ref m0, .int (iI k), .int (iI sd), .int (iI cc), .int (iI fr)] : List Value).toArray below meth c (dC, dI) stCl 8 A 0 0 Q [(m0, .inr (5, [.int (iI 0), .int (iI steps), .ref k_ch, .ref k_co, .ref k_ua, .ref k_ub, .ref k_ba, .int (iI (fle 0)), .int (iI (fle 1)), .int (iI (fmo 0)), .int (iI (fmo 1)), .int (iI (bI HM)), .ref k_rt, .ref k_rf, .ref k_ct, .ref k_cf, .ref k_nd, .ref k_na, .ref k_no, .ref k_bt, .ref k_bc, .ref k_br, .int (iI bg), .int (iI pn), .ref k_pc, .ref k_pr, .ref k_la, .ref k_lb, .ref k_ha, .ref k_hb, .ref k_ls, .ref k_wc, .int (iI wd), .int (iI mg), .int (iI mw), .int (iI mc)])), (k_la, .inl (cI, aI 800 (fA (uZ VV (fr + wd) (wfo fco ffu fsu fmo ((sd * 6) + cc) (2 ^ cc.toNat) (VV k)))))), (k_lb, .inl (cI, aI 800 (fB (uZ VV (fr + wd) (wfo fco ffu fsu fmo ((sd * 6) + cc) (2 ^ cc.toNat) (VV k)))))), (k_ha, .inl (cI, aI 800 (fC (uZ VV (fr + wd) (wfo fco ffu fsu fmo ((sd * 6) + cc) (2 ^ cc.toNat) (VV k)))))), (k_hb, .inl (cI, aI 800 (fD (uZ VV (fr + wd) (wfo fco ffu fsu fmo ((sd * 6) + cc) (2 ^ cc.toNat) (VV k)))))), (k_ls, .inl (cI, aI 800 (fL (uZ VV (fr + wd) (wfo fco ffu fsu fmo ((sd * 6) + cc) (2 ^ cc.toNat) (VV k)))))), (k_wc, .inl (cI, aI 800 (fW (uZ VV (fr + wd) (wfo fco ffu fsu fmo ((sd * 6) + cc) (2 ^ cc.toNat) (VV k)))))), (k_ua, .inl (cI, aI 78 ffu)), (k_ub, .inl (cI, aI 78 fsu)), (k_co, .inl (cI, aI 78 fco))] 221 [(7, .int (iI x)), (5, .int (iI (fr + wd))), (6, .int (iI ((6 * sd) + cc))), (4, .int (iI fr)), (3, .int (iI cc)), (2, .int (iI sd)), (1, .int (iI k)), (0, .ref m0)] [] := by
        intro nn221
        induction nn221 with
        | zero =>
          intro x kx2 kJ hnn221
          exact absurd hnn221 (by omega)
        | succ nn221 ih221 =>
          intro x kx2 kJ hnn221
          refine g_iload C 0 std_M_follow_221 rfl ?_
          refine g_iload C 1 std_M_follow_223 rfl ?_
          refine g_icmp_ge (tgt := 287) C std_M_follow_225 (by decide) ⟨by omega, by omega⟩ ⟨by omega, by omega⟩ (fun c3 => ?_) (fun c3 => ?_)
          · refine g_aload_n C 7 std_M_follow_287 rfl ?_
            refine g_dup C std_M_follow_288 rfl ?_
            refine g_get C (st_sub sti_M) 0 rfl rfl 32 (by decide) (List.mem_cons_of_mem _ kw_3_98) rfl rfl std_M_follow_289 ?_
            refine g_iconst C std_M_follow_292 ?_
            refine g_iadd C std_M_follow_293 ?_
            refine g_put C (ws' := [(m0, .inr (5, [.int (iI 0), .int (iI steps), .ref k_ch, .ref k_co, .ref k_ua, .ref k_ub, .ref k_ba, .int (iI (fle 0)), .int (iI (fle 1)), .int (iI (fmo 0)), .int (iI (fmo 1)), .int (iI (bI HM)), .ref k_rt, .ref k_rf, .ref k_ct, .ref k_cf, .ref k_nd, .ref k_na, .ref k_no, .ref k_bt, .ref k_bc, .ref k_br, .int (iI bg), .int (iI pn), .ref k_pc, .ref k_pr, .ref k_la, .ref k_lb, .ref k_ha, .ref k_hb, .ref k_ls, .ref k_wc, .int (iI (wd + 1)), .int (iI mg), .int (iI mw), .int (iI mc)])), (k_la, .inl (cI, aI 800 (fA (uZ VV (fr + wd) (wfo fco ffu fsu fmo ((sd * 6) + cc) (2 ^ cc.toNat) (VV k)))))), (k_lb, .inl (cI, aI 800 (fB (uZ VV (fr + wd) (wfo fco ffu fsu fmo ((sd * 6) + cc) (2 ^ cc.toNat) (VV k)))))), (k_ha, .inl (cI, aI 800 (fC (uZ VV (fr + wd) (wfo fco ffu fsu fmo ((sd * 6) + cc) (2 ^ cc.toNat) (VV k)))))), (k_hb, .inl (cI, aI 800 (fD (uZ VV (fr + wd) (wfo fco ffu fsu fmo ((sd * 6) + cc) (2 ^ cc.toNat) (VV k)))))), (k_ls, .inl (cI, aI 800 (fL (uZ VV (fr + wd) (wfo fco ffu fsu fmo ((sd * 6) + cc) (2 ^ cc.toNat) (VV k)))))), (k_wc, .inl (cI, aI 800 (fW (uZ VV (fr + wd) (wfo fco ffu fsu fmo ((sd * 6) + cc) (2 ^ cc.toNat) (VV k)))))), (k_ua, .inl (cI, aI 78 ffu)), (k_ub, .inl (cI, aI 78 fsu)), (k_co, .inl (cI, aI 78 fco))]) (st_sub sti_M) stt_M sto_M stn_M 0 rfl rfl 32 (by decide) (List.mem_cons_of_mem _ kw_3_98) rfl rfl rfl rfl (Nat.le_of_ble_eq_true rfl) std_M_follow_294 rfl ?_
            exact hret _ _ ((uZ VV (fr + wd) (wfo fco ffu fsu fmo ((sd * 6) + cc) (2 ^ cc.toNat) (VV k))), (wd + 1)) (Or.inr ⟨hfit, Or.inr ⟨fun j h1 h2 => kJ j h1 (by omega), rfl, fun i h => rfl⟩⟩) std_M_follow_297
          · have hx1 : (uZ VV (fr + wd) (wfo fco ffu fsu fmo ((sd * 6) + cc) (2 ^ cc.toNat) (VV k))) x = VV x := uZ_n (by omega)
            have hn1 : (uZ VV (fr + wd) (wfo fco ffu fsu fmo ((sd * 6) + cc) (2 ^ cc.toNat) (VV k))) (fr + wd) = (wfo fco ffu fsu fmo ((sd * 6) + cc) (2 ^ cc.toNat) (VV k)) := uZ_s
            refine g_aload_n C 7 std_M_follow_228 rfl ?_
            refine g_iload C 0 std_M_follow_229 rfl ?_
            refine g_iload C 1 std_M_follow_231 rfl ?_
            refine g_V_i (wc := [(m0, .inr (5, [.int (iI 0), .int (iI steps), .ref k_ch, .ref k_co, .ref k_ua, .ref k_ub, .ref k_ba, .int (iI (fle 0)), .int (iI (fle 1)), .int (iI (fmo 0)), .int (iI (fmo 1)), .int (iI (bI HM)), .ref k_rt, .ref k_rf, .ref k_ct, .ref k_cf, .ref k_nd, .ref k_na, .ref k_no, .ref k_bt, .ref k_bc, .ref k_br, .int (iI bg), .int (iI pn), .ref k_pc, .ref k_pr, .ref k_la, .ref k_lb, .ref k_ha, .ref k_hb, .ref k_ls, .ref k_wc, .int (iI wd), .int (iI mg), .int (iI mw), .int (iI mc)])), (k_la, .inl (cI, aI 800 (fA (uZ VV (fr + wd) (wfo fco ffu fsu fmo ((sd * 6) + cc) (2 ^ cc.toNat) (VV k)))))), (k_lb, .inl (cI, aI 800 (fB (uZ VV (fr + wd) (wfo fco ffu fsu fmo ((sd * 6) + cc) (2 ^ cc.toNat) (VV k)))))), (k_ha, .inl (cI, aI 800 (fC (uZ VV (fr + wd) (wfo fco ffu fsu fmo ((sd * 6) + cc) (2 ^ cc.toNat) (VV k)))))), (k_hb, .inl (cI, aI 800 (fD (uZ VV (fr + wd) (wfo fco ffu fsu fmo ((sd * 6) + cc) (2 ^ cc.toNat) (VV k)))))), (k_ls, .inl (cI, aI 800 (fL (uZ VV (fr + wd) (wfo fco ffu fsu fmo ((sd * 6) + cc) (2 ^ cc.toNat) (VV k)))))), (k_wc, .inl (cI, aI 800 (fW (uZ VV (fr + wd) (wfo fco ffu fsu fmo ((sd * 6) + cc) (2 ^ cc.toNat) (VV k))))))]) (wr := [(k_ua, .inl (cI, aI 78 ffu)), (k_ub, .inl (cI, aI 78 fsu)), (k_co, .inl (cI, aI 78 fco))]) (rest := []) C (c_m_isOne l dC dI cI cJ cZ m0 k_ch k_co k_ua k_ub k_ba k_rt k_rf k_ct k_cf k_nd k_na k_no k_bt k_bc k_br k_pc k_pr k_la k_lb k_ha k_hb k_ls k_wc HM bg pn wd mg mw mc steps fle fmo (uZ VV (fr + wd) (wfo fco ffu fsu fmo ((sd * 6) + cc) (2 ^ cc.toNat) (VV k))) x (fr + wd) (by omega) (by omega)) (st_cV C kw_4_74 kw_4_71 kw_1_6 kw_4_73 kw_0_30 sth_M_isOne ⟨Nat.le_of_ble_eq_true rfl, Nat.le_of_ble_eq_true rfl⟩) 0 rfl rfl rfl rfl (Nat.le_of_ble_eq_true rfl) std_M_follow_233 ⟨Nat.le_of_ble_eq_true rfl, Nat.le_of_ble_eq_true rfl⟩ [0, 1, 2, 3, 4, 5, 6] [7, 8, 9] rfl rfl rfl rfl (by decide) (fun r4 u5 h6 => ?_)
            subst h6
            refine g_ws (ws' := [(k_ua, .inl (cI, aI 78 ffu)), (k_ub, .inl (cI, aI 78 fsu)), (k_co, .inl (cI, aI 78 fco)), (m0, .inr (5, [.int (iI 0), .int (iI steps), .ref k_ch, .ref k_co, .ref k_ua, .ref k_ub, .ref k_ba, .int (iI (fle 0)), .int (iI (fle 1)), .int (iI (fmo 0)), .int (iI (fmo 1)), .int (iI (bI HM)), .ref k_rt, .ref k_rf, .ref k_ct, .ref k_cf, .ref k_nd, .ref k_na, .ref k_no, .ref k_bt, .ref k_bc, .ref k_br, .int (iI bg), .int (iI pn), .ref k_pc, .ref k_pr, .ref k_la, .ref k_lb, .ref k_ha, .ref k_hb, .ref k_ls, .ref k_wc, .int (iI wd), .int (iI mg), .int (iI mw), .int (iI mc)])), (k_la, .inl (cI, aI 800 (fA (uZ VV (fr + wd) (wfo fco ffu fsu fmo ((sd * 6) + cc) (2 ^ cc.toNat) (VV k)))))), (k_lb, .inl (cI, aI 800 (fB (uZ VV (fr + wd) (wfo fco ffu fsu fmo ((sd * 6) + cc) (2 ^ cc.toNat) (VV k)))))), (k_ha, .inl (cI, aI 800 (fC (uZ VV (fr + wd) (wfo fco ffu fsu fmo ((sd * 6) + cc) (2 ^ cc.toNat) (VV k)))))), (k_hb, .inl (cI, aI 800 (fD (uZ VV (fr + wd) (wfo fco ffu fsu fmo ((sd * 6) + cc) (2 ^ cc.toNat) (VV k)))))), (k_ls, .inl (cI, aI 800 (fL (uZ VV (fr + wd) (wfo fco ffu fsu fmo ((sd * 6) + cc) (2 ^ cc.toNat) (VV k)))))), (k_wc, .inl (cI, aI 800 (fW (uZ VV (fr + wd) (wfo fco ffu fsu fmo ((sd * 6) + cc) (2 ^ cc.toNat) (VV k))))))]) rfl ?_
            refine g_ifeq_b (tgt := 281) C std_M_follow_236 (by decide) (fun c7 => ?_) (fun c7 => ?_)
            · refine g_iinc C (lv' := [(7, .int (iI (x + 1))), (5, .int (iI (fr + wd))), (6, .int (iI ((6 * sd) + cc))), (4, .int (iI fr)), (3, .int (iI cc)), (2, .int (iI sd)), (1, .int (iI k)), (0, .ref m0)]) 0 std_M_follow_281 rfl (by decide) rfl ?_
              refine g_goto (tgt := 221) C std_M_follow_284 (by decide) ?_
              refine g_sub (ws' := [(m0, .inr (5, [.int (iI 0), .int (iI steps), .ref k_ch, .ref k_co, .ref k_ua, .ref k_ub, .ref k_ba, .int (iI (fle 0)), .int (iI (fle 1)), .int (iI (fmo 0)), .int (iI (fmo 1)), .int (iI (bI HM)), .ref k_rt, .ref k_rf, .ref k_ct, .ref k_cf, .ref k_nd, .ref k_na, .ref k_no, .ref k_bt, .ref k_bc, .ref k_br, .int (iI bg), .int (iI pn), .ref k_pc, .ref k_pr, .ref k_la, .ref k_lb, .ref k_ha, .ref k_hb, .ref k_ls, .ref k_wc, .int (iI wd), .int (iI mg), .int (iI mw), .int (iI mc)])), (k_la, .inl (cI, aI 800 (fA (uZ VV (fr + wd) (wfo fco ffu fsu fmo ((sd * 6) + cc) (2 ^ cc.toNat) (VV k)))))), (k_lb, .inl (cI, aI 800 (fB (uZ VV (fr + wd) (wfo fco ffu fsu fmo ((sd * 6) + cc) (2 ^ cc.toNat) (VV k)))))), (k_ha, .inl (cI, aI 800 (fC (uZ VV (fr + wd) (wfo fco ffu fsu fmo ((sd * 6) + cc) (2 ^ cc.toNat) (VV k)))))), (k_hb, .inl (cI, aI 800 (fD (uZ VV (fr + wd) (wfo fco ffu fsu fmo ((sd * 6) + cc) (2 ^ cc.toNat) (VV k)))))), (k_ls, .inl (cI, aI 800 (fL (uZ VV (fr + wd) (wfo fco ffu fsu fmo ((sd * 6) + cc) (2 ^ cc.toNat) (VV k)))))), (k_wc, .inl (cI, aI 800 (fW (uZ VV (fr + wd) (wfo fco ffu fsu fmo ((sd * 6) + cc) (2 ^ cc.toNat) (VV k)))))), (k_ua, .inl (cI, aI 78 ffu)), (k_ub, .inl (cI, aI 78 fsu)), (k_co, .inl (cI, aI 78 fco))]) [3, 4, 5, 6, 7, 8, 9, 0, 1, 2] rfl rfl ?_
              refine g_wide (k := 0) (n := 0) (Nat.le_of_ble_eq_true rfl) (Nat.le_of_ble_eq_true rfl) ?_
              exact ih221 (x + 1) (by omega) (dj_f (X := fun j => VV j % 1073741824 = (wfo fco ffu fsu fmo ((sd * 6) + cc) (2 ^ cc.toNat) (VV k)) % 1073741824) kJ (by have hc := c7; rw [hx1, hn1] at hc; exact hc)) (by omega)
            · have hq : VV x % 1073741824 = (wfo fco ffu fsu fmo ((sd * 6) + cc) (2 ^ cc.toNat) (VV k)) % 1073741824 := by have hc := c7; rw [hx1, hn1] at hc; exact hc
              have hwx := wn_m (kV x (by omega) (by omega))
              have hcx : fW (uZ VV (fr + wd) (wfo fco ffu fsu fmo ((sd * 6) + cc) (2 ^ cc.toNat) (VV k))) x = fW VV x := by show (uZ VV (fr + wd) (wfo fco ffu fsu fmo ((sd * 6) + cc) (2 ^ cc.toNat) (VV k))) x / 1073741824 - 12000 = VV x / 1073741824 - 12000; rw [hx1]
              have hcn : fW (uZ VV (fr + wd) (wfo fco ffu fsu fmo ((sd * 6) + cc) (2 ^ cc.toNat) (VV k))) (fr + wd) = fW VV k + fco ((sd * 6) + cc) := by show (uZ VV (fr + wd) (wfo fco ffu fsu fmo ((sd * 6) + cc) (2 ^ cc.toNat) (VV k))) (fr + wd) / 1073741824 - 12000 = _; rw [hn1]; exact hE0c
              refine g_aload_n C 7 std_M_follow_239 rfl ?_
              refine g_get C (st_sub sti_M) 3 rfl rfl 31 (by decide) (List.mem_cons_of_mem _ kw_3_97) rfl rfl std_M_follow_240 ?_
              refine g_iload C 0 std_M_follow_243 rfl ?_
              refine g_aload_n C 7 std_M_follow_245 rfl ?_
              refine g_get C (st_sub sti_M) 3 rfl rfl 31 (by decide) (List.mem_cons_of_mem _ kw_3_97) rfl rfl std_M_follow_246 ?_
              refine g_iload C 1 std_M_follow_249 rfl ?_
              refine g_iald C 9 0 rfl rfl (by omega) (by omega) (by omega) std_M_follow_251 ?_
              refine g_aload_n C 7 std_M_follow_252 rfl ?_
              refine g_get C (st_sub sti_M) 3 rfl rfl 31 (by decide) (List.mem_cons_of_mem _ kw_3_97) rfl rfl std_M_follow_253 ?_
              refine g_iload C 0 std_M_follow_256 rfl ?_
              refine g_iald C 9 0 rfl rfl (by omega) (by omega) (by omega) std_M_follow_258 ?_
              refine g_icmp_ge (tgt := 272) C std_M_follow_259 (by decide) ⟨by omega, by omega⟩ ⟨by omega, by omega⟩ (fun c8 => ?_) (fun c8 => ?_)
              · refine g_aload_n C 7 std_M_follow_272 rfl ?_
                refine g_get C (st_sub sti_M) 3 rfl rfl 31 (by decide) (List.mem_cons_of_mem _ kw_3_97) rfl rfl std_M_follow_273 ?_
                refine g_iload C 0 std_M_follow_276 rfl ?_
                refine g_iald C 9 0 rfl rfl (by omega) (by omega) (by omega) std_M_follow_278 ?_
                refine g_iast C (ws' := [(k_ua, .inl (cI, aI 78 ffu)), (k_ub, .inl (cI, aI 78 fsu)), (k_co, .inl (cI, aI 78 fco)), (m0, .inr (5, [.int (iI 0), .int (iI steps), .ref k_ch, .ref k_co, .ref k_ua, .ref k_ub, .ref k_ba, .int (iI (fle 0)), .int (iI (fle 1)), .int (iI (fmo 0)), .int (iI (fmo 1)), .int (iI (bI HM)), .ref k_rt, .ref k_rf, .ref k_ct, .ref k_cf, .ref k_nd, .ref k_na, .ref k_no, .ref k_bt, .ref k_bc, .ref k_br, .int (iI bg), .int (iI pn), .ref k_pc, .ref k_pr, .ref k_la, .ref k_lb, .ref k_ha, .ref k_hb, .ref k_ls, .ref k_wc, .int (iI wd), .int (iI mg), .int (iI mw), .int (iI mc)])), (k_la, .inl (cI, aI 800 (fA (uZ VV (fr + wd) (wfo fco ffu fsu fmo ((sd * 6) + cc) (2 ^ cc.toNat) (VV k)))))), (k_lb, .inl (cI, aI 800 (fB (uZ VV (fr + wd) (wfo fco ffu fsu fmo ((sd * 6) + cc) (2 ^ cc.toNat) (VV k)))))), (k_ha, .inl (cI, aI 800 (fC (uZ VV (fr + wd) (wfo fco ffu fsu fmo ((sd * 6) + cc) (2 ^ cc.toNat) (VV k)))))), (k_hb, .inl (cI, aI 800 (fD (uZ VV (fr + wd) (wfo fco ffu fsu fmo ((sd * 6) + cc) (2 ^ cc.toNat) (VV k)))))), (k_ls, .inl (cI, aI 800 (fL (uZ VV (fr + wd) (wfo fco ffu fsu fmo ((sd * 6) + cc) (2 ^ cc.toNat) (VV k)))))), (k_wc, .inl (cI, aI 800 (uZ (fW (uZ VV (fr + wd) (wfo fco ffu fsu fmo ((sd * 6) + cc) (2 ^ cc.toNat) (VV k)))) x ((fW (uZ VV (fr + wd) (wfo fco ffu fsu fmo ((sd * 6) + cc) (2 ^ cc.toNat) (VV k)))) x))))]) 9 0 rfl rfl (by omega) (by omega) (by omega) std_M_follow_279 rfl ?_
                refine g_sub (ws' := [(m0, .inr (5, [.int (iI 0), .int (iI steps), .ref k_ch, .ref k_co, .ref k_ua, .ref k_ub, .ref k_ba, .int (iI (fle 0)), .int (iI (fle 1)), .int (iI (fmo 0)), .int (iI (fmo 1)), .int (iI (bI HM)), .ref k_rt, .ref k_rf, .ref k_ct, .ref k_cf, .ref k_nd, .ref k_na, .ref k_no, .ref k_bt, .ref k_bc, .ref k_br, .int (iI bg), .int (iI pn), .ref k_pc, .ref k_pr, .ref k_la, .ref k_lb, .ref k_ha, .ref k_hb, .ref k_ls, .ref k_wc, .int (iI wd), .int (iI mg), .int (iI mw), .int (iI mc)])), (k_la, .inl (cI, aI 800 (fA (uZ VV (fr + wd) (wfo fco ffu fsu fmo ((sd * 6) + cc) (2 ^ cc.toNat) (VV k)))))), (k_lb, .inl (cI, aI 800 (fB (uZ VV (fr + wd) (wfo fco ffu fsu fmo ((sd * 6) + cc) (2 ^ cc.toNat) (VV k)))))), (k_ha, .inl (cI, aI 800 (fC (uZ VV (fr + wd) (wfo fco ffu fsu fmo ((sd * 6) + cc) (2 ^ cc.toNat) (VV k)))))), (k_hb, .inl (cI, aI 800 (fD (uZ VV (fr + wd) (wfo fco ffu fsu fmo ((sd * 6) + cc) (2 ^ cc.toNat) (VV k)))))), (k_ls, .inl (cI, aI 800 (fL (uZ VV (fr + wd) (wfo fco ffu fsu fmo ((sd * 6) + cc) (2 ^ cc.toNat) (VV k)))))), (k_wc, .inl (cI, aI 800 (uZ (fW (uZ VV (fr + wd) (wfo fco ffu fsu fmo ((sd * 6) + cc) (2 ^ cc.toNat) (VV k)))) x ((fW (uZ VV (fr + wd) (wfo fco ffu fsu fmo ((sd * 6) + cc) (2 ^ cc.toNat) (VV k)))) x)))), (k_ua, .inl (cI, aI 78 ffu)), (k_ub, .inl (cI, aI 78 fsu)), (k_co, .inl (cI, aI 78 fco))]) [3, 4, 5, 6, 7, 8, 9, 0, 1, 2] rfl rfl ?_
                refine g_wide (k := 0) (n := 0) (Nat.le_of_ble_eq_true rfl) (Nat.le_of_ble_eq_true rfl) ?_
                obtain ⟨w1, w2, w3, w4, w5, w6⟩ := pw_c (R := (uZ VV (fr + wd) (wfo fco ffu fsu fmo ((sd * 6) + cc) (2 ^ cc.toNat) (VV k)))) (t := x) (E := min (VV x) (wfo fco ffu fsu fmo ((sd * 6) + cc) (2 ^ cc.toNat) (VV k))) (by rw [hx1]; exact mn_mod hq)
                rw [show min (VV x) (wfo fco ffu fsu fmo ((sd * 6) + cc) (2 ^ cc.toNat) (VV k)) / 1073741824 - 12000 = ((fW (uZ VV (fr + wd) (wfo fco ffu fsu fmo ((sd * 6) + cc) (2 ^ cc.toNat) (VV k)))) x) by rw [mn_c]; have hfx : fW VV x = VV x / 1073741824 - 12000 := rfl; omega] at w6
                refine g_ws (ws' := [(m0, .inr (5, [.int (iI 0), .int (iI steps), .ref k_ch, .ref k_co, .ref k_ua, .ref k_ub, .ref k_ba, .int (iI (fle 0)), .int (iI (fle 1)), .int (iI (fmo 0)), .int (iI (fmo 1)), .int (iI (bI HM)), .ref k_rt, .ref k_rf, .ref k_ct, .ref k_cf, .ref k_nd, .ref k_na, .ref k_no, .ref k_bt, .ref k_bc, .ref k_br, .int (iI bg), .int (iI pn), .ref k_pc, .ref k_pr, .ref k_la, .ref k_lb, .ref k_ha, .ref k_hb, .ref k_ls, .ref k_wc, .int (iI wd), .int (iI mg), .int (iI mw), .int (iI mc)])), (k_la, .inl (cI, aI 800 (fA (uZ (uZ VV (fr + wd) (wfo fco ffu fsu fmo ((sd * 6) + cc) (2 ^ cc.toNat) (VV k))) x (min (VV x) (wfo fco ffu fsu fmo ((sd * 6) + cc) (2 ^ cc.toNat) (VV k))))))), (k_lb, .inl (cI, aI 800 (fB (uZ (uZ VV (fr + wd) (wfo fco ffu fsu fmo ((sd * 6) + cc) (2 ^ cc.toNat) (VV k))) x (min (VV x) (wfo fco ffu fsu fmo ((sd * 6) + cc) (2 ^ cc.toNat) (VV k))))))), (k_ha, .inl (cI, aI 800 (fC (uZ (uZ VV (fr + wd) (wfo fco ffu fsu fmo ((sd * 6) + cc) (2 ^ cc.toNat) (VV k))) x (min (VV x) (wfo fco ffu fsu fmo ((sd * 6) + cc) (2 ^ cc.toNat) (VV k))))))), (k_hb, .inl (cI, aI 800 (fD (uZ (uZ VV (fr + wd) (wfo fco ffu fsu fmo ((sd * 6) + cc) (2 ^ cc.toNat) (VV k))) x (min (VV x) (wfo fco ffu fsu fmo ((sd * 6) + cc) (2 ^ cc.toNat) (VV k))))))), (k_ls, .inl (cI, aI 800 (fL (uZ (uZ VV (fr + wd) (wfo fco ffu fsu fmo ((sd * 6) + cc) (2 ^ cc.toNat) (VV k))) x (min (VV x) (wfo fco ffu fsu fmo ((sd * 6) + cc) (2 ^ cc.toNat) (VV k))))))), (k_wc, .inl (cI, aI 800 (fW (uZ (uZ VV (fr + wd) (wfo fco ffu fsu fmo ((sd * 6) + cc) (2 ^ cc.toNat) (VV k))) x (min (VV x) (wfo fco ffu fsu fmo ((sd * 6) + cc) (2 ^ cc.toNat) (VV k))))))), (k_ua, .inl (cI, aI 78 ffu)), (k_ub, .inl (cI, aI 78 fsu)), (k_co, .inl (cI, aI 78 fco))]) (by rw [w1, w2, w3, w4, w5, w6]) ?_
                exact hret _ _ ((uZ (uZ VV (fr + wd) (wfo fco ffu fsu fmo ((sd * 6) + cc) (2 ^ cc.toNat) (VV k))) x (min (VV x) (wfo fco ffu fsu fmo ((sd * 6) + cc) (2 ^ cc.toNat) (VV k)))), wd) (Or.inr ⟨hfit, Or.inl ⟨x, ⟨by omega, by omega⟩, hq, rfl, fun i h => uZ_sw (by omega)⟩⟩) std_M_follow_280
              · refine g_aload_n C 7 std_M_follow_262 rfl ?_
                refine g_get C (st_sub sti_M) 3 rfl rfl 31 (by decide) (List.mem_cons_of_mem _ kw_3_97) rfl rfl std_M_follow_263 ?_
                refine g_iload C 1 std_M_follow_266 rfl ?_
                refine g_iald C 9 0 rfl rfl (by omega) (by omega) (by omega) std_M_follow_268 ?_
                refine g_goto (tgt := 279) C std_M_follow_269 (by decide) ?_
                refine g_iast C (ws' := [(k_ua, .inl (cI, aI 78 ffu)), (k_ub, .inl (cI, aI 78 fsu)), (k_co, .inl (cI, aI 78 fco)), (m0, .inr (5, [.int (iI 0), .int (iI steps), .ref k_ch, .ref k_co, .ref k_ua, .ref k_ub, .ref k_ba, .int (iI (fle 0)), .int (iI (fle 1)), .int (iI (fmo 0)), .int (iI (fmo 1)), .int (iI (bI HM)), .ref k_rt, .ref k_rf, .ref k_ct, .ref k_cf, .ref k_nd, .ref k_na, .ref k_no, .ref k_bt, .ref k_bc, .ref k_br, .int (iI bg), .int (iI pn), .ref k_pc, .ref k_pr, .ref k_la, .ref k_lb, .ref k_ha, .ref k_hb, .ref k_ls, .ref k_wc, .int (iI wd), .int (iI mg), .int (iI mw), .int (iI mc)])), (k_la, .inl (cI, aI 800 (fA (uZ VV (fr + wd) (wfo fco ffu fsu fmo ((sd * 6) + cc) (2 ^ cc.toNat) (VV k)))))), (k_lb, .inl (cI, aI 800 (fB (uZ VV (fr + wd) (wfo fco ffu fsu fmo ((sd * 6) + cc) (2 ^ cc.toNat) (VV k)))))), (k_ha, .inl (cI, aI 800 (fC (uZ VV (fr + wd) (wfo fco ffu fsu fmo ((sd * 6) + cc) (2 ^ cc.toNat) (VV k)))))), (k_hb, .inl (cI, aI 800 (fD (uZ VV (fr + wd) (wfo fco ffu fsu fmo ((sd * 6) + cc) (2 ^ cc.toNat) (VV k)))))), (k_ls, .inl (cI, aI 800 (fL (uZ VV (fr + wd) (wfo fco ffu fsu fmo ((sd * 6) + cc) (2 ^ cc.toNat) (VV k)))))), (k_wc, .inl (cI, aI 800 (uZ (fW (uZ VV (fr + wd) (wfo fco ffu fsu fmo ((sd * 6) + cc) (2 ^ cc.toNat) (VV k)))) x ((fW (uZ VV (fr + wd) (wfo fco ffu fsu fmo ((sd * 6) + cc) (2 ^ cc.toNat) (VV k)))) (fr + wd)))))]) 9 0 rfl rfl (by omega) (by omega) (by omega) std_M_follow_279 rfl ?_
                refine g_sub (ws' := [(m0, .inr (5, [.int (iI 0), .int (iI steps), .ref k_ch, .ref k_co, .ref k_ua, .ref k_ub, .ref k_ba, .int (iI (fle 0)), .int (iI (fle 1)), .int (iI (fmo 0)), .int (iI (fmo 1)), .int (iI (bI HM)), .ref k_rt, .ref k_rf, .ref k_ct, .ref k_cf, .ref k_nd, .ref k_na, .ref k_no, .ref k_bt, .ref k_bc, .ref k_br, .int (iI bg), .int (iI pn), .ref k_pc, .ref k_pr, .ref k_la, .ref k_lb, .ref k_ha, .ref k_hb, .ref k_ls, .ref k_wc, .int (iI wd), .int (iI mg), .int (iI mw), .int (iI mc)])), (k_la, .inl (cI, aI 800 (fA (uZ VV (fr + wd) (wfo fco ffu fsu fmo ((sd * 6) + cc) (2 ^ cc.toNat) (VV k)))))), (k_lb, .inl (cI, aI 800 (fB (uZ VV (fr + wd) (wfo fco ffu fsu fmo ((sd * 6) + cc) (2 ^ cc.toNat) (VV k)))))), (k_ha, .inl (cI, aI 800 (fC (uZ VV (fr + wd) (wfo fco ffu fsu fmo ((sd * 6) + cc) (2 ^ cc.toNat) (VV k)))))), (k_hb, .inl (cI, aI 800 (fD (uZ VV (fr + wd) (wfo fco ffu fsu fmo ((sd * 6) + cc) (2 ^ cc.toNat) (VV k)))))), (k_ls, .inl (cI, aI 800 (fL (uZ VV (fr + wd) (wfo fco ffu fsu fmo ((sd * 6) + cc) (2 ^ cc.toNat) (VV k)))))), (k_wc, .inl (cI, aI 800 (uZ (fW (uZ VV (fr + wd) (wfo fco ffu fsu fmo ((sd * 6) + cc) (2 ^ cc.toNat) (VV k)))) x ((fW (uZ VV (fr + wd) (wfo fco ffu fsu fmo ((sd * 6) + cc) (2 ^ cc.toNat) (VV k)))) (fr + wd))))), (k_ua, .inl (cI, aI 78 ffu)), (k_ub, .inl (cI, aI 78 fsu)), (k_co, .inl (cI, aI 78 fco))]) [3, 4, 5, 6, 7, 8, 9, 0, 1, 2] rfl rfl ?_
                refine g_wide (k := 0) (n := 0) (Nat.le_of_ble_eq_true rfl) (Nat.le_of_ble_eq_true rfl) ?_
                obtain ⟨w1, w2, w3, w4, w5, w6⟩ := pw_c (R := (uZ VV (fr + wd) (wfo fco ffu fsu fmo ((sd * 6) + cc) (2 ^ cc.toNat) (VV k)))) (t := x) (E := min (VV x) (wfo fco ffu fsu fmo ((sd * 6) + cc) (2 ^ cc.toNat) (VV k))) (by rw [hx1]; exact mn_mod hq)
                rw [show min (VV x) (wfo fco ffu fsu fmo ((sd * 6) + cc) (2 ^ cc.toNat) (VV k)) / 1073741824 - 12000 = ((fW (uZ VV (fr + wd) (wfo fco ffu fsu fmo ((sd * 6) + cc) (2 ^ cc.toNat) (VV k)))) (fr + wd)) by rw [mn_c]; have hfx : fW VV x = VV x / 1073741824 - 12000 := rfl; omega] at w6
                refine g_ws (ws' := [(m0, .inr (5, [.int (iI 0), .int (iI steps), .ref k_ch, .ref k_co, .ref k_ua, .ref k_ub, .ref k_ba, .int (iI (fle 0)), .int (iI (fle 1)), .int (iI (fmo 0)), .int (iI (fmo 1)), .int (iI (bI HM)), .ref k_rt, .ref k_rf, .ref k_ct, .ref k_cf, .ref k_nd, .ref k_na, .ref k_no, .ref k_bt, .ref k_bc, .ref k_br, .int (iI bg), .int (iI pn), .ref k_pc, .ref k_pr, .ref k_la, .ref k_lb, .ref k_ha, .ref k_hb, .ref k_ls, .ref k_wc, .int (iI wd), .int (iI mg), .int (iI mw), .int (iI mc)])), (k_la, .inl (cI, aI 800 (fA (uZ (uZ VV (fr + wd) (wfo fco ffu fsu fmo ((sd * 6) + cc) (2 ^ cc.toNat) (VV k))) x (min (VV x) (wfo fco ffu fsu fmo ((sd * 6) + cc) (2 ^ cc.toNat) (VV k))))))), (k_lb, .inl (cI, aI 800 (fB (uZ (uZ VV (fr + wd) (wfo fco ffu fsu fmo ((sd * 6) + cc) (2 ^ cc.toNat) (VV k))) x (min (VV x) (wfo fco ffu fsu fmo ((sd * 6) + cc) (2 ^ cc.toNat) (VV k))))))), (k_ha, .inl (cI, aI 800 (fC (uZ (uZ VV (fr + wd) (wfo fco ffu fsu fmo ((sd * 6) + cc) (2 ^ cc.toNat) (VV k))) x (min (VV x) (wfo fco ffu fsu fmo ((sd * 6) + cc) (2 ^ cc.toNat) (VV k))))))), (k_hb, .inl (cI, aI 800 (fD (uZ (uZ VV (fr + wd) (wfo fco ffu fsu fmo ((sd * 6) + cc) (2 ^ cc.toNat) (VV k))) x (min (VV x) (wfo fco ffu fsu fmo ((sd * 6) + cc) (2 ^ cc.toNat) (VV k))))))), (k_ls, .inl (cI, aI 800 (fL (uZ (uZ VV (fr + wd) (wfo fco ffu fsu fmo ((sd * 6) + cc) (2 ^ cc.toNat) (VV k))) x (min (VV x) (wfo fco ffu fsu fmo ((sd * 6) + cc) (2 ^ cc.toNat) (VV k))))))), (k_wc, .inl (cI, aI 800 (fW (uZ (uZ VV (fr + wd) (wfo fco ffu fsu fmo ((sd * 6) + cc) (2 ^ cc.toNat) (VV k))) x (min (VV x) (wfo fco ffu fsu fmo ((sd * 6) + cc) (2 ^ cc.toNat) (VV k))))))), (k_ua, .inl (cI, aI 78 ffu)), (k_ub, .inl (cI, aI 78 fsu)), (k_co, .inl (cI, aI 78 fco))]) (by rw [w1, w2, w3, w4, w5, w6]) ?_
                exact hret _ _ ((uZ (uZ VV (fr + wd) (wfo fco ffu fsu fmo ((sd * 6) + cc) (2 ^ cc.toNat) (VV k))) x (min (VV x) (wfo fco ffu fsu fmo ((sd * 6) + cc) (2 ^ cc.toNat) (VV k)))), wd) (Or.inr ⟨hfit, Or.inl ⟨x, ⟨by omega, by omega⟩, hq, rfl, fun i h => uZ_sw (by omega)⟩⟩) std_M_follow_280
      refine g_aload_n C 2 std_M_follow_88 rfl ?_
      refine g_get C (st_sub sti_M) 0 rfl rfl 28 (by decide) (List.mem_cons_of_mem _ kw_3_94) rfl rfl std_M_follow_89 ?_
      refine g_iload C 1 std_M_follow_92 rfl ?_
      refine g_aload_n C 2 std_M_follow_94 rfl ?_
      refine g_get C (st_sub sti_M) 0 rfl rfl 28 (by decide) (List.mem_cons_of_mem _ kw_3_94) rfl rfl std_M_follow_95 ?_
      refine g_iload_n C 3 std_M_follow_98 rfl ?_
      refine g_iald C 3 0 rfl rfl (by omega) (by omega) (by omega) std_M_follow_99 ?_
      refine g_aload_n C 2 std_M_follow_100 rfl ?_
      refine g_get C (st_sub sti_M) 0 rfl rfl 4 (by decide) (List.mem_cons_of_mem _ kw_3_70) rfl rfl std_M_follow_101 ?_
      refine g_iload C 0 std_M_follow_104 rfl ?_
      refine g_iald C 7 0 rfl rfl (by omega) (by omega) (by omega) std_M_follow_106 ?_
      refine g_iadd C std_M_follow_107 ?_
      refine g_aload_n C 2 std_M_follow_108 rfl ?_
      refine g_get C (st_sub sti_M) 0 rfl rfl 9 (by decide) (List.mem_cons_of_mem _ kw_3_75) rfl rfl std_M_follow_109 ?_
      refine g_icmp_le (tgt := 122) C std_M_follow_112 (by decide) ⟨by omega, by omega⟩ ⟨by omega, by omega⟩ (fun c9 => ?_) (fun c9 => ?_)
      · refine g_aload_n C 2 std_M_follow_122 rfl ?_
        refine g_get C (st_sub sti_M) 0 rfl rfl 28 (by decide) (List.mem_cons_of_mem _ kw_3_94) rfl rfl std_M_follow_123 ?_
        refine g_iload_n C 3 std_M_follow_126 rfl ?_
        refine g_iald C 3 0 rfl rfl (by omega) (by omega) (by omega) std_M_follow_127 ?_
        refine g_aload_n C 2 std_M_follow_128 rfl ?_
        refine g_get C (st_sub sti_M) 0 rfl rfl 4 (by decide) (List.mem_cons_of_mem _ kw_3_70) rfl rfl std_M_follow_129 ?_
        refine g_iload C 0 std_M_follow_132 rfl ?_
        refine g_iald C 7 0 rfl rfl (by omega) (by omega) (by omega) std_M_follow_134 ?_
        refine g_iadd C std_M_follow_135 ?_
        refine g_iast C (ws' := [(m0, .inr (5, [.int (iI 0), .int (iI steps), .ref k_ch, .ref k_co, .ref k_ua, .ref k_ub, .ref k_ba, .int (iI (fle 0)), .int (iI (fle 1)), .int (iI (fmo 0)), .int (iI (fmo 1)), .int (iI (bI HM)), .ref k_rt, .ref k_rf, .ref k_ct, .ref k_cf, .ref k_nd, .ref k_na, .ref k_no, .ref k_bt, .ref k_bc, .ref k_br, .int (iI bg), .int (iI pn), .ref k_pc, .ref k_pr, .ref k_la, .ref k_lb, .ref k_ha, .ref k_hb, .ref k_ls, .ref k_wc, .int (iI wd), .int (iI mg), .int (iI mw), .int (iI mc)])), (k_la, .inl (cI, aI 800 (uZ (fA VV) (fr + wd) (((fA VV) k) + (ffu ((6 * sd) + cc)))))), (k_lb, .inl (cI, aI 800 (uZ (fB VV) (fr + wd) (((fB VV) k) + (fsu ((6 * sd) + cc)))))), (k_ha, .inl (cI, aI 800 (uZ (fC VV) (fr + wd) (((fC VV) k) + (ffu ((6 * sd) + cc)))))), (k_hb, .inl (cI, aI 800 (fD VV))), (k_ls, .inl (cI, aI 800 (fL VV))), (k_wc, .inl (cI, aI 800 (fW VV))), (k_ua, .inl (cI, aI 78 ffu)), (k_ub, .inl (cI, aI 78 fsu)), (k_co, .inl (cI, aI 78 fco))]) 3 0 rfl rfl (by omega) (by omega) (by omega) std_M_follow_136 rfl ?_
        refine g_aload_n C 2 std_M_follow_137 rfl ?_
        refine g_get C (st_sub sti_M) 0 rfl rfl 29 (by decide) (List.mem_cons_of_mem _ kw_3_95) rfl rfl std_M_follow_138 ?_
        refine g_iload C 1 std_M_follow_141 rfl ?_
        refine g_aload_n C 2 std_M_follow_143 rfl ?_
        refine g_get C (st_sub sti_M) 0 rfl rfl 29 (by decide) (List.mem_cons_of_mem _ kw_3_95) rfl rfl std_M_follow_144 ?_
        refine g_iload_n C 3 std_M_follow_147 rfl ?_
        refine g_iald C 4 0 rfl rfl (by omega) (by omega) (by omega) std_M_follow_148 ?_
        refine g_aload_n C 2 std_M_follow_149 rfl ?_
        refine g_get C (st_sub sti_M) 0 rfl rfl 5 (by decide) (List.mem_cons_of_mem _ kw_3_71) rfl rfl std_M_follow_150 ?_
        refine g_iload C 0 std_M_follow_153 rfl ?_
        refine g_iald C 8 0 rfl rfl (by omega) (by omega) (by omega) std_M_follow_155 ?_
        refine g_iadd C std_M_follow_156 ?_
        refine g_aload_n C 2 std_M_follow_157 rfl ?_
        refine g_get C (st_sub sti_M) 0 rfl rfl 10 (by decide) (List.mem_cons_of_mem _ kw_3_76) rfl rfl std_M_follow_158 ?_
        refine g_icmp_le (tgt := 171) C std_M_follow_161 (by decide) ⟨by omega, by omega⟩ ⟨by omega, by omega⟩ (fun c10 => ?_) (fun c10 => ?_)
        · refine g_aload_n C 2 std_M_follow_171 rfl ?_
          refine g_get C (st_sub sti_M) 0 rfl rfl 29 (by decide) (List.mem_cons_of_mem _ kw_3_95) rfl rfl std_M_follow_172 ?_
          refine g_iload_n C 3 std_M_follow_175 rfl ?_
          refine g_iald C 4 0 rfl rfl (by omega) (by omega) (by omega) std_M_follow_176 ?_
          refine g_aload_n C 2 std_M_follow_177 rfl ?_
          refine g_get C (st_sub sti_M) 0 rfl rfl 5 (by decide) (List.mem_cons_of_mem _ kw_3_71) rfl rfl std_M_follow_178 ?_
          refine g_iload C 0 std_M_follow_181 rfl ?_
          refine g_iald C 8 0 rfl rfl (by omega) (by omega) (by omega) std_M_follow_183 ?_
          refine g_iadd C std_M_follow_184 ?_
          refine g_iast C (ws' := [(m0, .inr (5, [.int (iI 0), .int (iI steps), .ref k_ch, .ref k_co, .ref k_ua, .ref k_ub, .ref k_ba, .int (iI (fle 0)), .int (iI (fle 1)), .int (iI (fmo 0)), .int (iI (fmo 1)), .int (iI (bI HM)), .ref k_rt, .ref k_rf, .ref k_ct, .ref k_cf, .ref k_nd, .ref k_na, .ref k_no, .ref k_bt, .ref k_bc, .ref k_br, .int (iI bg), .int (iI pn), .ref k_pc, .ref k_pr, .ref k_la, .ref k_lb, .ref k_ha, .ref k_hb, .ref k_ls, .ref k_wc, .int (iI wd), .int (iI mg), .int (iI mw), .int (iI mc)])), (k_la, .inl (cI, aI 800 (uZ (fA VV) (fr + wd) (((fA VV) k) + (ffu ((6 * sd) + cc)))))), (k_lb, .inl (cI, aI 800 (uZ (fB VV) (fr + wd) (((fB VV) k) + (fsu ((6 * sd) + cc)))))), (k_ha, .inl (cI, aI 800 (uZ (fC VV) (fr + wd) (((fC VV) k) + (ffu ((6 * sd) + cc)))))), (k_hb, .inl (cI, aI 800 (uZ (fD VV) (fr + wd) (((fD VV) k) + (fsu ((6 * sd) + cc)))))), (k_ls, .inl (cI, aI 800 (fL VV))), (k_wc, .inl (cI, aI 800 (fW VV))), (k_ua, .inl (cI, aI 78 ffu)), (k_ub, .inl (cI, aI 78 fsu)), (k_co, .inl (cI, aI 78 fco))]) 4 0 rfl rfl (by omega) (by omega) (by omega) std_M_follow_185 rfl ?_
          refine g_aload_n C 2 std_M_follow_186 rfl ?_
          refine g_get C (st_sub sti_M) 0 rfl rfl 30 (by decide) (List.mem_cons_of_mem _ kw_3_96) rfl rfl std_M_follow_187 ?_
          refine g_iload C 1 std_M_follow_190 rfl ?_
          refine g_iconst C std_M_follow_192 ?_
          refine g_iload_n C 5 std_M_follow_193 rfl ?_
          refine g_ishl C (d := (2 ^ (cc).toNat)) std_M_follow_194 (by omega) (by omega) rfl ?_
          refine g_st (st' := [.int (iI (2 ^ cc.toNat)), .int (iI (fr + wd)), .ref k_ls]) (by rw [Int.one_mul]) ?_
          refine g_iast C (ws' := [(m0, .inr (5, [.int (iI 0), .int (iI steps), .ref k_ch, .ref k_co, .ref k_ua, .ref k_ub, .ref k_ba, .int (iI (fle 0)), .int (iI (fle 1)), .int (iI (fmo 0)), .int (iI (fmo 1)), .int (iI (bI HM)), .ref k_rt, .ref k_rf, .ref k_ct, .ref k_cf, .ref k_nd, .ref k_na, .ref k_no, .ref k_bt, .ref k_bc, .ref k_br, .int (iI bg), .int (iI pn), .ref k_pc, .ref k_pr, .ref k_la, .ref k_lb, .ref k_ha, .ref k_hb, .ref k_ls, .ref k_wc, .int (iI wd), .int (iI mg), .int (iI mw), .int (iI mc)])), (k_la, .inl (cI, aI 800 (uZ (fA VV) (fr + wd) (((fA VV) k) + (ffu ((6 * sd) + cc)))))), (k_lb, .inl (cI, aI 800 (uZ (fB VV) (fr + wd) (((fB VV) k) + (fsu ((6 * sd) + cc)))))), (k_ha, .inl (cI, aI 800 (uZ (fC VV) (fr + wd) (((fC VV) k) + (ffu ((6 * sd) + cc)))))), (k_hb, .inl (cI, aI 800 (uZ (fD VV) (fr + wd) (((fD VV) k) + (fsu ((6 * sd) + cc)))))), (k_ls, .inl (cI, aI 800 (uZ (fL VV) (fr + wd) (2 ^ cc.toNat)))), (k_wc, .inl (cI, aI 800 (fW VV))), (k_ua, .inl (cI, aI 78 ffu)), (k_ub, .inl (cI, aI 78 fsu)), (k_co, .inl (cI, aI 78 fco))]) 5 0 rfl rfl (by omega) (by omega) (by omega) std_M_follow_195 rfl ?_
          refine g_aload_n C 2 std_M_follow_196 rfl ?_
          refine g_get C (st_sub sti_M) 0 rfl rfl 31 (by decide) (List.mem_cons_of_mem _ kw_3_97) rfl rfl std_M_follow_197 ?_
          refine g_iload C 1 std_M_follow_200 rfl ?_
          refine g_aload_n C 2 std_M_follow_202 rfl ?_
          refine g_get C (st_sub sti_M) 0 rfl rfl 31 (by decide) (List.mem_cons_of_mem _ kw_3_97) rfl rfl std_M_follow_203 ?_
          refine g_iload_n C 3 std_M_follow_206 rfl ?_
          refine g_iald C 6 0 rfl rfl (by omega) (by omega) (by omega) std_M_follow_207 ?_
          refine g_aload_n C 2 std_M_follow_208 rfl ?_
          refine g_get C (st_sub sti_M) 0 rfl rfl 3 (by decide) (List.mem_cons_of_mem _ kw_3_69) rfl rfl std_M_follow_209 ?_
          refine g_iload C 0 std_M_follow_212 rfl ?_
          refine g_iald C 9 0 rfl rfl (by omega) (by omega) (by omega) std_M_follow_214 ?_
          refine g_iadd C std_M_follow_215 ?_
          refine g_iast C (ws' := [(m0, .inr (5, [.int (iI 0), .int (iI steps), .ref k_ch, .ref k_co, .ref k_ua, .ref k_ub, .ref k_ba, .int (iI (fle 0)), .int (iI (fle 1)), .int (iI (fmo 0)), .int (iI (fmo 1)), .int (iI (bI HM)), .ref k_rt, .ref k_rf, .ref k_ct, .ref k_cf, .ref k_nd, .ref k_na, .ref k_no, .ref k_bt, .ref k_bc, .ref k_br, .int (iI bg), .int (iI pn), .ref k_pc, .ref k_pr, .ref k_la, .ref k_lb, .ref k_ha, .ref k_hb, .ref k_ls, .ref k_wc, .int (iI wd), .int (iI mg), .int (iI mw), .int (iI mc)])), (k_la, .inl (cI, aI 800 (uZ (fA VV) (fr + wd) (((fA VV) k) + (ffu ((6 * sd) + cc)))))), (k_lb, .inl (cI, aI 800 (uZ (fB VV) (fr + wd) (((fB VV) k) + (fsu ((6 * sd) + cc)))))), (k_ha, .inl (cI, aI 800 (uZ (fC VV) (fr + wd) (((fC VV) k) + (ffu ((6 * sd) + cc)))))), (k_hb, .inl (cI, aI 800 (uZ (fD VV) (fr + wd) (((fD VV) k) + (fsu ((6 * sd) + cc)))))), (k_ls, .inl (cI, aI 800 (uZ (fL VV) (fr + wd) (2 ^ cc.toNat)))), (k_wc, .inl (cI, aI 800 (uZ (fW VV) (fr + wd) (((fW VV) k) + (fco ((6 * sd) + cc)))))), (k_ua, .inl (cI, aI 78 ffu)), (k_ub, .inl (cI, aI 78 fsu)), (k_co, .inl (cI, aI 78 fco))]) 6 0 rfl rfl (by omega) (by omega) (by omega) std_M_follow_216 rfl ?_
          have hE0 : (wfo fco ffu fsu fmo ((sd * 6) + cc) (2 ^ cc.toNat) (VV k)) = wp (((fW VV) k) + (fco ((6 * sd) + cc))) (((fA VV) k) + (ffu ((6 * sd) + cc))) (((fB VV) k) + (fsu ((6 * sd) + cc))) (((fC VV) k) + (ffu ((6 * sd) + cc))) (((fD VV) k) + (fsu ((6 * sd) + cc))) (2 ^ cc.toNat) := wfo_w (by omega) (by omega) (by omega) (by omega) (by omega)
          obtain ⟨w1, w2, w3, w4, w5, w6⟩ := pw_6 (R := VV) (t := (fr + wd)) hE0 ⟨by omega, by omega⟩ ⟨by omega, by omega⟩ ⟨by omega, by omega⟩ ⟨by omega, by omega⟩ h2c
          refine g_ws (ws' := [(m0, .inr (5, [.int (iI 0), .int (iI steps), .ref k_ch, .ref k_co, .ref k_ua, .ref k_ub, .ref k_ba, .int (iI (fle 0)), .int (iI (fle 1)), .int (iI (fmo 0)), .int (iI (fmo 1)), .int (iI (bI HM)), .ref k_rt, .ref k_rf, .ref k_ct, .ref k_cf, .ref k_nd, .ref k_na, .ref k_no, .ref k_bt, .ref k_bc, .ref k_br, .int (iI bg), .int (iI pn), .ref k_pc, .ref k_pr, .ref k_la, .ref k_lb, .ref k_ha, .ref k_hb, .ref k_ls, .ref k_wc, .int (iI wd), .int (iI mg), .int (iI mw), .int (iI mc)])), (k_la, .inl (cI, aI 800 (fA (uZ VV (fr + wd) (wfo fco ffu fsu fmo ((sd * 6) + cc) (2 ^ cc.toNat) (VV k)))))), (k_lb, .inl (cI, aI 800 (fB (uZ VV (fr + wd) (wfo fco ffu fsu fmo ((sd * 6) + cc) (2 ^ cc.toNat) (VV k)))))), (k_ha, .inl (cI, aI 800 (fC (uZ VV (fr + wd) (wfo fco ffu fsu fmo ((sd * 6) + cc) (2 ^ cc.toNat) (VV k)))))), (k_hb, .inl (cI, aI 800 (fD (uZ VV (fr + wd) (wfo fco ffu fsu fmo ((sd * 6) + cc) (2 ^ cc.toNat) (VV k)))))), (k_ls, .inl (cI, aI 800 (fL (uZ VV (fr + wd) (wfo fco ffu fsu fmo ((sd * 6) + cc) (2 ^ cc.toNat) (VV k)))))), (k_wc, .inl (cI, aI 800 (fW (uZ VV (fr + wd) (wfo fco ffu fsu fmo ((sd * 6) + cc) (2 ^ cc.toNat) (VV k)))))), (k_ua, .inl (cI, aI 78 ffu)), (k_ub, .inl (cI, aI 78 fsu)), (k_co, .inl (cI, aI 78 fco))]) (by rw [w1, w2, w3, w4, w5, w6]) ?_
          refine g_iload C 6 std_M_follow_217 rfl ?_
          refine g_istore C (lv' := [(7, .int (iI fr)), (6, .int (iI ((6 * sd) + cc))), (5, .int (iI (fr + wd))), (0, .ref m0), (1, .int (iI k)), (2, .int (iI sd)), (3, .int (iI cc)), (4, .int (iI fr))]) std_M_follow_219 (by decide) rfl ?_
          refine g_lv (lv' := [(7, .int (iI fr)), (5, .int (iI (fr + wd))), (6, .int (iI ((6 * sd) + cc))), (4, .int (iI fr)), (3, .int (iI cc)), (2, .int (iI sd)), (1, .int (iI k)), (0, .ref m0)]) [0, 2, 1, 7, 6, 5, 4, 3] rfl ?_
          obtain ⟨nn0, hnn0⟩ : ∃ nn0 : Nat, ((fr + wd) - fr) < (nn0 : Int) := z_nat _
          exact L221 nn0 fr (by omega) (fun j h1 h2 => by omega) hnn0
        · refine g_aload_n C 2 std_M_follow_164 rfl ?_
          refine g_get C (st_sub sti_M) 0 rfl rfl 10 (by decide) (List.mem_cons_of_mem _ kw_3_76) rfl rfl std_M_follow_165 ?_
          refine g_goto (tgt := 185) C std_M_follow_168 (by decide) ?_
          refine g_iast C (ws' := [(m0, .inr (5, [.int (iI 0), .int (iI steps), .ref k_ch, .ref k_co, .ref k_ua, .ref k_ub, .ref k_ba, .int (iI (fle 0)), .int (iI (fle 1)), .int (iI (fmo 0)), .int (iI (fmo 1)), .int (iI (bI HM)), .ref k_rt, .ref k_rf, .ref k_ct, .ref k_cf, .ref k_nd, .ref k_na, .ref k_no, .ref k_bt, .ref k_bc, .ref k_br, .int (iI bg), .int (iI pn), .ref k_pc, .ref k_pr, .ref k_la, .ref k_lb, .ref k_ha, .ref k_hb, .ref k_ls, .ref k_wc, .int (iI wd), .int (iI mg), .int (iI mw), .int (iI mc)])), (k_la, .inl (cI, aI 800 (uZ (fA VV) (fr + wd) (((fA VV) k) + (ffu ((6 * sd) + cc)))))), (k_lb, .inl (cI, aI 800 (uZ (fB VV) (fr + wd) (((fB VV) k) + (fsu ((6 * sd) + cc)))))), (k_ha, .inl (cI, aI 800 (uZ (fC VV) (fr + wd) (((fC VV) k) + (ffu ((6 * sd) + cc)))))), (k_hb, .inl (cI, aI 800 (uZ (fD VV) (fr + wd) (fmo 1)))), (k_ls, .inl (cI, aI 800 (fL VV))), (k_wc, .inl (cI, aI 800 (fW VV))), (k_ua, .inl (cI, aI 78 ffu)), (k_ub, .inl (cI, aI 78 fsu)), (k_co, .inl (cI, aI 78 fco))]) 4 0 rfl rfl (by omega) (by omega) (by omega) std_M_follow_185 rfl ?_
          refine g_aload_n C 2 std_M_follow_186 rfl ?_
          refine g_get C (st_sub sti_M) 0 rfl rfl 30 (by decide) (List.mem_cons_of_mem _ kw_3_96) rfl rfl std_M_follow_187 ?_
          refine g_iload C 1 std_M_follow_190 rfl ?_
          refine g_iconst C std_M_follow_192 ?_
          refine g_iload_n C 5 std_M_follow_193 rfl ?_
          refine g_ishl C (d := (2 ^ (cc).toNat)) std_M_follow_194 (by omega) (by omega) rfl ?_
          refine g_st (st' := [.int (iI (2 ^ cc.toNat)), .int (iI (fr + wd)), .ref k_ls]) (by rw [Int.one_mul]) ?_
          refine g_iast C (ws' := [(m0, .inr (5, [.int (iI 0), .int (iI steps), .ref k_ch, .ref k_co, .ref k_ua, .ref k_ub, .ref k_ba, .int (iI (fle 0)), .int (iI (fle 1)), .int (iI (fmo 0)), .int (iI (fmo 1)), .int (iI (bI HM)), .ref k_rt, .ref k_rf, .ref k_ct, .ref k_cf, .ref k_nd, .ref k_na, .ref k_no, .ref k_bt, .ref k_bc, .ref k_br, .int (iI bg), .int (iI pn), .ref k_pc, .ref k_pr, .ref k_la, .ref k_lb, .ref k_ha, .ref k_hb, .ref k_ls, .ref k_wc, .int (iI wd), .int (iI mg), .int (iI mw), .int (iI mc)])), (k_la, .inl (cI, aI 800 (uZ (fA VV) (fr + wd) (((fA VV) k) + (ffu ((6 * sd) + cc)))))), (k_lb, .inl (cI, aI 800 (uZ (fB VV) (fr + wd) (((fB VV) k) + (fsu ((6 * sd) + cc)))))), (k_ha, .inl (cI, aI 800 (uZ (fC VV) (fr + wd) (((fC VV) k) + (ffu ((6 * sd) + cc)))))), (k_hb, .inl (cI, aI 800 (uZ (fD VV) (fr + wd) (fmo 1)))), (k_ls, .inl (cI, aI 800 (uZ (fL VV) (fr + wd) (2 ^ cc.toNat)))), (k_wc, .inl (cI, aI 800 (fW VV))), (k_ua, .inl (cI, aI 78 ffu)), (k_ub, .inl (cI, aI 78 fsu)), (k_co, .inl (cI, aI 78 fco))]) 5 0 rfl rfl (by omega) (by omega) (by omega) std_M_follow_195 rfl ?_
          refine g_aload_n C 2 std_M_follow_196 rfl ?_
          refine g_get C (st_sub sti_M) 0 rfl rfl 31 (by decide) (List.mem_cons_of_mem _ kw_3_97) rfl rfl std_M_follow_197 ?_
          refine g_iload C 1 std_M_follow_200 rfl ?_
          refine g_aload_n C 2 std_M_follow_202 rfl ?_
          refine g_get C (st_sub sti_M) 0 rfl rfl 31 (by decide) (List.mem_cons_of_mem _ kw_3_97) rfl rfl std_M_follow_203 ?_
          refine g_iload_n C 3 std_M_follow_206 rfl ?_
          refine g_iald C 6 0 rfl rfl (by omega) (by omega) (by omega) std_M_follow_207 ?_
          refine g_aload_n C 2 std_M_follow_208 rfl ?_
          refine g_get C (st_sub sti_M) 0 rfl rfl 3 (by decide) (List.mem_cons_of_mem _ kw_3_69) rfl rfl std_M_follow_209 ?_
          refine g_iload C 0 std_M_follow_212 rfl ?_
          refine g_iald C 9 0 rfl rfl (by omega) (by omega) (by omega) std_M_follow_214 ?_
          refine g_iadd C std_M_follow_215 ?_
          refine g_iast C (ws' := [(m0, .inr (5, [.int (iI 0), .int (iI steps), .ref k_ch, .ref k_co, .ref k_ua, .ref k_ub, .ref k_ba, .int (iI (fle 0)), .int (iI (fle 1)), .int (iI (fmo 0)), .int (iI (fmo 1)), .int (iI (bI HM)), .ref k_rt, .ref k_rf, .ref k_ct, .ref k_cf, .ref k_nd, .ref k_na, .ref k_no, .ref k_bt, .ref k_bc, .ref k_br, .int (iI bg), .int (iI pn), .ref k_pc, .ref k_pr, .ref k_la, .ref k_lb, .ref k_ha, .ref k_hb, .ref k_ls, .ref k_wc, .int (iI wd), .int (iI mg), .int (iI mw), .int (iI mc)])), (k_la, .inl (cI, aI 800 (uZ (fA VV) (fr + wd) (((fA VV) k) + (ffu ((6 * sd) + cc)))))), (k_lb, .inl (cI, aI 800 (uZ (fB VV) (fr + wd) (((fB VV) k) + (fsu ((6 * sd) + cc)))))), (k_ha, .inl (cI, aI 800 (uZ (fC VV) (fr + wd) (((fC VV) k) + (ffu ((6 * sd) + cc)))))), (k_hb, .inl (cI, aI 800 (uZ (fD VV) (fr + wd) (fmo 1)))), (k_ls, .inl (cI, aI 800 (uZ (fL VV) (fr + wd) (2 ^ cc.toNat)))), (k_wc, .inl (cI, aI 800 (uZ (fW VV) (fr + wd) (((fW VV) k) + (fco ((6 * sd) + cc)))))), (k_ua, .inl (cI, aI 78 ffu)), (k_ub, .inl (cI, aI 78 fsu)), (k_co, .inl (cI, aI 78 fco))]) 6 0 rfl rfl (by omega) (by omega) (by omega) std_M_follow_216 rfl ?_
          have hE0 : (wfo fco ffu fsu fmo ((sd * 6) + cc) (2 ^ cc.toNat) (VV k)) = wp (((fW VV) k) + (fco ((6 * sd) + cc))) (((fA VV) k) + (ffu ((6 * sd) + cc))) (((fB VV) k) + (fsu ((6 * sd) + cc))) (((fC VV) k) + (ffu ((6 * sd) + cc))) (fmo 1) (2 ^ cc.toNat) := wfo_w (by omega) (by omega) (by omega) (by omega) (by omega)
          obtain ⟨w1, w2, w3, w4, w5, w6⟩ := pw_6 (R := VV) (t := (fr + wd)) hE0 ⟨by omega, by omega⟩ ⟨by omega, by omega⟩ ⟨by omega, by omega⟩ ⟨by omega, by omega⟩ h2c
          refine g_ws (ws' := [(m0, .inr (5, [.int (iI 0), .int (iI steps), .ref k_ch, .ref k_co, .ref k_ua, .ref k_ub, .ref k_ba, .int (iI (fle 0)), .int (iI (fle 1)), .int (iI (fmo 0)), .int (iI (fmo 1)), .int (iI (bI HM)), .ref k_rt, .ref k_rf, .ref k_ct, .ref k_cf, .ref k_nd, .ref k_na, .ref k_no, .ref k_bt, .ref k_bc, .ref k_br, .int (iI bg), .int (iI pn), .ref k_pc, .ref k_pr, .ref k_la, .ref k_lb, .ref k_ha, .ref k_hb, .ref k_ls, .ref k_wc, .int (iI wd), .int (iI mg), .int (iI mw), .int (iI mc)])), (k_la, .inl (cI, aI 800 (fA (uZ VV (fr + wd) (wfo fco ffu fsu fmo ((sd * 6) + cc) (2 ^ cc.toNat) (VV k)))))), (k_lb, .inl (cI, aI 800 (fB (uZ VV (fr + wd) (wfo fco ffu fsu fmo ((sd * 6) + cc) (2 ^ cc.toNat) (VV k)))))), (k_ha, .inl (cI, aI 800 (fC (uZ VV (fr + wd) (wfo fco ffu fsu fmo ((sd * 6) + cc) (2 ^ cc.toNat) (VV k)))))), (k_hb, .inl (cI, aI 800 (fD (uZ VV (fr + wd) (wfo fco ffu fsu fmo ((sd * 6) + cc) (2 ^ cc.toNat) (VV k)))))), (k_ls, .inl (cI, aI 800 (fL (uZ VV (fr + wd) (wfo fco ffu fsu fmo ((sd * 6) + cc) (2 ^ cc.toNat) (VV k)))))), (k_wc, .inl (cI, aI 800 (fW (uZ VV (fr + wd) (wfo fco ffu fsu fmo ((sd * 6) + cc) (2 ^ cc.toNat) (VV k)))))), (k_ua, .inl (cI, aI 78 ffu)), (k_ub, .inl (cI, aI 78 fsu)), (k_co, .inl (cI, aI 78 fco))]) (by rw [w1, w2, w3, w4, w5, w6]) ?_
          refine g_iload C 6 std_M_follow_217 rfl ?_
          refine g_istore C (lv' := [(7, .int (iI fr)), (6, .int (iI ((6 * sd) + cc))), (5, .int (iI (fr + wd))), (0, .ref m0), (1, .int (iI k)), (2, .int (iI sd)), (3, .int (iI cc)), (4, .int (iI fr))]) std_M_follow_219 (by decide) rfl ?_
          refine g_lv (lv' := [(7, .int (iI fr)), (5, .int (iI (fr + wd))), (6, .int (iI ((6 * sd) + cc))), (4, .int (iI fr)), (3, .int (iI cc)), (2, .int (iI sd)), (1, .int (iI k)), (0, .ref m0)]) [0, 2, 1, 7, 6, 5, 4, 3] rfl ?_
          obtain ⟨nn0, hnn0⟩ : ∃ nn0 : Nat, ((fr + wd) - fr) < (nn0 : Int) := z_nat _
          exact L221 nn0 fr (by omega) (fun j h1 h2 => by omega) hnn0
      · refine g_aload_n C 2 std_M_follow_115 rfl ?_
        refine g_get C (st_sub sti_M) 0 rfl rfl 9 (by decide) (List.mem_cons_of_mem _ kw_3_75) rfl rfl std_M_follow_116 ?_
        refine g_goto (tgt := 136) C std_M_follow_119 (by decide) ?_
        refine g_iast C (ws' := [(m0, .inr (5, [.int (iI 0), .int (iI steps), .ref k_ch, .ref k_co, .ref k_ua, .ref k_ub, .ref k_ba, .int (iI (fle 0)), .int (iI (fle 1)), .int (iI (fmo 0)), .int (iI (fmo 1)), .int (iI (bI HM)), .ref k_rt, .ref k_rf, .ref k_ct, .ref k_cf, .ref k_nd, .ref k_na, .ref k_no, .ref k_bt, .ref k_bc, .ref k_br, .int (iI bg), .int (iI pn), .ref k_pc, .ref k_pr, .ref k_la, .ref k_lb, .ref k_ha, .ref k_hb, .ref k_ls, .ref k_wc, .int (iI wd), .int (iI mg), .int (iI mw), .int (iI mc)])), (k_la, .inl (cI, aI 800 (uZ (fA VV) (fr + wd) (((fA VV) k) + (ffu ((6 * sd) + cc)))))), (k_lb, .inl (cI, aI 800 (uZ (fB VV) (fr + wd) (((fB VV) k) + (fsu ((6 * sd) + cc)))))), (k_ha, .inl (cI, aI 800 (uZ (fC VV) (fr + wd) (fmo 0)))), (k_hb, .inl (cI, aI 800 (fD VV))), (k_ls, .inl (cI, aI 800 (fL VV))), (k_wc, .inl (cI, aI 800 (fW VV))), (k_ua, .inl (cI, aI 78 ffu)), (k_ub, .inl (cI, aI 78 fsu)), (k_co, .inl (cI, aI 78 fco))]) 3 0 rfl rfl (by omega) (by omega) (by omega) std_M_follow_136 rfl ?_
        refine g_aload_n C 2 std_M_follow_137 rfl ?_
        refine g_get C (st_sub sti_M) 0 rfl rfl 29 (by decide) (List.mem_cons_of_mem _ kw_3_95) rfl rfl std_M_follow_138 ?_
        refine g_iload C 1 std_M_follow_141 rfl ?_
        refine g_aload_n C 2 std_M_follow_143 rfl ?_
        refine g_get C (st_sub sti_M) 0 rfl rfl 29 (by decide) (List.mem_cons_of_mem _ kw_3_95) rfl rfl std_M_follow_144 ?_
        refine g_iload_n C 3 std_M_follow_147 rfl ?_
        refine g_iald C 4 0 rfl rfl (by omega) (by omega) (by omega) std_M_follow_148 ?_
        refine g_aload_n C 2 std_M_follow_149 rfl ?_
        refine g_get C (st_sub sti_M) 0 rfl rfl 5 (by decide) (List.mem_cons_of_mem _ kw_3_71) rfl rfl std_M_follow_150 ?_
        refine g_iload C 0 std_M_follow_153 rfl ?_
        refine g_iald C 8 0 rfl rfl (by omega) (by omega) (by omega) std_M_follow_155 ?_
        refine g_iadd C std_M_follow_156 ?_
        refine g_aload_n C 2 std_M_follow_157 rfl ?_
        refine g_get C (st_sub sti_M) 0 rfl rfl 10 (by decide) (List.mem_cons_of_mem _ kw_3_76) rfl rfl std_M_follow_158 ?_
        refine g_icmp_le (tgt := 171) C std_M_follow_161 (by decide) ⟨by omega, by omega⟩ ⟨by omega, by omega⟩ (fun c11 => ?_) (fun c11 => ?_)
        · refine g_aload_n C 2 std_M_follow_171 rfl ?_
          refine g_get C (st_sub sti_M) 0 rfl rfl 29 (by decide) (List.mem_cons_of_mem _ kw_3_95) rfl rfl std_M_follow_172 ?_
          refine g_iload_n C 3 std_M_follow_175 rfl ?_
          refine g_iald C 4 0 rfl rfl (by omega) (by omega) (by omega) std_M_follow_176 ?_
          refine g_aload_n C 2 std_M_follow_177 rfl ?_
          refine g_get C (st_sub sti_M) 0 rfl rfl 5 (by decide) (List.mem_cons_of_mem _ kw_3_71) rfl rfl std_M_follow_178 ?_
          refine g_iload C 0 std_M_follow_181 rfl ?_
          refine g_iald C 8 0 rfl rfl (by omega) (by omega) (by omega) std_M_follow_183 ?_
          refine g_iadd C std_M_follow_184 ?_
          refine g_iast C (ws' := [(m0, .inr (5, [.int (iI 0), .int (iI steps), .ref k_ch, .ref k_co, .ref k_ua, .ref k_ub, .ref k_ba, .int (iI (fle 0)), .int (iI (fle 1)), .int (iI (fmo 0)), .int (iI (fmo 1)), .int (iI (bI HM)), .ref k_rt, .ref k_rf, .ref k_ct, .ref k_cf, .ref k_nd, .ref k_na, .ref k_no, .ref k_bt, .ref k_bc, .ref k_br, .int (iI bg), .int (iI pn), .ref k_pc, .ref k_pr, .ref k_la, .ref k_lb, .ref k_ha, .ref k_hb, .ref k_ls, .ref k_wc, .int (iI wd), .int (iI mg), .int (iI mw), .int (iI mc)])), (k_la, .inl (cI, aI 800 (uZ (fA VV) (fr + wd) (((fA VV) k) + (ffu ((6 * sd) + cc)))))), (k_lb, .inl (cI, aI 800 (uZ (fB VV) (fr + wd) (((fB VV) k) + (fsu ((6 * sd) + cc)))))), (k_ha, .inl (cI, aI 800 (uZ (fC VV) (fr + wd) (fmo 0)))), (k_hb, .inl (cI, aI 800 (uZ (fD VV) (fr + wd) (((fD VV) k) + (fsu ((6 * sd) + cc)))))), (k_ls, .inl (cI, aI 800 (fL VV))), (k_wc, .inl (cI, aI 800 (fW VV))), (k_ua, .inl (cI, aI 78 ffu)), (k_ub, .inl (cI, aI 78 fsu)), (k_co, .inl (cI, aI 78 fco))]) 4 0 rfl rfl (by omega) (by omega) (by omega) std_M_follow_185 rfl ?_
          refine g_aload_n C 2 std_M_follow_186 rfl ?_
          refine g_get C (st_sub sti_M) 0 rfl rfl 30 (by decide) (List.mem_cons_of_mem _ kw_3_96) rfl rfl std_M_follow_187 ?_
          refine g_iload C 1 std_M_follow_190 rfl ?_
          refine g_iconst C std_M_follow_192 ?_
          refine g_iload_n C 5 std_M_follow_193 rfl ?_
          refine g_ishl C (d := (2 ^ (cc).toNat)) std_M_follow_194 (by omega) (by omega) rfl ?_
          refine g_st (st' := [.int (iI (2 ^ cc.toNat)), .int (iI (fr + wd)), .ref k_ls]) (by rw [Int.one_mul]) ?_
          refine g_iast C (ws' := [(m0, .inr (5, [.int (iI 0), .int (iI steps), .ref k_ch, .ref k_co, .ref k_ua, .ref k_ub, .ref k_ba, .int (iI (fle 0)), .int (iI (fle 1)), .int (iI (fmo 0)), .int (iI (fmo 1)), .int (iI (bI HM)), .ref k_rt, .ref k_rf, .ref k_ct, .ref k_cf, .ref k_nd, .ref k_na, .ref k_no, .ref k_bt, .ref k_bc, .ref k_br, .int (iI bg), .int (iI pn), .ref k_pc, .ref k_pr, .ref k_la, .ref k_lb, .ref k_ha, .ref k_hb, .ref k_ls, .ref k_wc, .int (iI wd), .int (iI mg), .int (iI mw), .int (iI mc)])), (k_la, .inl (cI, aI 800 (uZ (fA VV) (fr + wd) (((fA VV) k) + (ffu ((6 * sd) + cc)))))), (k_lb, .inl (cI, aI 800 (uZ (fB VV) (fr + wd) (((fB VV) k) + (fsu ((6 * sd) + cc)))))), (k_ha, .inl (cI, aI 800 (uZ (fC VV) (fr + wd) (fmo 0)))), (k_hb, .inl (cI, aI 800 (uZ (fD VV) (fr + wd) (((fD VV) k) + (fsu ((6 * sd) + cc)))))), (k_ls, .inl (cI, aI 800 (uZ (fL VV) (fr + wd) (2 ^ cc.toNat)))), (k_wc, .inl (cI, aI 800 (fW VV))), (k_ua, .inl (cI, aI 78 ffu)), (k_ub, .inl (cI, aI 78 fsu)), (k_co, .inl (cI, aI 78 fco))]) 5 0 rfl rfl (by omega) (by omega) (by omega) std_M_follow_195 rfl ?_
          refine g_aload_n C 2 std_M_follow_196 rfl ?_
          refine g_get C (st_sub sti_M) 0 rfl rfl 31 (by decide) (List.mem_cons_of_mem _ kw_3_97) rfl rfl std_M_follow_197 ?_
          refine g_iload C 1 std_M_follow_200 rfl ?_
          refine g_aload_n C 2 std_M_follow_202 rfl ?_
          refine g_get C (st_sub sti_M) 0 rfl rfl 31 (by decide) (List.mem_cons_of_mem _ kw_3_97) rfl rfl std_M_follow_203 ?_
          refine g_iload_n C 3 std_M_follow_206 rfl ?_
          refine g_iald C 6 0 rfl rfl (by omega) (by omega) (by omega) std_M_follow_207 ?_
          refine g_aload_n C 2 std_M_follow_208 rfl ?_
          refine g_get C (st_sub sti_M) 0 rfl rfl 3 (by decide) (List.mem_cons_of_mem _ kw_3_69) rfl rfl std_M_follow_209 ?_
          refine g_iload C 0 std_M_follow_212 rfl ?_
          refine g_iald C 9 0 rfl rfl (by omega) (by omega) (by omega) std_M_follow_214 ?_
          refine g_iadd C std_M_follow_215 ?_
          refine g_iast C (ws' := [(m0, .inr (5, [.int (iI 0), .int (iI steps), .ref k_ch, .ref k_co, .ref k_ua, .ref k_ub, .ref k_ba, .int (iI (fle 0)), .int (iI (fle 1)), .int (iI (fmo 0)), .int (iI (fmo 1)), .int (iI (bI HM)), .ref k_rt, .ref k_rf, .ref k_ct, .ref k_cf, .ref k_nd, .ref k_na, .ref k_no, .ref k_bt, .ref k_bc, .ref k_br, .int (iI bg), .int (iI pn), .ref k_pc, .ref k_pr, .ref k_la, .ref k_lb, .ref k_ha, .ref k_hb, .ref k_ls, .ref k_wc, .int (iI wd), .int (iI mg), .int (iI mw), .int (iI mc)])), (k_la, .inl (cI, aI 800 (uZ (fA VV) (fr + wd) (((fA VV) k) + (ffu ((6 * sd) + cc)))))), (k_lb, .inl (cI, aI 800 (uZ (fB VV) (fr + wd) (((fB VV) k) + (fsu ((6 * sd) + cc)))))), (k_ha, .inl (cI, aI 800 (uZ (fC VV) (fr + wd) (fmo 0)))), (k_hb, .inl (cI, aI 800 (uZ (fD VV) (fr + wd) (((fD VV) k) + (fsu ((6 * sd) + cc)))))), (k_ls, .inl (cI, aI 800 (uZ (fL VV) (fr + wd) (2 ^ cc.toNat)))), (k_wc, .inl (cI, aI 800 (uZ (fW VV) (fr + wd) (((fW VV) k) + (fco ((6 * sd) + cc)))))), (k_ua, .inl (cI, aI 78 ffu)), (k_ub, .inl (cI, aI 78 fsu)), (k_co, .inl (cI, aI 78 fco))]) 6 0 rfl rfl (by omega) (by omega) (by omega) std_M_follow_216 rfl ?_
          have hE0 : (wfo fco ffu fsu fmo ((sd * 6) + cc) (2 ^ cc.toNat) (VV k)) = wp (((fW VV) k) + (fco ((6 * sd) + cc))) (((fA VV) k) + (ffu ((6 * sd) + cc))) (((fB VV) k) + (fsu ((6 * sd) + cc))) (fmo 0) (((fD VV) k) + (fsu ((6 * sd) + cc))) (2 ^ cc.toNat) := wfo_w (by omega) (by omega) (by omega) (by omega) (by omega)
          obtain ⟨w1, w2, w3, w4, w5, w6⟩ := pw_6 (R := VV) (t := (fr + wd)) hE0 ⟨by omega, by omega⟩ ⟨by omega, by omega⟩ ⟨by omega, by omega⟩ ⟨by omega, by omega⟩ h2c
          refine g_ws (ws' := [(m0, .inr (5, [.int (iI 0), .int (iI steps), .ref k_ch, .ref k_co, .ref k_ua, .ref k_ub, .ref k_ba, .int (iI (fle 0)), .int (iI (fle 1)), .int (iI (fmo 0)), .int (iI (fmo 1)), .int (iI (bI HM)), .ref k_rt, .ref k_rf, .ref k_ct, .ref k_cf, .ref k_nd, .ref k_na, .ref k_no, .ref k_bt, .ref k_bc, .ref k_br, .int (iI bg), .int (iI pn), .ref k_pc, .ref k_pr, .ref k_la, .ref k_lb, .ref k_ha, .ref k_hb, .ref k_ls, .ref k_wc, .int (iI wd), .int (iI mg), .int (iI mw), .int (iI mc)])), (k_la, .inl (cI, aI 800 (fA (uZ VV (fr + wd) (wfo fco ffu fsu fmo ((sd * 6) + cc) (2 ^ cc.toNat) (VV k)))))), (k_lb, .inl (cI, aI 800 (fB (uZ VV (fr + wd) (wfo fco ffu fsu fmo ((sd * 6) + cc) (2 ^ cc.toNat) (VV k)))))), (k_ha, .inl (cI, aI 800 (fC (uZ VV (fr + wd) (wfo fco ffu fsu fmo ((sd * 6) + cc) (2 ^ cc.toNat) (VV k)))))), (k_hb, .inl (cI, aI 800 (fD (uZ VV (fr + wd) (wfo fco ffu fsu fmo ((sd * 6) + cc) (2 ^ cc.toNat) (VV k)))))), (k_ls, .inl (cI, aI 800 (fL (uZ VV (fr + wd) (wfo fco ffu fsu fmo ((sd * 6) + cc) (2 ^ cc.toNat) (VV k)))))), (k_wc, .inl (cI, aI 800 (fW (uZ VV (fr + wd) (wfo fco ffu fsu fmo ((sd * 6) + cc) (2 ^ cc.toNat) (VV k)))))), (k_ua, .inl (cI, aI 78 ffu)), (k_ub, .inl (cI, aI 78 fsu)), (k_co, .inl (cI, aI 78 fco))]) (by rw [w1, w2, w3, w4, w5, w6]) ?_
          refine g_iload C 6 std_M_follow_217 rfl ?_
          refine g_istore C (lv' := [(7, .int (iI fr)), (6, .int (iI ((6 * sd) + cc))), (5, .int (iI (fr + wd))), (0, .ref m0), (1, .int (iI k)), (2, .int (iI sd)), (3, .int (iI cc)), (4, .int (iI fr))]) std_M_follow_219 (by decide) rfl ?_
          refine g_lv (lv' := [(7, .int (iI fr)), (5, .int (iI (fr + wd))), (6, .int (iI ((6 * sd) + cc))), (4, .int (iI fr)), (3, .int (iI cc)), (2, .int (iI sd)), (1, .int (iI k)), (0, .ref m0)]) [0, 2, 1, 7, 6, 5, 4, 3] rfl ?_
          obtain ⟨nn0, hnn0⟩ : ∃ nn0 : Nat, ((fr + wd) - fr) < (nn0 : Int) := z_nat _
          exact L221 nn0 fr (by omega) (fun j h1 h2 => by omega) hnn0
        · refine g_aload_n C 2 std_M_follow_164 rfl ?_
          refine g_get C (st_sub sti_M) 0 rfl rfl 10 (by decide) (List.mem_cons_of_mem _ kw_3_76) rfl rfl std_M_follow_165 ?_
          refine g_goto (tgt := 185) C std_M_follow_168 (by decide) ?_
          refine g_iast C (ws' := [(m0, .inr (5, [.int (iI 0), .int (iI steps), .ref k_ch, .ref k_co, .ref k_ua, .ref k_ub, .ref k_ba, .int (iI (fle 0)), .int (iI (fle 1)), .int (iI (fmo 0)), .int (iI (fmo 1)), .int (iI (bI HM)), .ref k_rt, .ref k_rf, .ref k_ct, .ref k_cf, .ref k_nd, .ref k_na, .ref k_no, .ref k_bt, .ref k_bc, .ref k_br, .int (iI bg), .int (iI pn), .ref k_pc, .ref k_pr, .ref k_la, .ref k_lb, .ref k_ha, .ref k_hb, .ref k_ls, .ref k_wc, .int (iI wd), .int (iI mg), .int (iI mw), .int (iI mc)])), (k_la, .inl (cI, aI 800 (uZ (fA VV) (fr + wd) (((fA VV) k) + (ffu ((6 * sd) + cc)))))), (k_lb, .inl (cI, aI 800 (uZ (fB VV) (fr + wd) (((fB VV) k) + (fsu ((6 * sd) + cc)))))), (k_ha, .inl (cI, aI 800 (uZ (fC VV) (fr + wd) (fmo 0)))), (k_hb, .inl (cI, aI 800 (uZ (fD VV) (fr + wd) (fmo 1)))), (k_ls, .inl (cI, aI 800 (fL VV))), (k_wc, .inl (cI, aI 800 (fW VV))), (k_ua, .inl (cI, aI 78 ffu)), (k_ub, .inl (cI, aI 78 fsu)), (k_co, .inl (cI, aI 78 fco))]) 4 0 rfl rfl (by omega) (by omega) (by omega) std_M_follow_185 rfl ?_
          refine g_aload_n C 2 std_M_follow_186 rfl ?_
          refine g_get C (st_sub sti_M) 0 rfl rfl 30 (by decide) (List.mem_cons_of_mem _ kw_3_96) rfl rfl std_M_follow_187 ?_
          refine g_iload C 1 std_M_follow_190 rfl ?_
          refine g_iconst C std_M_follow_192 ?_
          refine g_iload_n C 5 std_M_follow_193 rfl ?_
          refine g_ishl C (d := (2 ^ (cc).toNat)) std_M_follow_194 (by omega) (by omega) rfl ?_
          refine g_st (st' := [.int (iI (2 ^ cc.toNat)), .int (iI (fr + wd)), .ref k_ls]) (by rw [Int.one_mul]) ?_
          refine g_iast C (ws' := [(m0, .inr (5, [.int (iI 0), .int (iI steps), .ref k_ch, .ref k_co, .ref k_ua, .ref k_ub, .ref k_ba, .int (iI (fle 0)), .int (iI (fle 1)), .int (iI (fmo 0)), .int (iI (fmo 1)), .int (iI (bI HM)), .ref k_rt, .ref k_rf, .ref k_ct, .ref k_cf, .ref k_nd, .ref k_na, .ref k_no, .ref k_bt, .ref k_bc, .ref k_br, .int (iI bg), .int (iI pn), .ref k_pc, .ref k_pr, .ref k_la, .ref k_lb, .ref k_ha, .ref k_hb, .ref k_ls, .ref k_wc, .int (iI wd), .int (iI mg), .int (iI mw), .int (iI mc)])), (k_la, .inl (cI, aI 800 (uZ (fA VV) (fr + wd) (((fA VV) k) + (ffu ((6 * sd) + cc)))))), (k_lb, .inl (cI, aI 800 (uZ (fB VV) (fr + wd) (((fB VV) k) + (fsu ((6 * sd) + cc)))))), (k_ha, .inl (cI, aI 800 (uZ (fC VV) (fr + wd) (fmo 0)))), (k_hb, .inl (cI, aI 800 (uZ (fD VV) (fr + wd) (fmo 1)))), (k_ls, .inl (cI, aI 800 (uZ (fL VV) (fr + wd) (2 ^ cc.toNat)))), (k_wc, .inl (cI, aI 800 (fW VV))), (k_ua, .inl (cI, aI 78 ffu)), (k_ub, .inl (cI, aI 78 fsu)), (k_co, .inl (cI, aI 78 fco))]) 5 0 rfl rfl (by omega) (by omega) (by omega) std_M_follow_195 rfl ?_
          refine g_aload_n C 2 std_M_follow_196 rfl ?_
          refine g_get C (st_sub sti_M) 0 rfl rfl 31 (by decide) (List.mem_cons_of_mem _ kw_3_97) rfl rfl std_M_follow_197 ?_
          refine g_iload C 1 std_M_follow_200 rfl ?_
          refine g_aload_n C 2 std_M_follow_202 rfl ?_
          refine g_get C (st_sub sti_M) 0 rfl rfl 31 (by decide) (List.mem_cons_of_mem _ kw_3_97) rfl rfl std_M_follow_203 ?_
          refine g_iload_n C 3 std_M_follow_206 rfl ?_
          refine g_iald C 6 0 rfl rfl (by omega) (by omega) (by omega) std_M_follow_207 ?_
          refine g_aload_n C 2 std_M_follow_208 rfl ?_
          refine g_get C (st_sub sti_M) 0 rfl rfl 3 (by decide) (List.mem_cons_of_mem _ kw_3_69) rfl rfl std_M_follow_209 ?_
          refine g_iload C 0 std_M_follow_212 rfl ?_
          refine g_iald C 9 0 rfl rfl (by omega) (by omega) (by omega) std_M_follow_214 ?_
          refine g_iadd C std_M_follow_215 ?_
          refine g_iast C (ws' := [(m0, .inr (5, [.int (iI 0), .int (iI steps), .ref k_ch, .ref k_co, .ref k_ua, .ref k_ub, .ref k_ba, .int (iI (fle 0)), .int (iI (fle 1)), .int (iI (fmo 0)), .int (iI (fmo 1)), .int (iI (bI HM)), .ref k_rt, .ref k_rf, .ref k_ct, .ref k_cf, .ref k_nd, .ref k_na, .ref k_no, .ref k_bt, .ref k_bc, .ref k_br, .int (iI bg), .int (iI pn), .ref k_pc, .ref k_pr, .ref k_la, .ref k_lb, .ref k_ha, .ref k_hb, .ref k_ls, .ref k_wc, .int (iI wd), .int (iI mg), .int (iI mw), .int (iI mc)])), (k_la, .inl (cI, aI 800 (uZ (fA VV) (fr + wd) (((fA VV) k) + (ffu ((6 * sd) + cc)))))), (k_lb, .inl (cI, aI 800 (uZ (fB VV) (fr + wd) (((fB VV) k) + (fsu ((6 * sd) + cc)))))), (k_ha, .inl (cI, aI 800 (uZ (fC VV) (fr + wd) (fmo 0)))), (k_hb, .inl (cI, aI 800 (uZ (fD VV) (fr + wd) (fmo 1)))), (k_ls, .inl (cI, aI 800 (uZ (fL VV) (fr + wd) (2 ^ cc.toNat)))), (k_wc, .inl (cI, aI 800 (uZ (fW VV) (fr + wd) (((fW VV) k) + (fco ((6 * sd) + cc)))))), (k_ua, .inl (cI, aI 78 ffu)), (k_ub, .inl (cI, aI 78 fsu)), (k_co, .inl (cI, aI 78 fco))]) 6 0 rfl rfl (by omega) (by omega) (by omega) std_M_follow_216 rfl ?_
          have hE0 : (wfo fco ffu fsu fmo ((sd * 6) + cc) (2 ^ cc.toNat) (VV k)) = wp (((fW VV) k) + (fco ((6 * sd) + cc))) (((fA VV) k) + (ffu ((6 * sd) + cc))) (((fB VV) k) + (fsu ((6 * sd) + cc))) (fmo 0) (fmo 1) (2 ^ cc.toNat) := wfo_w (by omega) (by omega) (by omega) (by omega) (by omega)
          obtain ⟨w1, w2, w3, w4, w5, w6⟩ := pw_6 (R := VV) (t := (fr + wd)) hE0 ⟨by omega, by omega⟩ ⟨by omega, by omega⟩ ⟨by omega, by omega⟩ ⟨by omega, by omega⟩ h2c
          refine g_ws (ws' := [(m0, .inr (5, [.int (iI 0), .int (iI steps), .ref k_ch, .ref k_co, .ref k_ua, .ref k_ub, .ref k_ba, .int (iI (fle 0)), .int (iI (fle 1)), .int (iI (fmo 0)), .int (iI (fmo 1)), .int (iI (bI HM)), .ref k_rt, .ref k_rf, .ref k_ct, .ref k_cf, .ref k_nd, .ref k_na, .ref k_no, .ref k_bt, .ref k_bc, .ref k_br, .int (iI bg), .int (iI pn), .ref k_pc, .ref k_pr, .ref k_la, .ref k_lb, .ref k_ha, .ref k_hb, .ref k_ls, .ref k_wc, .int (iI wd), .int (iI mg), .int (iI mw), .int (iI mc)])), (k_la, .inl (cI, aI 800 (fA (uZ VV (fr + wd) (wfo fco ffu fsu fmo ((sd * 6) + cc) (2 ^ cc.toNat) (VV k)))))), (k_lb, .inl (cI, aI 800 (fB (uZ VV (fr + wd) (wfo fco ffu fsu fmo ((sd * 6) + cc) (2 ^ cc.toNat) (VV k)))))), (k_ha, .inl (cI, aI 800 (fC (uZ VV (fr + wd) (wfo fco ffu fsu fmo ((sd * 6) + cc) (2 ^ cc.toNat) (VV k)))))), (k_hb, .inl (cI, aI 800 (fD (uZ VV (fr + wd) (wfo fco ffu fsu fmo ((sd * 6) + cc) (2 ^ cc.toNat) (VV k)))))), (k_ls, .inl (cI, aI 800 (fL (uZ VV (fr + wd) (wfo fco ffu fsu fmo ((sd * 6) + cc) (2 ^ cc.toNat) (VV k)))))), (k_wc, .inl (cI, aI 800 (fW (uZ VV (fr + wd) (wfo fco ffu fsu fmo ((sd * 6) + cc) (2 ^ cc.toNat) (VV k)))))), (k_ua, .inl (cI, aI 78 ffu)), (k_ub, .inl (cI, aI 78 fsu)), (k_co, .inl (cI, aI 78 fco))]) (by rw [w1, w2, w3, w4, w5, w6]) ?_
          refine g_iload C 6 std_M_follow_217 rfl ?_
          refine g_istore C (lv' := [(7, .int (iI fr)), (6, .int (iI ((6 * sd) + cc))), (5, .int (iI (fr + wd))), (0, .ref m0), (1, .int (iI k)), (2, .int (iI sd)), (3, .int (iI cc)), (4, .int (iI fr))]) std_M_follow_219 (by decide) rfl ?_
          refine g_lv (lv' := [(7, .int (iI fr)), (5, .int (iI (fr + wd))), (6, .int (iI ((6 * sd) + cc))), (4, .int (iI fr)), (3, .int (iI cc)), (2, .int (iI sd)), (1, .int (iI k)), (0, .ref m0)]) [0, 2, 1, 7, 6, 5, 4, 3] rfl ?_
          obtain ⟨nn0, hnn0⟩ : ∃ nn0 : Nat, ((fr + wd) - fr) < (nn0 : Int) := z_nat _
          exact L221 nn0 fr (by omega) (fun j h1 h2 => by omega) hnn0
    · obtain ⟨EE, w1, w2, w3, w4, w5, w6⟩ := pw_2 (R := VV) (t := (fr + wd)) (z3 := (((fA VV) k) + (ffu ((6 * sd) + cc)))) (z4 := (((fB VV) k) + (fsu ((6 * sd) + cc)))) ⟨by omega, by omega⟩ ⟨by omega, by omega⟩
      refine g_ws (ws' := [(m0, .inr (5, [.int (iI 0), .int (iI steps), .ref k_ch, .ref k_co, .ref k_ua, .ref k_ub, .ref k_ba, .int (iI (fle 0)), .int (iI (fle 1)), .int (iI (fmo 0)), .int (iI (fmo 1)), .int (iI (bI HM)), .ref k_rt, .ref k_rf, .ref k_ct, .ref k_cf, .ref k_nd, .ref k_na, .ref k_no, .ref k_bt, .ref k_bc, .ref k_br, .int (iI bg), .int (iI pn), .ref k_pc, .ref k_pr, .ref k_la, .ref k_lb, .ref k_ha, .ref k_hb, .ref k_ls, .ref k_wc, .int (iI wd), .int (iI mg), .int (iI mw), .int (iI mc)])), (k_la, .inl (cI, aI 800 (fA (uZ VV (fr + wd) EE)))), (k_lb, .inl (cI, aI 800 (fB (uZ VV (fr + wd) EE)))), (k_ha, .inl (cI, aI 800 (fC (uZ VV (fr + wd) EE)))), (k_hb, .inl (cI, aI 800 (fD (uZ VV (fr + wd) EE)))), (k_ls, .inl (cI, aI 800 (fL (uZ VV (fr + wd) EE)))), (k_wc, .inl (cI, aI 800 (fW (uZ VV (fr + wd) EE)))), (k_ua, .inl (cI, aI 78 ffu)), (k_ub, .inl (cI, aI 78 fsu)), (k_co, .inl (cI, aI 78 fco))]) (by rw [w1, w2, w3, w4, w5, w6]) ?_
      exact hret _ _ ((uZ VV (fr + wd) EE), wd) (Or.inl ⟨by omega, rfl, fun j h => uZ_n (by omega)⟩) std_M_follow_87

