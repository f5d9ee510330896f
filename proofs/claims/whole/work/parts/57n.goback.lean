/-! the model: goBack -/
abbrev sty_M_goBack : MethodName := ⟨"StateTablesModel", "goBack", "()V"⟩
abbrev stc_M_goBack : ByteArray := prog_7_method_18_code
theorem sth_M_goBack : (sty_M_goBack).cls ≠ "java/lang/invoke/MethodHandle" ∧ (sty_M_goBack).cls ≠ "java/lang/invoke/VarHandle" ∧ (parseMethodDescriptor (sty_M_goBack).desc).map (fun d => d.parameters.length) = some 0 := by decide +kernel
theorem std_M_goBack_0 : decode stc_M_goBack 0 = .ok (.aload_n 0, 1) := by decide +kernel
theorem std_M_goBack_1 : decode stc_M_goBack 1 = .ok (.getfield 92, 3) := by decide +kernel
theorem std_M_goBack_4 : decode stc_M_goBack 4 = .ok (.istore_n 1, 1) := by decide +kernel
theorem std_M_goBack_5 : decode stc_M_goBack 5 = .ok (.iload_n 1, 1) := by decide +kernel
theorem std_M_goBack_6 : decode stc_M_goBack 6 = .ok (.ifCond .lt 236, 3) := by decide +kernel
theorem std_M_goBack_242 : decode stc_M_goBack 242 = .ok (.return_, 1) := by decide +kernel
theorem std_M_goBack_9 : decode stc_M_goBack 9 = .ok (.iconst 0, 1) := by decide +kernel
theorem std_M_goBack_10 : decode stc_M_goBack 10 = .ok (.istore_n 2, 1) := by decide +kernel
theorem std_M_goBack_11 : decode stc_M_goBack 11 = .ok (.iload_n 2, 1) := by decide +kernel
theorem std_M_goBack_12 : decode stc_M_goBack 12 = .ok (.aload_n 0, 1) := by decide +kernel
theorem std_M_goBack_13 : decode stc_M_goBack 13 = .ok (.getfield 50, 3) := by decide +kernel
theorem std_M_goBack_16 : decode stc_M_goBack 16 = .ok (.iload_n 1, 1) := by decide +kernel
theorem std_M_goBack_17 : decode stc_M_goBack 17 = .ok (.iaload, 1) := by decide +kernel
theorem std_M_goBack_18 : decode stc_M_goBack 18 = .ok (.if_icmp .ge 218, 3) := by decide +kernel
theorem std_M_goBack_236 : decode stc_M_goBack 236 = .ok (.iinc 1 (-1), 3) := by decide +kernel
theorem std_M_goBack_239 : decode stc_M_goBack 239 = .ok (.goto (-234), 3) := by decide +kernel
theorem std_M_goBack_21 : decode stc_M_goBack 21 = .ok (.aload_n 0, 1) := by decide +kernel
theorem std_M_goBack_22 : decode stc_M_goBack 22 = .ok (.getfield 53, 3) := by decide +kernel
theorem std_M_goBack_25 : decode stc_M_goBack 25 = .ok (.sipush 400, 3) := by decide +kernel
theorem std_M_goBack_28 : decode stc_M_goBack 28 = .ok (.iload_n 1, 1) := by decide +kernel
theorem std_M_goBack_29 : decode stc_M_goBack 29 = .ok (.imul, 1) := by decide +kernel
theorem std_M_goBack_30 : decode stc_M_goBack 30 = .ok (.iload_n 2, 1) := by decide +kernel
theorem std_M_goBack_31 : decode stc_M_goBack 31 = .ok (.iadd, 1) := by decide +kernel
theorem std_M_goBack_32 : decode stc_M_goBack 32 = .ok (.iaload, 1) := by decide +kernel
theorem std_M_goBack_33 : decode stc_M_goBack 33 = .ok (.istore_n 3, 1) := by decide +kernel
theorem std_M_goBack_34 : decode stc_M_goBack 34 = .ok (.iload_n 1, 1) := by decide +kernel
theorem std_M_goBack_35 : decode stc_M_goBack 35 = .ok (.aload_n 0, 1) := by decide +kernel
theorem std_M_goBack_36 : decode stc_M_goBack 36 = .ok (.getfield 92, 3) := by decide +kernel
theorem std_M_goBack_39 : decode stc_M_goBack 39 = .ok (.if_icmp .ne 65, 3) := by decide +kernel
theorem std_M_goBack_104 : decode stc_M_goBack 104 = .ok (.iconst 0, 1) := by decide +kernel
theorem std_M_goBack_105 : decode stc_M_goBack 105 = .ok (.istore 4, 2) := by decide +kernel
theorem std_M_goBack_107 : decode stc_M_goBack 107 = .ok (.iload 4, 2) := by decide +kernel
theorem std_M_goBack_109 : decode stc_M_goBack 109 = .ok (.aload_n 0, 1) := by decide +kernel
theorem std_M_goBack_110 : decode stc_M_goBack 110 = .ok (.getfield 13, 3) := by decide +kernel
theorem std_M_goBack_113 : decode stc_M_goBack 113 = .ok (.iload_n 1, 1) := by decide +kernel
theorem std_M_goBack_114 : decode stc_M_goBack 114 = .ok (.iaload, 1) := by decide +kernel
theorem std_M_goBack_115 : decode stc_M_goBack 115 = .ok (.if_icmp .ge 115, 3) := by decide +kernel
theorem std_M_goBack_230 : decode stc_M_goBack 230 = .ok (.iinc 2 1, 3) := by decide +kernel
theorem std_M_goBack_233 : decode stc_M_goBack 233 = .ok (.goto (-222), 3) := by decide +kernel
theorem std_M_goBack_118 : decode stc_M_goBack 118 = .ok (.iload_n 1, 1) := by decide +kernel
theorem std_M_goBack_119 : decode stc_M_goBack 119 = .ok (.aload_n 0, 1) := by decide +kernel
theorem std_M_goBack_120 : decode stc_M_goBack 120 = .ok (.getfield 92, 3) := by decide +kernel
theorem std_M_goBack_123 : decode stc_M_goBack 123 = .ok (.if_icmp .ge 107, 3) := by decide +kernel
theorem std_M_goBack_126 : decode stc_M_goBack 126 = .ok (.aload_n 0, 1) := by decide +kernel
theorem std_M_goBack_127 : decode stc_M_goBack 127 = .ok (.iload_n 3, 1) := by decide +kernel
theorem std_M_goBack_128 : decode stc_M_goBack 128 = .ok (.iload 4, 2) := by decide +kernel
theorem std_M_goBack_130 : decode stc_M_goBack 130 = .ok (.invokevirtual 139, 3) := by decide +kernel
theorem kw_3_224 : Cond.code sty_M_next stc_M_next 8 (some .int) ∈ stGW := st_t3 (List.mem_of_getElem? (i := 224) (by decide +kernel)) (by decide +kernel)
theorem kw_3_221 : Cond.methodLink "StateTablesModel" 139 (sty_M_next) ∈ stGW := st_t3 (List.mem_of_getElem? (i := 221) (by decide +kernel)) (by decide +kernel)
theorem kw_3_223 : Cond.instanceMethod (sty_M_next) ∈ stGW := st_t3 (List.mem_of_getElem? (i := 223) (by decide +kernel)) (by decide +kernel)
theorem kw_0_21 : Cond.selects "StateTablesModel" (sty_M_next) (sty_M_next) ∈ stGW := st_t0 (List.mem_of_getElem? (i := 21) (by decide +kernel)) (by decide +kernel)
theorem std_M_goBack_133 : decode stc_M_goBack 133 = .ok (.istore 5, 2) := by decide +kernel
theorem std_M_goBack_135 : decode stc_M_goBack 135 = .ok (.iload 5, 2) := by decide +kernel
theorem std_M_goBack_137 : decode stc_M_goBack 137 = .ok (.ldc 129, 2) := by decide +kernel
theorem std_M_goBack_139 : decode stc_M_goBack 139 = .ok (.if_icmp .eq 85, 3) := by decide +kernel
theorem std_M_goBack_224 : decode stc_M_goBack 224 = .ok (.iinc 4 1, 3) := by decide +kernel
theorem std_M_goBack_227 : decode stc_M_goBack 227 = .ok (.goto (-120), 3) := by decide +kernel
theorem std_M_goBack_142 : decode stc_M_goBack 142 = .ok (.aload_n 0, 1) := by decide +kernel
theorem std_M_goBack_143 : decode stc_M_goBack 143 = .ok (.getfield 41, 3) := by decide +kernel
theorem kw_3_79 : Cond.fieldLink "StateTablesModel" 41 "StateTablesModel" "rowsFrom" "[J" ∈ stGW := st_t3 (List.mem_of_getElem? (i := 79) (by decide +kernel)) (by decide +kernel)
theorem std_M_goBack_146 : decode stc_M_goBack 146 = .ok (.iload 5, 2) := by decide +kernel
theorem std_M_goBack_148 : decode stc_M_goBack 148 = .ok (.laload, 1) := by decide +kernel
theorem std_M_goBack_149 : decode stc_M_goBack 149 = .ok (.lconst 0, 1) := by decide +kernel
theorem std_M_goBack_150 : decode stc_M_goBack 150 = .ok (.lcmp, 1) := by decide +kernel
theorem std_M_goBack_151 : decode stc_M_goBack 151 = .ok (.ifCond .le 73, 3) := by decide +kernel
theorem std_M_goBack_154 : decode stc_M_goBack 154 = .ok (.aload_n 0, 1) := by decide +kernel
theorem std_M_goBack_155 : decode stc_M_goBack 155 = .ok (.getfield 41, 3) := by decide +kernel
theorem std_M_goBack_158 : decode stc_M_goBack 158 = .ok (.iload_n 3, 1) := by decide +kernel
theorem std_M_goBack_159 : decode stc_M_goBack 159 = .ok (.aload_n 0, 1) := by decide +kernel
theorem std_M_goBack_160 : decode stc_M_goBack 160 = .ok (.getfield 41, 3) := by decide +kernel
theorem std_M_goBack_163 : decode stc_M_goBack 163 = .ok (.iload_n 3, 1) := by decide +kernel
theorem std_M_goBack_164 : decode stc_M_goBack 164 = .ok (.laload, 1) := by decide +kernel
theorem std_M_goBack_165 : decode stc_M_goBack 165 = .ok (.aload_n 0, 1) := by decide +kernel
theorem std_M_goBack_166 : decode stc_M_goBack 166 = .ok (.getfield 41, 3) := by decide +kernel
theorem std_M_goBack_169 : decode stc_M_goBack 169 = .ok (.iload 5, 2) := by decide +kernel
theorem std_M_goBack_171 : decode stc_M_goBack 171 = .ok (.laload, 1) := by decide +kernel
theorem std_M_goBack_172 : decode stc_M_goBack 172 = .ok (.ladd, 1) := by decide +kernel
theorem std_M_goBack_173 : decode stc_M_goBack 173 = .ok (.lastore, 1) := by decide +kernel
theorem std_M_goBack_174 : decode stc_M_goBack 174 = .ok (.aload_n 0, 1) := by decide +kernel
theorem std_M_goBack_175 : decode stc_M_goBack 175 = .ok (.getfield 47, 3) := by decide +kernel
theorem kw_3_81 : Cond.fieldLink "StateTablesModel" 47 "StateTablesModel" "costFrom" "[I" ∈ stGW := st_t3 (List.mem_of_getElem? (i := 81) (by decide +kernel)) (by decide +kernel)
theorem std_M_goBack_178 : decode stc_M_goBack 178 = .ok (.iload 5, 2) := by decide +kernel
theorem std_M_goBack_180 : decode stc_M_goBack 180 = .ok (.iaload, 1) := by decide +kernel
theorem std_M_goBack_181 : decode stc_M_goBack 181 = .ok (.aload_n 0, 1) := by decide +kernel
theorem std_M_goBack_182 : decode stc_M_goBack 182 = .ok (.getfield 17, 3) := by decide +kernel
theorem std_M_goBack_185 : decode stc_M_goBack 185 = .ok (.bipush 6, 2) := by decide +kernel
theorem std_M_goBack_187 : decode stc_M_goBack 187 = .ok (.iload_n 1, 1) := by decide +kernel
theorem std_M_goBack_188 : decode stc_M_goBack 188 = .ok (.imul, 1) := by decide +kernel
theorem std_M_goBack_189 : decode stc_M_goBack 189 = .ok (.iload 4, 2) := by decide +kernel
theorem std_M_goBack_191 : decode stc_M_goBack 191 = .ok (.iadd, 1) := by decide +kernel
theorem std_M_goBack_192 : decode stc_M_goBack 192 = .ok (.iaload, 1) := by decide +kernel
theorem std_M_goBack_193 : decode stc_M_goBack 193 = .ok (.iadd, 1) := by decide +kernel
theorem std_M_goBack_194 : decode stc_M_goBack 194 = .ok (.istore 6, 2) := by decide +kernel
theorem std_M_goBack_196 : decode stc_M_goBack 196 = .ok (.aload_n 0, 1) := by decide +kernel
theorem std_M_goBack_197 : decode stc_M_goBack 197 = .ok (.getfield 47, 3) := by decide +kernel
theorem std_M_goBack_200 : decode stc_M_goBack 200 = .ok (.iload_n 3, 1) := by decide +kernel
theorem std_M_goBack_201 : decode stc_M_goBack 201 = .ok (.iload 6, 2) := by decide +kernel
theorem std_M_goBack_203 : decode stc_M_goBack 203 = .ok (.aload_n 0, 1) := by decide +kernel
theorem std_M_goBack_204 : decode stc_M_goBack 204 = .ok (.getfield 47, 3) := by decide +kernel
theorem std_M_goBack_207 : decode stc_M_goBack 207 = .ok (.iload_n 3, 1) := by decide +kernel
theorem std_M_goBack_208 : decode stc_M_goBack 208 = .ok (.iaload, 1) := by decide +kernel
theorem std_M_goBack_209 : decode stc_M_goBack 209 = .ok (.if_icmp .ge 8, 3) := by decide +kernel
theorem std_M_goBack_217 : decode stc_M_goBack 217 = .ok (.aload_n 0, 1) := by decide +kernel
theorem std_M_goBack_218 : decode stc_M_goBack 218 = .ok (.getfield 47, 3) := by decide +kernel
theorem std_M_goBack_221 : decode stc_M_goBack 221 = .ok (.iload_n 3, 1) := by decide +kernel
theorem std_M_goBack_222 : decode stc_M_goBack 222 = .ok (.iaload, 1) := by decide +kernel
theorem std_M_goBack_223 : decode stc_M_goBack 223 = .ok (.iastore, 1) := by decide +kernel
theorem std_M_goBack_212 : decode stc_M_goBack 212 = .ok (.iload 6, 2) := by decide +kernel
theorem std_M_goBack_214 : decode stc_M_goBack 214 = .ok (.goto 9, 3) := by decide +kernel
theorem std_M_goBack_42 : decode stc_M_goBack 42 = .ok (.iload_n 3, 1) := by decide +kernel
theorem std_M_goBack_43 : decode stc_M_goBack 43 = .ok (.invokestatic 123, 3) := by decide +kernel
theorem std_M_goBack_46 : decode stc_M_goBack 46 = .ok (.aload_n 0, 1) := by decide +kernel
theorem std_M_goBack_47 : decode stc_M_goBack 47 = .ok (.getfield 109, 3) := by decide +kernel
theorem std_M_goBack_50 : decode stc_M_goBack 50 = .ok (.if_icmp .lt 18, 3) := by decide +kernel
theorem std_M_goBack_68 : decode stc_M_goBack 68 = .ok (.iconst 0, 1) := by decide +kernel
theorem std_M_goBack_69 : decode stc_M_goBack 69 = .ok (.istore 4, 2) := by decide +kernel
theorem std_M_goBack_71 : decode stc_M_goBack 71 = .ok (.aload_n 0, 1) := by decide +kernel
theorem std_M_goBack_72 : decode stc_M_goBack 72 = .ok (.getfield 41, 3) := by decide +kernel
theorem std_M_goBack_75 : decode stc_M_goBack 75 = .ok (.iload_n 3, 1) := by decide +kernel
theorem std_M_goBack_76 : decode stc_M_goBack 76 = .ok (.iload 4, 2) := by decide +kernel
theorem std_M_goBack_78 : decode stc_M_goBack 78 = .ok (.ifCond .eq 7, 3) := by decide +kernel
theorem std_M_goBack_85 : decode stc_M_goBack 85 = .ok (.lconst 0, 1) := by decide +kernel
theorem std_M_goBack_86 : decode stc_M_goBack 86 = .ok (.lastore, 1) := by decide +kernel
theorem std_M_goBack_87 : decode stc_M_goBack 87 = .ok (.aload_n 0, 1) := by decide +kernel
theorem std_M_goBack_88 : decode stc_M_goBack 88 = .ok (.getfield 47, 3) := by decide +kernel
theorem std_M_goBack_91 : decode stc_M_goBack 91 = .ok (.iload_n 3, 1) := by decide +kernel
theorem std_M_goBack_92 : decode stc_M_goBack 92 = .ok (.iload 4, 2) := by decide +kernel
theorem std_M_goBack_94 : decode stc_M_goBack 94 = .ok (.ifCond .eq 7, 3) := by decide +kernel
theorem std_M_goBack_101 : decode stc_M_goBack 101 = .ok (.ldc 134, 2) := by decide +kernel
theorem kw_3_213 : Cond.constant "StateTablesModel" 134 900000 ∈ stGW := st_t3 (List.mem_of_getElem? (i := 213) (by decide +kernel)) (by decide +kernel)
theorem std_M_goBack_103 : decode stc_M_goBack 103 = .ok (.iastore, 1) := by decide +kernel
theorem std_M_goBack_53 : decode stc_M_goBack 53 = .ok (.iload_n 3, 1) := by decide +kernel
theorem std_M_goBack_54 : decode stc_M_goBack 54 = .ok (.invokestatic 126, 3) := by decide +kernel
theorem std_M_goBack_57 : decode stc_M_goBack 57 = .ok (.aload_n 0, 1) := by decide +kernel
theorem std_M_goBack_58 : decode stc_M_goBack 58 = .ok (.getfield 112, 3) := by decide +kernel
theorem std_M_goBack_61 : decode stc_M_goBack 61 = .ok (.if_icmp .lt 7, 3) := by decide +kernel
theorem std_M_goBack_64 : decode stc_M_goBack 64 = .ok (.iconst 1, 1) := by decide +kernel
theorem std_M_goBack_65 : decode stc_M_goBack 65 = .ok (.goto 4, 3) := by decide +kernel
theorem std_M_goBack_81 : decode stc_M_goBack 81 = .ok (.lconst 1, 1) := by decide +kernel
theorem std_M_goBack_82 : decode stc_M_goBack 82 = .ok (.goto 4, 3) := by decide +kernel
theorem std_M_goBack_97 : decode stc_M_goBack 97 = .ok (.iconst 0, 1) := by decide +kernel
theorem std_M_goBack_98 : decode stc_M_goBack 98 = .ok (.goto 5, 3) := by decide +kernel
set_option maxHeartbeats 4000000 in
set_option maxRecDepth 100000 in
theorem c_m_goBack (l : Launch) (dC : Nat → ClassId) (dI : Nat → Nat → Nat) (cI cJ cZ : ClassId) (m0 : Nat) (k_ch : Nat) (k_co : Nat) (k_ua : Nat) (k_ub : Nat) (k_ba : Nat) (k_rt : Nat) (k_rf : Nat) (k_ct : Nat) (k_cf : Nat) (k_nd : Nat) (k_na : Nat) (k_no : Nat) (k_bt : Nat) (k_bc : Nat) (k_br : Nat) (k_pc : Nat) (k_pr : Nat) (k_la : Nat) (k_lb : Nat) (k_ha : Nat) (k_hb : Nat) (k_ls : Nat) (k_wc : Nat) (HM : Prop) (bg : Int) (pn : Int) (wd : Int) (mg : Int) (mw : Int) (mc : Int) (n : Nat) (fba : Int → Int) (gnd : Int → Int) (gna : Int → Int) (gno : Int → Int) (grf : Int → Int) (gcf : Int → Int) (fsz : Int → Int) (fco : Int → Int) (ffu : Int → Int) (fsu : Int → Int) (fbb : Int → Int) (fmo : Int → Int) (fle : Int → Int) (kBR : BR fbb fba) (kT : TB fsz fco ffu fsu fbb fmo) (kn12 : n ≤ 12) (ksz : ∀ j, 0 ≤ j → j < 13 → 0 ≤ fsz j ∧ fsz j ≤ 6) (kle : ∀ j, 0 ≤ j → j < 2 → 0 ≤ fle j ∧ fle j ≤ 40) (kM : ∀ d : Nat, d ≤ n → ME fsz ffu fsu fbb fmo d (gnd ((d : Nat) : Int)) gna gno) (kZ : ∀ j, 0 ≤ j → j < 11767 * (((n : Nat) : Int) + 1) → grf j = 0 ∧ gcf j = 900000) : ∀ sz, Met l sty_M_goBack (Cond.code sty_M_goBack stc_M_goBack 7 none :: stGW) ({ frames := 2, cells := 0, slots := 0, locals := 50 } : Room) (va_Pc [.ref m0] (zPre (dC, dI) stCl [(cI, .int), (cJ, .long), (cZ, .boolean)] st_nw [(m0, .inr (5, [.int (iI 0), .int (iI ((n : Nat) : Int)), .ref k_ch, .ref k_co, .ref k_ua, .ref k_ub, .ref k_ba, .int (iI (fle 0)), .int (iI (fle 1)), .int (iI (fmo 0)), .int (iI (fmo 1)), .int (iI (bI HM)), .ref k_rt, .ref k_rf, .ref k_ct, .ref k_cf, .ref k_nd, .ref k_na, .ref k_no, .ref k_bt, .ref k_bc, .ref k_br, .int (iI bg), .int (iI pn), .ref k_pc, .ref k_pr, .ref k_la, .ref k_lb, .ref k_ha, .ref k_hb, .ref k_ls, .ref k_wc, .int (iI wd), .int (iI mg), .int (iI mw), .int (iI mc)])), (k_ch, .inl (cI, aI 13 fsz)), (k_co, .inl (cI, aI 78 fco)), (k_ba, .inl (cZ, aI 468 fba)), (k_ua, .inl (cI, aI 78 ffu)), (k_ub, .inl (cI, aI 78 fsu)), (k_nd, .inl (cI, aI 13 gnd)), (k_na, .inl (cI, aI 5200 gna)), (k_rf, .inl (cJ, aL 152971 grf)), (k_cf, .inl (cI, aI 152971 gcf))] sz)) (va_Qv (fun (u : (Int → Int) × (Int → Int)) => ∀ e : Nat, e ≤ n → ∀ k, vk k → 0 < wt fsz ffu fsu fbb fmo e k → FB fsz fco ffu fsu fbb fmo fle n e k u.1 u.2) (zPost (dC, dI) stCl [(cI, .int), (cJ, .long), (cZ, .boolean)] [(m0, .inr (5, [.int (iI 0), .int (iI ((n : Nat) : Int)), .ref k_ch, .ref k_co, .ref k_ua, .ref k_ub, .ref k_ba, .int (iI (fle 0)), .int (iI (fle 1)), .int (iI (fmo 0)), .int (iI (fmo 1)), .int (iI (bI HM)), .ref k_rt, .ref k_rf, .ref k_ct, .ref k_cf, .ref k_nd, .ref k_na, .ref k_no, .ref k_bt, .ref k_bc, .ref k_br, .int (iI bg), .int (iI pn), .ref k_pc, .ref k_pr, .ref k_la, .ref k_lb, .ref k_ha, .ref k_hb, .ref k_ls, .ref k_wc, .int (iI wd), .int (iI mg), .int (iI mw), .int (iI mc)])), (k_ch, .inl (cI, aI 13 fsz)), (k_co, .inl (cI, aI 78 fco)), (k_ba, .inl (cZ, aI 468 fba)), (k_ua, .inl (cI, aI 78 ffu)), (k_ub, .inl (cI, aI 78 fsu)), (k_nd, .inl (cI, aI 13 gnd)), (k_na, .inl (cI, aI 5200 gna)), (k_rf, .inl (cJ, aL 152971 grf)), (k_cf, .inl (cI, aI 152971 gcf))] sz (fun u : (Int → Int) × (Int → Int) => [(m0, .inr (5, [.int (iI 0), .int (iI ((n : Nat) : Int)), .ref k_ch, .ref k_co, .ref k_ua, .ref k_ub, .ref k_ba, .int (iI (fle 0)), .int (iI (fle 1)), .int (iI (fmo 0)), .int (iI (fmo 1)), .int (iI (bI HM)), .ref k_rt, .ref k_rf, .ref k_ct, .ref k_cf, .ref k_nd, .ref k_na, .ref k_no, .ref k_bt, .ref k_bc, .ref k_br, .int (iI bg), .int (iI pn), .ref k_pc, .ref k_pr, .ref k_la, .ref k_lb, .ref k_ha, .ref k_hb, .ref k_ls, .ref k_wc, .int (iI wd), .int (iI mg), .int (iI mw), .int (iI mc)])), (k_ch, .inl (cI, aI 13 fsz)), (k_co, .inl (cI, aI 78 fco)), (k_ba, .inl (cZ, aI 468 fba)), (k_ua, .inl (cI, aI 78 ffu)), (k_ub, .inl (cI, aI 78 fsu)), (k_nd, .inl (cI, aI 13 gnd)), (k_na, .inl (cI, aI 5200 gna)), (k_rf, .inl (cJ, aL 152971 (u.1))), (k_cf, .inl (cI, aI 152971 (u.2)))])) (va_A [(m0, .inr (5, [.int (iI 0), .int (iI ((n : Nat) : Int)), .ref k_ch, .ref k_co, .ref k_ua, .ref k_ub, .ref k_ba, .int (iI (fle 0)), .int (iI (fle 1)), .int (iI (fmo 0)), .int (iI (fmo 1)), .int (iI (bI HM)), .ref k_rt, .ref k_rf, .ref k_ct, .ref k_cf, .ref k_nd, .ref k_na, .ref k_no, .ref k_bt, .ref k_bc, .ref k_br, .int (iI bg), .int (iI pn), .ref k_pc, .ref k_pr, .ref k_la, .ref k_lb, .ref k_ha, .ref k_hb, .ref k_ls, .ref k_wc, .int (iI wd), .int (iI mg), .int (iI mw), .int (iI mc)])), (k_ch, .inl (cI, aI 13 fsz)), (k_co, .inl (cI, aI 78 fco)), (k_ba, .inl (cZ, aI 468 fba)), (k_ua, .inl (cI, aI 78 ffu)), (k_ub, .inl (cI, aI 78 fsu)), (k_nd, .inl (cI, aI 13 gnd)), (k_na, .inl (cI, aI 5200 gna)), (k_rf, .inl (cJ, aL 152971 grf)), (k_cf, .inl (cI, aI 152971 gcf))] sz)) 0 0 (va_A [(m0, .inr (5, [.int (iI 0), .int (iI ((n : Nat) : Int)), .ref k_ch, .ref k_co, .ref k_ua, .ref k_ub, .ref k_ba, .int (iI (fle 0)), .int (iI (fle 1)), .int (iI (fmo 0)), .int (iI (fmo 1)), .int (iI (bI HM)), .ref k_rt, .ref k_rf, .ref k_ct, .ref k_cf, .ref k_nd, .ref k_na, .ref k_no, .ref k_bt, .ref k_bc, .ref k_br, .int (iI bg), .int (iI pn), .ref k_pc, .ref k_pr, .ref k_la, .ref k_lb, .ref k_ha, .ref k_hb, .ref k_ls, .ref k_wc, .int (iI wd), .int (iI mg), .int (iI mw), .int (iI mc)])), (k_ch, .inl (cI, aI 13 fsz)), (k_co, .inl (cI, aI 78 fco)), (k_ba, .inl (cZ, aI 468 fba)), (k_ua, .inl (cI, aI 78 ffu)), (k_ub, .inl (cI, aI 78 fsu)), (k_nd, .inl (cI, aI 13 gnd)), (k_na, .inl (cI, aI 5200 gna)), (k_rf, .inl (cJ, aL 152971 grf)), (k_cf, .inl (cI, aI 152971 gcf))] sz) := by
  refine met_v (by decide) rfl (Nat.le_of_ble_eq_true rfl) ?_
  intro p e s m below meth c A Q C hmn hret
  refine g_aload_n C 0 std_M_goBack_0 rfl ?_
  refine g_get C (st_sub sti_M) 0 rfl rfl 1 (by decide) (List.mem_cons_of_mem _ kw_3_67) rfl rfl std_M_goBack_1 ?_
  refine g_istore_n C (lv' := [(1, .int (iI ((n : Nat) : Int))), (0, .ref m0)]) std_M_goBack_4 (by decide) rfl ?_
  have L5 : ∀ (nn5 : Nat) (z : Int) (dn : Nat) (RF : Int → Int) (CF : Int → Int), (z = ((dn : Nat) : Int) - 1 ∧ dn ≤ n + 1) → GO fsz fco ffu fsu fbb fmo fle n dn RF CF → (z + 1) < (nn5 : Int) → G p l e ({ frames := 2, cells := 0, slots := 0, locals := 50 } : Room) s m ([.ref m0] : List Value).toArray below meth c (dC, dI) stCl 7 A 0 0 Q [(m0, .inr (5, [.int (iI 0), .int (iI ((n : Nat) : Int)), .ref k_ch, .ref k_co, .ref k_ua, .ref k_ub, .ref k_ba, .int (iI (fle 0)), .int (iI (fle 1)), .int (iI (fmo 0)), .int (iI (fmo 1)), .int (iI (bI HM)), .ref k_rt, .ref k_rf, .ref k_ct, .ref k_cf, .ref k_nd, .ref k_na, .ref k_no, .ref k_bt, .ref k_bc, .ref k_br, .int (iI bg), .int (iI pn), .ref k_pc, .ref k_pr, .ref k_la, .ref k_lb, .ref k_ha, .ref k_hb, .ref k_ls, .ref k_wc, .int (iI wd), .int (iI mg), .int (iI mw), .int (iI mc)])), (k_ch, .inl (cI, aI 13 fsz)), (k_co, .inl (cI, aI 78 fco)), (k_ba, .inl (cZ, aI 468 fba)), (k_ua, .inl (cI, aI 78 ffu)), (k_ub, .inl (cI, aI 78 fsu)), (k_nd, .inl (cI, aI 13 gnd)), (k_na, .inl (cI, aI 5200 gna)), (k_rf, .inl (cJ, aL 152971 RF)), (k_cf, .inl (cI, aI 152971 CF))] 5 [(1, .int (iI z)), (0, .ref m0)] [] := by
    intro nn5
    induction nn5 with
    | zero =>
      intro z dn RF CF kz kO hnn5
      exact absurd hnn5 (by omega)
    | succ nn5 ih5 =>
      intro z dn RF CF kz kO hnn5
      refine g_iload_n C 0 std_M_goBack_5 rfl ?_
      refine g_if_lt (tgt := 242) C std_M_goBack_6 (by decide) ⟨by omega, by omega⟩ (fun c1 => ?_) (fun c1 => ?_)
      · exact hret _ _ (RF, CF) (fun e h => kO.1 e (by omega) h) std_M_goBack_242
      · obtain ⟨d, hdn⟩ : ∃ d : Nat, dn = d + 1 := ⟨dn - 1, by omega⟩
        subst hdn
        have hz : z = ((d : Nat) : Int) := by omega
        have hM := kM d (by omega)
        rw [← hz] at hM
        have hm4 := hM.1
        have hsz := ksz z (by omega) (by omega)
        rw [hz] at hM
        refine g_iconst C std_M_goBack_9 ?_
        refine g_istore_n C (lv' := [(2, .int (iI 0)), (1, .int (iI z)), (0, .ref m0)]) std_M_goBack_10 (by decide) rfl ?_
        have L11 : ∀ (nn11 : Nat) (x : Int) (RF : Int → Int) (CF : Int → Int), (0 ≤ x ∧ x ≤ gnd z) → GB fsz fco ffu fsu fbb fmo fle n d x (fun i => kk (gna (400 * ((d : Nat) : Int) + i) - 11767 * ((d : Nat) : Int))) RF CF → (gnd z - x) < (nn11 : Int) → G p l e ({ frames := 2, cells := 0, slots := 0, locals := 50 } : Room) s m ([.ref m0] : List Value).toArray below meth c (dC, dI) stCl 7 A 0 0 Q [(m0, .inr (5, [.int (iI 0), .int (iI ((n : Nat) : Int)), .ref k_ch, .ref k_co, .ref k_ua, .ref k_ub, .ref k_ba, .int (iI (fle 0)), .int (iI (fle 1)), .int (iI (fmo 0)), .int (iI (fmo 1)), .int (iI (bI HM)), .ref k_rt, .ref k_rf, .ref k_ct, .ref k_cf, .ref k_nd, .ref k_na, .ref k_no, .ref k_bt, .ref k_bc, .ref k_br, .int (iI bg), .int (iI pn), .ref k_pc, .ref k_pr, .ref k_la, .ref k_lb, .ref k_ha, .ref k_hb, .ref k_ls, .ref k_wc, .int (iI wd), .int (iI mg), .int (iI mw), .int (iI mc)])), (k_ch, .inl (cI, aI 13 fsz)), (k_co, .inl (cI, aI 78 fco)), (k_ba, .inl (cZ, aI 468 fba)), (k_ua, .inl (cI, aI 78 ffu)), (k_ub, .inl (cI, aI 78 fsu)), (k_nd, .inl (cI, aI 13 gnd)), (k_na, .inl (cI, aI 5200 gna)), (k_rf, .inl (cJ, aL 152971 RF)), (k_cf, .inl (cI, aI 152971 CF))] 11 [(2, .int (iI x)), (1, .int (iI z)), (0, .ref m0)] [] := by
          intro nn11
          induction nn11 with
          | zero =>
            intro x RF CF kx kG hnn11
            exact absurd hnn11 (by omega)
          | succ nn11 ih11 =>
            intro x RF CF kx kG hnn11
            refine g_iload_n C 0 std_M_goBack_11 rfl ?_
            refine g_aload_n C 2 std_M_goBack_12 rfl ?_
            refine g_get C (st_sub sti_M) 0 rfl rfl 16 (by decide) (List.mem_cons_of_mem _ kw_3_82) rfl rfl std_M_goBack_13 ?_
            refine g_iload_n C 1 std_M_goBack_16 rfl ?_
            refine g_iald C 6 0 rfl rfl (by omega) (by omega) (by omega) std_M_goBack_17 ?_
            refine g_icmp_ge (tgt := 236) C std_M_goBack_18 (by decide) ⟨by omega, by omega⟩ ⟨by omega, by omega⟩ (fun c2 => ?_) (fun c2 => ?_)
            · refine g_iinc C (lv' := [(1, .int (iI (z + (-1)))), (2, .int (iI x)), (0, .ref m0)]) 1 std_M_goBack_236 rfl (by decide) rfl ?_
              refine g_goto (tgt := 5) C std_M_goBack_239 (by decide) ?_
              refine g_lv (lv' := [(1, .int (iI (z + (-1)))), (0, .ref m0)]) [0, 2] rfl ?_
              exact ih5 (z + (-1)) d RF CF (by omega) (gb_go kG hM.2.1 (by rw [← hz]; omega) (fun i h1 h2 => (me_at kT (by omega) hM ⟨h1, by rw [← hz]; omega⟩).1)) (by omega)
            · have hA := me_at kT (by omega) hM (x := x) ⟨by omega, by rw [← hz]; omega⟩
              have hAe : (gna ((400 * z) + x)) = 11767 * ((d : Nat) : Int) + kat (kk (gna (400 * ((d : Nat) : Int) + x) - 11767 * ((d : Nat) : Int))) := by rw [hz]; exact hA.2.2
              have hAr : 11767 * ((d : Nat) : Int) ≤ (gna ((400 * z) + x)) ∧ (gna ((400 * z) + x)) < 11767 * (((d : Nat) : Int) + 1) := by have := (kat_r hA.1).1; omega
              refine g_aload_n C 2 std_M_goBack_21 rfl ?_
              refine g_get C (st_sub sti_M) 0 rfl rfl 17 (by decide) (List.mem_cons_of_mem _ kw_3_83) rfl rfl std_M_goBack_22 ?_
              refine g_sipush C std_M_goBack_25 (by decide) ?_
              refine g_iload_n C 1 std_M_goBack_28 rfl ?_
              refine g_imul C std_M_goBack_29 ?_
              refine g_iload_n C 0 std_M_goBack_30 rfl ?_
              refine g_iadd C std_M_goBack_31 ?_
              refine g_iald C 7 0 rfl rfl (by omega) (by omega) (by omega) std_M_goBack_32 ?_
              refine g_istore_n C (lv' := [(3, .int (iI (gna ((400 * z) + x)))), (2, .int (iI x)), (1, .int (iI z)), (0, .ref m0)]) std_M_goBack_33 (by decide) rfl ?_
              refine g_iload_n C 2 std_M_goBack_34 rfl ?_
              refine g_aload_n C 3 std_M_goBack_35 rfl ?_
              refine g_get C (st_sub sti_M) 0 rfl rfl 1 (by decide) (List.mem_cons_of_mem _ kw_3_67) rfl rfl std_M_goBack_36 ?_
              refine g_icmp_ne (tgt := 104) C std_M_goBack_39 (by decide) ⟨by omega, by omega⟩ ⟨by omega, by omega⟩ (fun c3 => ?_) (fun c3 => ?_)
              · refine g_ws (ws' := [(m0, .inr (5, [.int (iI 0), .int (iI ((n : Nat) : Int)), .ref k_ch, .ref k_co, .ref k_ua, .ref k_ub, .ref k_ba, .int (iI (fle 0)), .int (iI (fle 1)), .int (iI (fmo 0)), .int (iI (fmo 1)), .int (iI (bI HM)), .ref k_rt, .ref k_rf, .ref k_ct, .ref k_cf, .ref k_nd, .ref k_na, .ref k_no, .ref k_bt, .ref k_bc, .ref k_br, .int (iI bg), .int (iI pn), .ref k_pc, .ref k_pr, .ref k_la, .ref k_lb, .ref k_ha, .ref k_hb, .ref k_ls, .ref k_wc, .int (iI wd), .int (iI mg), .int (iI mw), .int (iI mc)])), (k_ch, .inl (cI, aI 13 fsz)), (k_co, .inl (cI, aI 78 fco)), (k_ba, .inl (cZ, aI 468 fba)), (k_ua, .inl (cI, aI 78 ffu)), (k_ub, .inl (cI, aI 78 fsu)), (k_nd, .inl (cI, aI 13 gnd)), (k_na, .inl (cI, aI 5200 gna)), (k_rf, .inl (cJ, aL 152971 (uZ RF (gna ((400 * z) + x)) (RF (gna ((400 * z) + x)))))), (k_cf, .inl (cI, aI 152971 (uZ CF (gna ((400 * z) + x)) (CF (gna ((400 * z) + x))))))]) (by rw [uZ_id, uZ_id]) ?_
                have hg0 := gb_zero kG hM.2.1 ⟨by omega, by rw [← hz]; omega⟩ (fun i h1 h2 => (me_at kT (by omega) hM ⟨h1, h2⟩).1)
                have hzr : RF (gna ((400 * z) + x)) = bsw ffu fsu fbb fmo fsz fle n d (kk (gna (400 * ((d : Nat) : Int) + x) - 11767 * ((d : Nat) : Int))) (0 : Int).toNat ∧ CF (gna ((400 * z) + x)) = bcw ffu fsu fbb fmo fsz fco fle n d (kk (gna (400 * ((d : Nat) : Int) + x) - 11767 * ((d : Nat) : Int))) (0 : Int).toNat := ⟨(show RF (gna ((400 * z) + x)) = 0 by rw [hAe]; exact hg0.1).trans bs_z.symm, (show CF (gna ((400 * z) + x)) = 900000 by rw [hAe]; exact hg0.2).trans bc_z.symm⟩
                refine g_iconst C std_M_goBack_104 ?_
                refine g_istore C (lv' := [(4, .int (iI 0)), (3, .int (iI (gna ((400 * z) + x)))), (2, .int (iI x)), (1, .int (iI z)), (0, .ref m0)]) std_M_goBack_105 (by decide) rfl ?_
                have L107 : ∀ (nn107 : Nat) (y : Int) (pp : Int) (qq : Int), (0 ≤ y ∧ (d < n → y ≤ fsz z)) → ((d = n ∧ pp = wf fsz ffu fsu fbb fmo fle (n - d) d (kk (gna (400 * ((d : Nat) : Int) + x) - 11767 * ((d : Nat) : Int))) ∧ qq = sel (0 < wf fsz ffu fsu fbb fmo fle (n - d) d (kk (gna (400 * ((d : Nat) : Int) + x) - 11767 * ((d : Nat) : Int)))) (cf fsz fco ffu fsu fbb fmo fle (n - d) d (kk (gna (400 * ((d : Nat) : Int) + x) - 11767 * ((d : Nat) : Int)))) 900000) ∨ (d < n ∧ pp = bsw ffu fsu fbb fmo fsz fle n d (kk (gna (400 * ((d : Nat) : Int) + x) - 11767 * ((d : Nat) : Int))) y.toNat ∧ qq = bcw ffu fsu fbb fmo fsz fco fle n d (kk (gna (400 * ((d : Nat) : Int) + x) - 11767 * ((d : Nat) : Int))) y.toNat)) → (20 - y) < (nn107 : Int) → G p l e ({ frames := 2, cells := 0, slots := 0, locals := 50 } : Room) s m ([.ref m0] : List Value).toArray below meth c (dC, dI) stCl 7 A 0 0 Q [(m0, .inr (5, [.int (iI 0), .int (iI ((n : Nat) : Int)), .ref k_ch, .ref k_co, .ref k_ua, .ref k_ub, .ref k_ba, .int (iI (fle 0)), .int (iI (fle 1)), .int (iI (fmo 0)), .int (iI (fmo 1)), .int (iI (bI HM)), .ref k_rt, .ref k_rf, .ref k_ct, .ref k_cf, .ref k_nd, .ref k_na, .ref k_no, .ref k_bt, .ref k_bc, .ref k_br, .int (iI bg), .int (iI pn), .ref k_pc, .ref k_pr, .ref k_la, .ref k_lb, .ref k_ha, .ref k_hb, .ref k_ls, .ref k_wc, .int (iI wd), .int (iI mg), .int (iI mw), .int (iI mc)])), (k_ch, .inl (cI, aI 13 fsz)), (k_co, .inl (cI, aI 78 fco)), (k_ba, .inl (cZ, aI 468 fba)), (k_ua, .inl (cI, aI 78 ffu)), (k_ub, .inl (cI, aI 78 fsu)), (k_nd, .inl (cI, aI 13 gnd)), (k_na, .inl (cI, aI 5200 gna)), (k_rf, .inl (cJ, aL 152971 (uZ RF (gna ((400 * z) + x)) pp))), (k_cf, .inl (cI, aI 152971 (uZ CF (gna ((400 * z) + x)) qq)))] 107 [(4, .int (iI y)), (3, .int (iI (gna ((400 * z) + x)))), (2, .int (iI x)), (1, .int (iI z)), (0, .ref m0)] [] := by
                  intro nn107
                  induction nn107 with
                  | zero =>
                    intro y pp qq ky kP hnn107
                    exact absurd hnn107 (by omega)
                  | succ nn107 ih107 =>
                    intro y pp qq ky kP hnn107
                    refine g_iload C 0 std_M_goBack_107 rfl ?_
                    refine g_aload_n C 4 std_M_goBack_109 rfl ?_
                    refine g_get C (st_sub sti_M) 0 rfl rfl 2 (by decide) (List.mem_cons_of_mem _ kw_3_68) rfl rfl std_M_goBack_110 ?_
                    refine g_iload_n C 3 std_M_goBack_113 rfl ?_
                    refine g_iald C 1 0 rfl rfl (by omega) (by omega) (by omega) std_M_goBack_114 ?_
                    refine g_icmp_ge (tgt := 230) C std_M_goBack_115 (by decide) ⟨by omega, by omega⟩ ⟨by omega, by omega⟩ (fun c4 => ?_) (fun c4 => ?_)
                    · have hfin := kP.elim (fun q => q.2) (fun q => bs_fin q.1 (by rw [← hz]; omega) q.2.1 q.2.2)
                      refine g_iinc C (lv' := [(2, .int (iI (x + 1))), (4, .int (iI y)), (3, .int (iI (gna ((400 * z) + x)))), (1, .int (iI z)), (0, .ref m0)]) 2 std_M_goBack_230 rfl (by decide) rfl ?_
                      refine g_goto (tgt := 11) C std_M_goBack_233 (by decide) ?_
                      refine g_lv (lv' := [(2, .int (iI (x + 1))), (1, .int (iI z)), (0, .ref m0)]) [0, 3, 4] rfl ?_
                      exact ih11 (x + 1) (uZ RF (gna ((400 * z) + x)) pp) (uZ CF (gna ((400 * z) + x)) qq) (by omega) (gb_node kG hM.2.1 ⟨by omega, by rw [← hz]; omega⟩ (fun i h1 h2 => (me_at kT (by omega) hM ⟨h1, h2⟩).1) hAe hfin.1 hfin.2) (by omega)
                    · refine g_iload_n C 3 std_M_goBack_118 rfl ?_
                      refine g_aload_n C 4 std_M_goBack_119 rfl ?_
                      refine g_get C (st_sub sti_M) 0 rfl rfl 1 (by decide) (List.mem_cons_of_mem _ kw_3_67) rfl rfl std_M_goBack_120 ?_
                      refine g_icmp_ge (tgt := 230) C std_M_goBack_123 (by decide) ⟨by omega, by omega⟩ ⟨by omega, by omega⟩ (fun c5 => ?_) (fun c5 => ?_)
                      · have hfin := kP.elim (fun q => q.2) (fun q => bs_fin q.1 (by rw [← hz]; omega) q.2.1 q.2.2)
                        refine g_iinc C (lv' := [(2, .int (iI (x + 1))), (4, .int (iI y)), (3, .int (iI (gna ((400 * z) + x)))), (1, .int (iI z)), (0, .ref m0)]) 2 std_M_goBack_230 rfl (by decide) rfl ?_
                        refine g_goto (tgt := 11) C std_M_goBack_233 (by decide) ?_
                        refine g_lv (lv' := [(2, .int (iI (x + 1))), (1, .int (iI z)), (0, .ref m0)]) [0, 3, 4] rfl ?_
                        exact ih11 (x + 1) (uZ RF (gna ((400 * z) + x)) pp) (uZ CF (gna ((400 * z) + x)) qq) (by omega) (gb_node kG hM.2.1 ⟨by omega, by rw [← hz]; omega⟩ (fun i h1 h2 => (me_at kT (by omega) hM ⟨h1, h2⟩).1) hAe hfin.1 hfin.2) (by omega)
                      · obtain hP : d < n ∧ pp = bsw ffu fsu fbb fmo fsz fle n d (kk (gna (400 * ((d : Nat) : Int) + x) - 11767 * ((d : Nat) : Int))) y.toNat ∧ qq = bcw ffu fsu fbb fmo fsz fco fle n d (kk (gna (400 * ((d : Nat) : Int) + x) - 11767 * ((d : Nat) : Int))) y.toNat := kP.resolve_left (fun q => by omega)
                        have hbr := bcw_r (fle := fle) (k := kk (gna (400 * ((d : Nat) : Int) + x) - 11767 * ((d : Nat) : Int))) (y := y.toNat) kT kn12 hP.1 (by rw [← hz]; omega)
                        rw [← hP.2.2] at hbr
                        refine g_aload_n C 4 std_M_goBack_126 rfl ?_
                        refine g_iload_n C 1 std_M_goBack_127 rfl ?_
                        refine g_iload C 0 std_M_goBack_128 rfl ?_
                        refine g_V_i (wc := [(m0, .inr (5, [.int (iI 0), .int (iI ((n : Nat) : Int)), .ref k_ch, .ref k_co, .ref k_ua, .ref k_ub, .ref k_ba, .int (iI (fle 0)), .int (iI (fle 1)), .int (iI (fmo 0)), .int (iI (fmo 1)), .int (iI (bI HM)), .ref k_rt, .ref k_rf, .ref k_ct, .ref k_cf, .ref k_nd, .ref k_na, .ref k_no, .ref k_bt, .ref k_bc, .ref k_br, .int (iI bg), .int (iI pn), .ref k_pc, .ref k_pr, .ref k_la, .ref k_lb, .ref k_ha, .ref k_hb, .ref k_ls, .ref k_wc, .int (iI wd), .int (iI mg), .int (iI mw), .int (iI mc)])), (k_ba, .inl (cZ, aI 468 fba)), (k_ua, .inl (cI, aI 78 ffu)), (k_ub, .inl (cI, aI 78 fsu))]) (wr := [(k_ch, .inl (cI, aI 13 fsz)), (k_co, .inl (cI, aI 78 fco)), (k_nd, .inl (cI, aI 13 gnd)), (k_na, .inl (cI, aI 5200 gna)), (k_rf, .inl (cJ, aL 152971 (uZ RF (gna ((400 * z) + x)) pp))), (k_cf, .inl (cI, aI 152971 (uZ CF (gna ((400 * z) + x)) qq)))]) (rest := []) C (c_m_next l dC dI cI cJ cZ m0 k_ch k_co k_ua k_ub k_ba k_rt k_rf k_ct k_cf k_nd k_na k_no k_bt k_bc k_br k_pc k_pr k_la k_lb k_ha k_hb k_ls k_wc HM bg pn wd mg mw mc ((n : Nat) : Int) d fle fba fsz fco ffu fsu fbb fmo (gna ((400 * z) + x)) y (kk (gna (400 * ((d : Nat) : Int) + x) - 11767 * ((d : Nat) : Int))) (kBR) (kT) (by omega) (by omega) (hA.1) (fun q => by subst q; exact wt_00 hA.2.1) (hAe)) (st_cV C kw_3_224 kw_3_221 kw_1_6 kw_3_223 kw_0_21 sth_M_next ⟨Nat.le_of_ble_eq_true rfl, Nat.le_of_ble_eq_true rfl⟩) 0 rfl rfl rfl rfl (Nat.le_of_ble_eq_true rfl) std_M_goBack_130 ⟨Nat.le_of_ble_eq_true rfl, Nat.le_of_ble_eq_true rfl⟩ [0, 3, 4, 5] [1, 2, 6, 7, 8, 9] rfl rfl rfl rfl (by decide) (fun r6 u7 h8 => ?_)
                        subst h8
                        refine g_ws (ws' := [(k_ch, .inl (cI, aI 13 fsz)), (k_co, .inl (cI, aI 78 fco)), (k_nd, .inl (cI, aI 13 gnd)), (k_na, .inl (cI, aI 5200 gna)), (k_rf, .inl (cJ, aL 152971 (uZ RF (gna ((400 * z) + x)) pp))), (k_cf, .inl (cI, aI 152971 (uZ CF (gna ((400 * z) + x)) qq))), (m0, .inr (5, [.int (iI 0), .int (iI ((n : Nat) : Int)), .ref k_ch, .ref k_co, .ref k_ua, .ref k_ub, .ref k_ba, .int (iI (fle 0)), .int (iI (fle 1)), .int (iI (fmo 0)), .int (iI (fmo 1)), .int (iI (bI HM)), .ref k_rt, .ref k_rf, .ref k_ct, .ref k_cf, .ref k_nd, .ref k_na, .ref k_no, .ref k_bt, .ref k_bc, .ref k_br, .int (iI bg), .int (iI pn), .ref k_pc, .ref k_pr, .ref k_la, .ref k_lb, .ref k_ha, .ref k_hb, .ref k_ls, .ref k_wc, .int (iI wd), .int (iI mg), .int (iI mw), .int (iI mc)])), (k_ba, .inl (cZ, aI 468 fba)), (k_ua, .inl (cI, aI 78 ffu)), (k_ub, .inl (cI, aI 78 fsu))]) rfl ?_
                        have hnx : ((kn fbb ffu fsu fmo ((((d : Nat) : Int) * 6) + y) y (kk (gna (400 * ((d : Nat) : Int) + x) - 11767 * ((d : Nat) : Int)))) = -1 ∧ (nxt fbb ffu fsu fmo ((d : Nat) : Int) y (kk (gna (400 * ((d : Nat) : Int) + x) - 11767 * ((d : Nat) : Int)))) = -1000000) ∨ (¬ (kn fbb ffu fsu fmo ((((d : Nat) : Int) * 6) + y) y (kk (gna (400 * ((d : Nat) : Int) + x) - 11767 * ((d : Nat) : Int)))) = -1 ∧ (nxt fbb ffu fsu fmo ((d : Nat) : Int) y (kk (gna (400 * ((d : Nat) : Int) + x) - 11767 * ((d : Nat) : Int)))) = 11767 * (((d : Nat) : Int) + 1) + kat (kn fbb ffu fsu fmo ((((d : Nat) : Int) * 6) + y) y (kk (gna (400 * ((d : Nat) : Int) + x) - 11767 * ((d : Nat) : Int))))) := nx_cases
                        have hvk1 : ¬ (kn fbb ffu fsu fmo ((((d : Nat) : Int) * 6) + y) y (kk (gna (400 * ((d : Nat) : Int) + x) - 11767 * ((d : Nat) : Int)))) = -1 → vk (kn fbb ffu fsu fmo ((((d : Nat) : Int) * 6) + y) y (kk (gna (400 * ((d : Nat) : Int) + x) - 11767 * ((d : Nat) : Int)))) := fun q => (kn_vk kT (by omega) (by omega) (by omega) (by omega) hA.1 q).1
                        have hvr : ¬ (kn fbb ffu fsu fmo ((((d : Nat) : Int) * 6) + y) y (kk (gna (400 * ((d : Nat) : Int) + x) - 11767 * ((d : Nat) : Int)))) = -1 → 0 ≤ kat (kn fbb ffu fsu fmo ((((d : Nat) : Int) * 6) + y) y (kk (gna (400 * ((d : Nat) : Int) + x) - 11767 * ((d : Nat) : Int)))) ∧ kat (kn fbb ffu fsu fmo ((((d : Nat) : Int) * 6) + y) y (kk (gna (400 * ((d : Nat) : Int) + x) - 11767 * ((d : Nat) : Int)))) < 11767 := fun q => (kat_r (hvk1 q)).1
                        refine g_istore C (lv' := [(5, .int (iI (nxt fbb ffu fsu fmo ((d : Nat) : Int) y (kk (gna (400 * ((d : Nat) : Int) + x) - 11767 * ((d : Nat) : Int)))))), (4, .int (iI y)), (3, .int (iI (gna ((400 * z) + x)))), (2, .int (iI x)), (1, .int (iI z)), (0, .ref m0)]) std_M_goBack_133 (by decide) rfl ?_
                        refine g_iload C 0 std_M_goBack_135 rfl ?_
                        refine g_ldc C (z := (-1000000)) (List.mem_cons_of_mem _ kw_3_234) (by decide) std_M_goBack_137 ?_
                        refine g_icmp_eq (tgt := 224) C std_M_goBack_139 (by decide) ⟨by omega, by omega⟩ ⟨by omega, by omega⟩ (fun c9 => ?_) (fun c9 => ?_)
                        · have hsh : (kn fbb ffu fsu fmo ((((d : Nat) : Int) * 6) + y) y (kk (gna (400 * ((d : Nat) : Int) + x) - 11767 * ((d : Nat) : Int)))) = -1 := by omega
                          refine g_iinc C (lv' := [(4, .int (iI (y + 1))), (5, .int (iI (nxt fbb ffu fsu fmo ((d : Nat) : Int) y (kk (gna (400 * ((d : Nat) : Int) + x) - 11767 * ((d : Nat) : Int)))))), (3, .int (iI (gna ((400 * z) + x)))), (2, .int (iI x)), (1, .int (iI z)), (0, .ref m0)]) 1 std_M_goBack_224 rfl (by decide) rfl ?_
                          refine g_goto (tgt := 107) C std_M_goBack_227 (by decide) ?_
                          refine g_sub (ws' := [(m0, .inr (5, [.int (iI 0), .int (iI ((n : Nat) : Int)), .ref k_ch, .ref k_co, .ref k_ua, .ref k_ub, .ref k_ba, .int (iI (fle 0)), .int (iI (fle 1)), .int (iI (fmo 0)), .int (iI (fmo 1)), .int (iI (bI HM)), .ref k_rt, .ref k_rf, .ref k_ct, .ref k_cf, .ref k_nd, .ref k_na, .ref k_no, .ref k_bt, .ref k_bc, .ref k_br, .int (iI bg), .int (iI pn), .ref k_pc, .ref k_pr, .ref k_la, .ref k_lb, .ref k_ha, .ref k_hb, .ref k_ls, .ref k_wc, .int (iI wd), .int (iI mg), .int (iI mw), .int (iI mc)])), (k_ch, .inl (cI, aI 13 fsz)), (k_co, .inl (cI, aI 78 fco)), (k_ba, .inl (cZ, aI 468 fba)), (k_ua, .inl (cI, aI 78 ffu)), (k_ub, .inl (cI, aI 78 fsu)), (k_nd, .inl (cI, aI 13 gnd)), (k_na, .inl (cI, aI 5200 gna)), (k_rf, .inl (cJ, aL 152971 (uZ RF (gna ((400 * z) + x)) pp))), (k_cf, .inl (cI, aI 152971 (uZ CF (gna ((400 * z) + x)) qq)))]) [6, 0, 1, 7, 8, 9, 2, 3, 4, 5] rfl rfl ?_
                          refine g_lv (lv' := [(4, .int (iI (y + 1))), (3, .int (iI (gna ((400 * z) + x)))), (2, .int (iI x)), (1, .int (iI z)), (0, .ref m0)]) [0, 2, 3, 4, 5] rfl ?_
                          refine g_wide (k := 0) (n := 0) (Nat.le_of_ble_eq_true rfl) (Nat.le_of_ble_eq_true rfl) ?_
                          exact ih107 (y + 1) pp qq (by omega) (Or.inr ⟨hP.1, hP.2.1.trans (bs_no (fco := fco) (by omega) (Or.inl hsh)).1.symm, hP.2.2.trans (bs_no (by omega) (Or.inl hsh)).2.symm⟩) (by omega)
                        · have hop : ¬ (kn fbb ffu fsu fmo ((((d : Nat) : Int) * 6) + y) y (kk (gna (400 * ((d : Nat) : Int) + x) - 11767 * ((d : Nat) : Int)))) = -1 := by omega
                          have hvr2 := hvr hop
                          have hto : (nxt fbb ffu fsu fmo ((d : Nat) : Int) y (kk (gna (400 * ((d : Nat) : Int) + x) - 11767 * ((d : Nat) : Int)))) = 11767 * (((d : Nat) : Int) + 1) + kat (kn fbb ffu fsu fmo ((((d : Nat) : Int) * 6) + y) y (kk (gna (400 * ((d : Nat) : Int) + x) - 11767 * ((d : Nat) : Int)))) := by omega
                          have hF := kG.1 (d + 1) (by omega) (by omega) (kn fbb ffu fsu fmo ((((d : Nat) : Int) * 6) + y) y (kk (gna (400 * ((d : Nat) : Int) + x) - 11767 * ((d : Nat) : Int)))) (hvk1 hop) (wt_pos kT (by omega) (by omega) (by rw [← hz]; omega) hA.1 hA.2.1 hop)
                          unfold FB at hF
                          rw [show 11767 * ((d + 1 : Nat) : Int) = 11767 * (((d : Nat) : Int) + 1) by omega, ← hto] at hF
                          have hR1 : (uZ RF (gna ((400 * z) + x)) pp) (nxt fbb ffu fsu fmo ((d : Nat) : Int) y (kk (gna (400 * ((d : Nat) : Int) + x) - 11767 * ((d : Nat) : Int)))) = RF (nxt fbb ffu fsu fmo ((d : Nat) : Int) y (kk (gna (400 * ((d : Nat) : Int) + x) - 11767 * ((d : Nat) : Int)))) := uZ_n (by omega)
                          have hC1 : (uZ CF (gna ((400 * z) + x)) qq) (nxt fbb ffu fsu fmo ((d : Nat) : Int) y (kk (gna (400 * ((d : Nat) : Int) + x) - 11767 * ((d : Nat) : Int)))) = CF (nxt fbb ffu fsu fmo ((d : Nat) : Int) y (kk (gna (400 * ((d : Nat) : Int) + x) - 11767 * ((d : Nat) : Int)))) := uZ_n (by omega)
                          have hwn := wf_nn (fsz := fsz) (ffu := ffu) (fsu := fsu) (fbb := fbb) (fmo := fmo) (fle := fle) (n - (d + 1)) (d + 1) (kn fbb ffu fsu fmo ((((d : Nat) : Int) * 6) + y) y (kk (gna (400 * ((d : Nat) : Int) + x) - 11767 * ((d : Nat) : Int))))
                          have hwb := wf_big (fle := fle) kT (j := n - (d + 1)) (d := d + 1) (k := (kn fbb ffu fsu fmo ((((d : Nat) : Int) * 6) + y) y (kk (gna (400 * ((d : Nat) : Int) + x) - 11767 * ((d : Nat) : Int))))) (by omega)
                          refine g_aload_n C 5 std_M_goBack_142 rfl ?_
                          refine g_get C (st_sub sti_M) 6 rfl rfl 13 (by decide) (List.mem_cons_of_mem _ kw_3_79) rfl rfl std_M_goBack_143 ?_
                          refine g_iload C 0 std_M_goBack_146 rfl ?_
                          refine g_lald C 4 1 rfl rfl (by omega) (by omega) (by omega) std_M_goBack_148 ?_
                          refine g_lconst C (z := 0) std_M_goBack_149 (by decide) ?_
                          refine g_lcmp_le (tgt := 224) C std_M_goBack_150 std_M_goBack_151 (by decide) ⟨by omega, by omega⟩ ⟨by omega, by omega⟩ (fun c10 => ?_) (fun c10 => ?_)
                          · refine g_iinc C (lv' := [(4, .int (iI (y + 1))), (5, .int (iI (nxt fbb ffu fsu fmo ((d : Nat) : Int) y (kk (gna (400 * ((d : Nat) : Int) + x) - 11767 * ((d : Nat) : Int)))))), (3, .int (iI (gna ((400 * z) + x)))), (2, .int (iI x)), (1, .int (iI z)), (0, .ref m0)]) 1 std_M_goBack_224 rfl (by decide) rfl ?_
                            refine g_goto (tgt := 107) C std_M_goBack_227 (by decide) ?_
                            refine g_sub (ws' := [(m0, .inr (5, [.int (iI 0), .int (iI ((n : Nat) : Int)), .ref k_ch, .ref k_co, .ref k_ua, .ref k_ub, .ref k_ba, .int (iI (fle 0)), .int (iI (fle 1)), .int (iI (fmo 0)), .int (iI (fmo 1)), .int (iI (bI HM)), .ref k_rt, .ref k_rf, .ref k_ct, .ref k_cf, .ref k_nd, .ref k_na, .ref k_no, .ref k_bt, .ref k_bc, .ref k_br, .int (iI bg), .int (iI pn), .ref k_pc, .ref k_pr, .ref k_la, .ref k_lb, .ref k_ha, .ref k_hb, .ref k_ls, .ref k_wc, .int (iI wd), .int (iI mg), .int (iI mw), .int (iI mc)])), (k_ch, .inl (cI, aI 13 fsz)), (k_co, .inl (cI, aI 78 fco)), (k_ba, .inl (cZ, aI 468 fba)), (k_ua, .inl (cI, aI 78 ffu)), (k_ub, .inl (cI, aI 78 fsu)), (k_nd, .inl (cI, aI 13 gnd)), (k_na, .inl (cI, aI 5200 gna)), (k_rf, .inl (cJ, aL 152971 (uZ RF (gna ((400 * z) + x)) pp))), (k_cf, .inl (cI, aI 152971 (uZ CF (gna ((400 * z) + x)) qq)))]) [6, 0, 1, 7, 8, 9, 2, 3, 4, 5] rfl rfl ?_
                            refine g_lv (lv' := [(4, .int (iI (y + 1))), (3, .int (iI (gna ((400 * z) + x)))), (2, .int (iI x)), (1, .int (iI z)), (0, .ref m0)]) [0, 2, 3, 4, 5] rfl ?_
                            refine g_wide (k := 0) (n := 0) (Nat.le_of_ble_eq_true rfl) (Nat.le_of_ble_eq_true rfl) ?_
                            exact ih107 (y + 1) pp qq (by omega) (Or.inr ⟨hP.1, hP.2.1.trans (bs_no (fco := fco) (by omega) (Or.inr (by omega))).1.symm, hP.2.2.trans (bs_no (by omega) (Or.inr (by omega))).2.symm⟩) (by omega)
                          · have hwp : 0 < wf fsz ffu fsu fbb fmo fle (n - (d + 1)) (d + 1) (kn fbb ffu fsu fmo ((((d : Nat) : Int) * 6) + y) y (kk (gna (400 * ((d : Nat) : Int) + x) - 11767 * ((d : Nat) : Int)))) := by omega
                            have hcr := cf_rng kT (n - (d + 1)) (d + 1) (kn fbb ffu fsu fmo ((((d : Nat) : Int) * 6) + y) y (kk (gna (400 * ((d : Nat) : Int) + x) - 11767 * ((d : Nat) : Int)))) (by omega) hwp
                            rw [sel_t hwp] at hF
                            have hY := bs_yes (fco := fco) (n := n) (by omega) hop hwp
                            have hRt : (uZ RF (gna ((400 * z) + x)) (pp + ((uZ RF (gna ((400 * z) + x)) pp) (nxt fbb ffu fsu fmo ((d : Nat) : Int) y (kk (gna (400 * ((d : Nat) : Int) + x) - 11767 * ((d : Nat) : Int))))))) (nxt fbb ffu fsu fmo ((d : Nat) : Int) y (kk (gna (400 * ((d : Nat) : Int) + x) - 11767 * ((d : Nat) : Int)))) = RF (nxt fbb ffu fsu fmo ((d : Nat) : Int) y (kk (gna (400 * ((d : Nat) : Int) + x) - 11767 * ((d : Nat) : Int)))) := uZ_n (by omega)
                            have hco := kT.2.1 ((((d : Nat) : Int) * 6) + y) (by omega) (by omega)
                            have hcoe : fco ((6 * z) + y) = fco ((((d : Nat) : Int) * 6) + y) := by rw [hz, Int.mul_comm 6]
                            refine g_aload_n C 5 std_M_goBack_154 rfl ?_
                            refine g_get C (st_sub sti_M) 6 rfl rfl 13 (by decide) (List.mem_cons_of_mem _ kw_3_79) rfl rfl std_M_goBack_155 ?_
                            refine g_iload_n C 2 std_M_goBack_158 rfl ?_
                            refine g_aload_n C 5 std_M_goBack_159 rfl ?_
                            refine g_get C (st_sub sti_M) 6 rfl rfl 13 (by decide) (List.mem_cons_of_mem _ kw_3_79) rfl rfl std_M_goBack_160 ?_
                            refine g_iload_n C 2 std_M_goBack_163 rfl ?_
                            refine g_lald C 4 1 rfl rfl (by omega) (by omega) (by omega) std_M_goBack_164 ?_
                            refine g_st (st' := [.long (lI pp), .int (iI (gna ((400 * z) + x))), .ref k_rf]) (by rw [uZ_s]) ?_
                            refine g_aload_n C 5 std_M_goBack_165 rfl ?_
                            refine g_get C (st_sub sti_M) 6 rfl rfl 13 (by decide) (List.mem_cons_of_mem _ kw_3_79) rfl rfl std_M_goBack_166 ?_
                            refine g_iload C 0 std_M_goBack_169 rfl ?_
                            refine g_lald C 4 1 rfl rfl (by omega) (by omega) (by omega) std_M_goBack_171 ?_
                            refine g_ladd C std_M_goBack_172 ?_
                            refine g_last C (ws' := [(k_ch, .inl (cI, aI 13 fsz)), (k_co, .inl (cI, aI 78 fco)), (k_nd, .inl (cI, aI 13 gnd)), (k_na, .inl (cI, aI 5200 gna)), (k_rf, .inl (cJ, aL 152971 (uZ (uZ RF (gna ((400 * z) + x)) pp) (gna ((400 * z) + x)) (pp + ((uZ RF (gna ((400 * z) + x)) pp) (nxt fbb ffu fsu fmo ((d : Nat) : Int) y (kk (gna (400 * ((d : Nat) : Int) + x) - 11767 * ((d : Nat) : Int))))))))), (k_cf, .inl (cI, aI 152971 (uZ CF (gna ((400 * z) + x)) qq))), (m0, .inr (5, [.int (iI 0), .int (iI ((n : Nat) : Int)), .ref k_ch, .ref k_co, .ref k_ua, .ref k_ub, .ref k_ba, .int (iI (fle 0)), .int (iI (fle 1)), .int (iI (fmo 0)), .int (iI (fmo 1)), .int (iI (bI HM)), .ref k_rt, .ref k_rf, .ref k_ct, .ref k_cf, .ref k_nd, .ref k_na, .ref k_no, .ref k_bt, .ref k_bc, .ref k_br, .int (iI bg), .int (iI pn), .ref k_pc, .ref k_pr, .ref k_la, .ref k_lb, .ref k_ha, .ref k_hb, .ref k_ls, .ref k_wc, .int (iI wd), .int (iI mg), .int (iI mw), .int (iI mc)])), (k_ba, .inl (cZ, aI 468 fba)), (k_ua, .inl (cI, aI 78 ffu)), (k_ub, .inl (cI, aI 78 fsu))]) 4 1 rfl rfl (by omega) (by omega) (by omega) std_M_goBack_173 rfl ?_
                            refine g_aload_n C 5 std_M_goBack_174 rfl ?_
                            refine g_get C (st_sub sti_M) 6 rfl rfl 15 (by decide) (List.mem_cons_of_mem _ kw_3_81) rfl rfl std_M_goBack_175 ?_
                            refine g_iload C 0 std_M_goBack_178 rfl ?_
                            refine g_iald C 5 0 rfl rfl (by omega) (by omega) (by omega) std_M_goBack_180 ?_
                            refine g_aload_n C 5 std_M_goBack_181 rfl ?_
                            refine g_get C (st_sub sti_M) 6 rfl rfl 3 (by decide) (List.mem_cons_of_mem _ kw_3_69) rfl rfl std_M_goBack_182 ?_
                            refine g_bipush C std_M_goBack_185 (by decide) ?_
                            refine g_iload_n C 4 std_M_goBack_187 rfl ?_
                            refine g_imul C std_M_goBack_188 ?_
                            refine g_iload C 1 std_M_goBack_189 rfl ?_
                            refine g_iadd C std_M_goBack_191 ?_
                            refine g_iald C 1 0 rfl rfl (by omega) (by omega) (by omega) std_M_goBack_192 ?_
                            refine g_iadd C std_M_goBack_193 ?_
                            refine g_istore C (lv' := [(6, .int (iI (((uZ CF (gna ((400 * z) + x)) qq) (nxt fbb ffu fsu fmo ((d : Nat) : Int) y (kk (gna (400 * ((d : Nat) : Int) + x) - 11767 * ((d : Nat) : Int))))) + (fco ((6 * z) + y))))), (5, .int (iI (nxt fbb ffu fsu fmo ((d : Nat) : Int) y (kk (gna (400 * ((d : Nat) : Int) + x) - 11767 * ((d : Nat) : Int)))))), (4, .int (iI y)), (3, .int (iI (gna ((400 * z) + x)))), (2, .int (iI x)), (1, .int (iI z)), (0, .ref m0)]) std_M_goBack_194 (by decide) rfl ?_
                            refine g_aload_n C 6 std_M_goBack_196 rfl ?_
                            refine g_get C (st_sub sti_M) 6 rfl rfl 15 (by decide) (List.mem_cons_of_mem _ kw_3_81) rfl rfl std_M_goBack_197 ?_
                            refine g_iload_n C 3 std_M_goBack_200 rfl ?_
                            refine g_iload C 0 std_M_goBack_201 rfl ?_
                            refine g_aload_n C 6 std_M_goBack_203 rfl ?_
                            refine g_get C (st_sub sti_M) 6 rfl rfl 15 (by decide) (List.mem_cons_of_mem _ kw_3_81) rfl rfl std_M_goBack_204 ?_
                            refine g_iload_n C 3 std_M_goBack_207 rfl ?_
                            refine g_iald C 5 0 rfl rfl (by omega) (by omega) (by omega) std_M_goBack_208 ?_
                            refine g_st (st' := [.int (iI qq), .int (iI (((uZ CF (gna ((400 * z) + x)) qq) (nxt fbb ffu fsu fmo ((d : Nat) : Int) y (kk (gna (400 * ((d : Nat) : Int) + x) - 11767 * ((d : Nat) : Int))))) + (fco ((6 * z) + y)))), .int (iI (gna ((400 * z) + x))), .ref k_cf]) (by rw [uZ_s]) ?_
                            refine g_icmp_ge (tgt := 217) C std_M_goBack_209 (by decide) ⟨by omega, by omega⟩ ⟨by omega, by omega⟩ (fun c11 => ?_) (fun c11 => ?_)
                            · refine g_aload_n C 6 std_M_goBack_217 rfl ?_
                              refine g_get C (st_sub sti_M) 6 rfl rfl 15 (by decide) (List.mem_cons_of_mem _ kw_3_81) rfl rfl std_M_goBack_218 ?_
                              refine g_iload_n C 3 std_M_goBack_221 rfl ?_
                              refine g_iald C 5 0 rfl rfl (by omega) (by omega) (by omega) std_M_goBack_222 ?_
                              refine g_st (st' := [.int (iI qq), .int (iI (gna ((400 * z) + x))), .ref k_cf]) (by rw [uZ_s]) ?_
                              refine g_iast C (ws' := [(k_ch, .inl (cI, aI 13 fsz)), (k_co, .inl (cI, aI 78 fco)), (k_nd, .inl (cI, aI 13 gnd)), (k_na, .inl (cI, aI 5200 gna)), (k_rf, .inl (cJ, aL 152971 (uZ (uZ RF (gna ((400 * z) + x)) pp) (gna ((400 * z) + x)) (pp + ((uZ RF (gna ((400 * z) + x)) pp) (nxt fbb ffu fsu fmo ((d : Nat) : Int) y (kk (gna (400 * ((d : Nat) : Int) + x) - 11767 * ((d : Nat) : Int))))))))), (k_cf, .inl (cI, aI 152971 (uZ (uZ CF (gna ((400 * z) + x)) qq) (gna ((400 * z) + x)) qq))), (m0, .inr (5, [.int (iI 0), .int (iI ((n : Nat) : Int)), .ref k_ch, .ref k_co, .ref k_ua, .ref k_ub, .ref k_ba, .int (iI (fle 0)), .int (iI (fle 1)), .int (iI (fmo 0)), .int (iI (fmo 1)), .int (iI (bI HM)), .ref k_rt, .ref k_rf, .ref k_ct, .ref k_cf, .ref k_nd, .ref k_na, .ref k_no, .ref k_bt, .ref k_bc, .ref k_br, .int (iI bg), .int (iI pn), .ref k_pc, .ref k_pr, .ref k_la, .ref k_lb, .ref k_ha, .ref k_hb, .ref k_ls, .ref k_wc, .int (iI wd), .int (iI mg), .int (iI mw), .int (iI mc)])), (k_ba, .inl (cZ, aI 468 fba)), (k_ua, .inl (cI, aI 78 ffu)), (k_ub, .inl (cI, aI 78 fsu))]) 5 0 rfl rfl (by omega) (by omega) (by omega) std_M_goBack_223 rfl ?_
                              refine g_ws (ws' := [(k_ch, .inl (cI, aI 13 fsz)), (k_co, .inl (cI, aI 78 fco)), (k_nd, .inl (cI, aI 13 gnd)), (k_na, .inl (cI, aI 5200 gna)), (k_rf, .inl (cJ, aL 152971 (uZ RF (gna ((400 * z) + x)) (pp + ((uZ RF (gna ((400 * z) + x)) pp) (nxt fbb ffu fsu fmo ((d : Nat) : Int) y (kk (gna (400 * ((d : Nat) : Int) + x) - 11767 * ((d : Nat) : Int))))))))), (k_cf, .inl (cI, aI 152971 (uZ CF (gna ((400 * z) + x)) qq))), (m0, .inr (5, [.int (iI 0), .int (iI ((n : Nat) : Int)), .ref k_ch, .ref k_co, .ref k_ua, .ref k_ub, .ref k_ba, .int (iI (fle 0)), .int (iI (fle 1)), .int (iI (fmo 0)), .int (iI (fmo 1)), .int (iI (bI HM)), .ref k_rt, .ref k_rf, .ref k_ct, .ref k_cf, .ref k_nd, .ref k_na, .ref k_no, .ref k_bt, .ref k_bc, .ref k_br, .int (iI bg), .int (iI pn), .ref k_pc, .ref k_pr, .ref k_la, .ref k_lb, .ref k_ha, .ref k_hb, .ref k_ls, .ref k_wc, .int (iI wd), .int (iI mg), .int (iI mw), .int (iI mc)])), (k_ba, .inl (cZ, aI 468 fba)), (k_ua, .inl (cI, aI 78 ffu)), (k_ub, .inl (cI, aI 78 fsu))]) (by rw [uZ_uZ, uZ_uZ]) ?_
                              refine g_iinc C (lv' := [(4, .int (iI (y + 1))), (6, .int (iI (((uZ CF (gna ((400 * z) + x)) qq) (nxt fbb ffu fsu fmo ((d : Nat) : Int) y (kk (gna (400 * ((d : Nat) : Int) + x) - 11767 * ((d : Nat) : Int))))) + (fco ((6 * z) + y))))), (5, .int (iI (nxt fbb ffu fsu fmo ((d : Nat) : Int) y (kk (gna (400 * ((d : Nat) : Int) + x) - 11767 * ((d : Nat) : Int)))))), (3, .int (iI (gna ((400 * z) + x)))), (2, .int (iI x)), (1, .int (iI z)), (0, .ref m0)]) 2 std_M_goBack_224 rfl (by decide) rfl ?_
                              refine g_goto (tgt := 107) C std_M_goBack_227 (by decide) ?_
                              refine g_sub (ws' := [(m0, .inr (5, [.int (iI 0), .int (iI ((n : Nat) : Int)), .ref k_ch, .ref k_co, .ref k_ua, .ref k_ub, .ref k_ba, .int (iI (fle 0)), .int (iI (fle 1)), .int (iI (fmo 0)), .int (iI (fmo 1)), .int (iI (bI HM)), .ref k_rt, .ref k_rf, .ref k_ct, .ref k_cf, .ref k_nd, .ref k_na, .ref k_no, .ref k_bt, .ref k_bc, .ref k_br, .int (iI bg), .int (iI pn), .ref k_pc, .ref k_pr, .ref k_la, .ref k_lb, .ref k_ha, .ref k_hb, .ref k_ls, .ref k_wc, .int (iI wd), .int (iI mg), .int (iI mw), .int (iI mc)])), (k_ch, .inl (cI, aI 13 fsz)), (k_co, .inl (cI, aI 78 fco)), (k_ba, .inl (cZ, aI 468 fba)), (k_ua, .inl (cI, aI 78 ffu)), (k_ub, .inl (cI, aI 78 fsu)), (k_nd, .inl (cI, aI 13 gnd)), (k_na, .inl (cI, aI 5200 gna)), (k_rf, .inl (cJ, aL 152971 (uZ RF (gna ((400 * z) + x)) (pp + ((uZ RF (gna ((400 * z) + x)) pp) (nxt fbb ffu fsu fmo ((d : Nat) : Int) y (kk (gna (400 * ((d : Nat) : Int) + x) - 11767 * ((d : Nat) : Int))))))))), (k_cf, .inl (cI, aI 152971 (uZ CF (gna ((400 * z) + x)) qq)))]) [6, 0, 1, 7, 8, 9, 2, 3, 4, 5] rfl rfl ?_
                              refine g_lv (lv' := [(4, .int (iI (y + 1))), (3, .int (iI (gna ((400 * z) + x)))), (2, .int (iI x)), (1, .int (iI z)), (0, .ref m0)]) [0, 3, 4, 5, 6] rfl ?_
                              refine g_wide (k := 0) (n := 0) (Nat.le_of_ble_eq_true rfl) (Nat.le_of_ble_eq_true rfl) ?_
                              exact ih107 (y + 1) (pp + ((uZ RF (gna ((400 * z) + x)) pp) (nxt fbb ffu fsu fmo ((d : Nat) : Int) y (kk (gna (400 * ((d : Nat) : Int) + x) - 11767 * ((d : Nat) : Int)))))) qq (by omega) (Or.inr ⟨hP.1, by rw [hY.1]; omega, by rw [hY.2]; omega⟩) (by omega)
                            · refine g_iload C 0 std_M_goBack_212 rfl ?_
                              refine g_goto (tgt := 223) C std_M_goBack_214 (by decide) ?_
                              refine g_iast C (ws' := [(k_ch, .inl (cI, aI 13 fsz)), (k_co, .inl (cI, aI 78 fco)), (k_nd, .inl (cI, aI 13 gnd)), (k_na, .inl (cI, aI 5200 gna)), (k_rf, .inl (cJ, aL 152971 (uZ (uZ RF (gna ((400 * z) + x)) pp) (gna ((400 * z) + x)) (pp + ((uZ RF (gna ((400 * z) + x)) pp) (nxt fbb ffu fsu fmo ((d : Nat) : Int) y (kk (gna (400 * ((d : Nat) : Int) + x) - 11767 * ((d : Nat) : Int))))))))), (k_cf, .inl (cI, aI 152971 (uZ (uZ CF (gna ((400 * z) + x)) qq) (gna ((400 * z) + x)) (((uZ CF (gna ((400 * z) + x)) qq) (nxt fbb ffu fsu fmo ((d : Nat) : Int) y (kk (gna (400 * ((d : Nat) : Int) + x) - 11767 * ((d : Nat) : Int))))) + (fco ((6 * z) + y)))))), (m0, .inr (5, [.int (iI 0), .int (iI ((n : Nat) : Int)), .ref k_ch, .ref k_co, .ref k_ua, .ref k_ub, .ref k_ba, .int (iI (fle 0)), .int (iI (fle 1)), .int (iI (fmo 0)), .int (iI (fmo 1)), .int (iI (bI HM)), .ref k_rt, .ref k_rf, .ref k_ct, .ref k_cf, .ref k_nd, .ref k_na, .ref k_no, .ref k_bt, .ref k_bc, .ref k_br, .int (iI bg), .int (iI pn), .ref k_pc, .ref k_pr, .ref k_la, .ref k_lb, .ref k_ha, .ref k_hb, .ref k_ls, .ref k_wc, .int (iI wd), .int (iI mg), .int (iI mw), .int (iI mc)])), (k_ba, .inl (cZ, aI 468 fba)), (k_ua, .inl (cI, aI 78 ffu)), (k_ub, .inl (cI, aI 78 fsu))]) 5 0 rfl rfl (by omega) (by omega) (by omega) std_M_goBack_223 rfl ?_
                              refine g_ws (ws' := [(k_ch, .inl (cI, aI 13 fsz)), (k_co, .inl (cI, aI 78 fco)), (k_nd, .inl (cI, aI 13 gnd)), (k_na, .inl (cI, aI 5200 gna)), (k_rf, .inl (cJ, aL 152971 (uZ RF (gna ((400 * z) + x)) (pp + ((uZ RF (gna ((400 * z) + x)) pp) (nxt fbb ffu fsu fmo ((d : Nat) : Int) y (kk (gna (400 * ((d : Nat) : Int) + x) - 11767 * ((d : Nat) : Int))))))))), (k_cf, .inl (cI, aI 152971 (uZ CF (gna ((400 * z) + x)) (((uZ CF (gna ((400 * z) + x)) qq) (nxt fbb ffu fsu fmo ((d : Nat) : Int) y (kk (gna (400 * ((d : Nat) : Int) + x) - 11767 * ((d : Nat) : Int))))) + (fco ((6 * z) + y)))))), (m0, .inr (5, [.int (iI 0), .int (iI ((n : Nat) : Int)), .ref k_ch, .ref k_co, .ref k_ua, .ref k_ub, .ref k_ba, .int (iI (fle 0)), .int (iI (fle 1)), .int (iI (fmo 0)), .int (iI (fmo 1)), .int (iI (bI HM)), .ref k_rt, .ref k_rf, .ref k_ct, .ref k_cf, .ref k_nd, .ref k_na, .ref k_no, .ref k_bt, .ref k_bc, .ref k_br, .int (iI bg), .int (iI pn), .ref k_pc, .ref k_pr, .ref k_la, .ref k_lb, .ref k_ha, .ref k_hb, .ref k_ls, .ref k_wc, .int (iI wd), .int (iI mg), .int (iI mw), .int (iI mc)])), (k_ba, .inl (cZ, aI 468 fba)), (k_ua, .inl (cI, aI 78 ffu)), (k_ub, .inl (cI, aI 78 fsu))]) (by rw [uZ_uZ, uZ_uZ]) ?_
                              refine g_iinc C (lv' := [(4, .int (iI (y + 1))), (6, .int (iI (((uZ CF (gna ((400 * z) + x)) qq) (nxt fbb ffu fsu fmo ((d : Nat) : Int) y (kk (gna (400 * ((d : Nat) : Int) + x) - 11767 * ((d : Nat) : Int))))) + (fco ((6 * z) + y))))), (5, .int (iI (nxt fbb ffu fsu fmo ((d : Nat) : Int) y (kk (gna (400 * ((d : Nat) : Int) + x) - 11767 * ((d : Nat) : Int)))))), (3, .int (iI (gna ((400 * z) + x)))), (2, .int (iI x)), (1, .int (iI z)), (0, .ref m0)]) 2 std_M_goBack_224 rfl (by decide) rfl ?_
                              refine g_goto (tgt := 107) C std_M_goBack_227 (by decide) ?_
                              refine g_sub (ws' := [(m0, .inr (5, [.int (iI 0), .int (iI ((n : Nat) : Int)), .ref k_ch, .ref k_co, .ref k_ua, .ref k_ub, .ref k_ba, .int (iI (fle 0)), .int (iI (fle 1)), .int (iI (fmo 0)), .int (iI (fmo 1)), .int (iI (bI HM)), .ref k_rt, .ref k_rf, .ref k_ct, .ref k_cf, .ref k_nd, .ref k_na, .ref k_no, .ref k_bt, .ref k_bc, .ref k_br, .int (iI bg), .int (iI pn), .ref k_pc, .ref k_pr, .ref k_la, .ref k_lb, .ref k_ha, .ref k_hb, .ref k_ls, .ref k_wc, .int (iI wd), .int (iI mg), .int (iI mw), .int (iI mc)])), (k_ch, .inl (cI, aI 13 fsz)), (k_co, .inl (cI, aI 78 fco)), (k_ba, .inl (cZ, aI 468 fba)), (k_ua, .inl (cI, aI 78 ffu)), (k_ub, .inl (cI, aI 78 fsu)), (k_nd, .inl (cI, aI 13 gnd)), (k_na, .inl (cI, aI 5200 gna)), (k_rf, .inl (cJ, aL 152971 (uZ RF (gna ((400 * z) + x)) (pp + ((uZ RF (gna ((400 * z) + x)) pp) (nxt fbb ffu fsu fmo ((d : Nat) : Int) y (kk (gna (400 * ((d : Nat) : Int) + x) - 11767 * ((d : Nat) : Int))))))))), (k_cf, .inl (cI, aI 152971 (uZ CF (gna ((400 * z) + x)) (((uZ CF (gna ((400 * z) + x)) qq) (nxt fbb ffu fsu fmo ((d : Nat) : Int) y (kk (gna (400 * ((d : Nat) : Int) + x) - 11767 * ((d : Nat) : Int))))) + (fco ((6 * z) + y))))))]) [6, 0, 1, 7, 8, 9, 2, 3, 4, 5] rfl rfl ?_
                              refine g_lv (lv' := [(4, .int (iI (y + 1))), (3, .int (iI (gna ((400 * z) + x)))), (2, .int (iI x)), (1, .int (iI z)), (0, .ref m0)]) [0, 3, 4, 5, 6] rfl ?_
                              refine g_wide (k := 0) (n := 0) (Nat.le_of_ble_eq_true rfl) (Nat.le_of_ble_eq_true rfl) ?_
                              exact ih107 (y + 1) (pp + ((uZ RF (gna ((400 * z) + x)) pp) (nxt fbb ffu fsu fmo ((d : Nat) : Int) y (kk (gna (400 * ((d : Nat) : Int) + x) - 11767 * ((d : Nat) : Int)))))) (((uZ CF (gna ((400 * z) + x)) qq) (nxt fbb ffu fsu fmo ((d : Nat) : Int) y (kk (gna (400 * ((d : Nat) : Int) + x) - 11767 * ((d : Nat) : Int))))) + (fco ((6 * z) + y))) (by omega) (Or.inr ⟨hP.1, by rw [hY.1]; omega, by rw [hY.2]; omega⟩) (by omega)
                obtain ⟨nn0, hnn0⟩ : ∃ nn0 : Nat, (20 - 0) < (nn0 : Int) := z_nat _
                exact L107 nn0 0 (RF (gna ((400 * z) + x))) (CF (gna ((400 * z) + x))) (by omega) (Or.inr ⟨by omega, hzr.1, hzr.2⟩) hnn0
              · have hAv := kat_r hA.1
                have hAt := kat_at hA.1 hAe
                have hle0 := kle 0 (by omega) (by omega)
                have hle1 := kle 1 (by omega) (by omega)
                refine g_iload_n C 0 std_M_goBack_42 rfl ?_
                refine g_S_i (wc := []) (wr := [(m0, .inr (5, [.int (iI 0), .int (iI ((n : Nat) : Int)), .ref k_ch, .ref k_co, .ref k_ua, .ref k_ub, .ref k_ba, .int (iI (fle 0)), .int (iI (fle 1)), .int (iI (fmo 0)), .int (iI (fmo 1)), .int (iI (bI HM)), .ref k_rt, .ref k_rf, .ref k_ct, .ref k_cf, .ref k_nd, .ref k_na, .ref k_no, .ref k_bt, .ref k_bc, .ref k_br, .int (iI bg), .int (iI pn), .ref k_pc, .ref k_pr, .ref k_la, .ref k_lb, .ref k_ha, .ref k_hb, .ref k_ls, .ref k_wc, .int (iI wd), .int (iI mg), .int (iI mw), .int (iI mc)])), (k_ch, .inl (cI, aI 13 fsz)), (k_co, .inl (cI, aI 78 fco)), (k_ba, .inl (cZ, aI 468 fba)), (k_ua, .inl (cI, aI 78 ffu)), (k_ub, .inl (cI, aI 78 fsu)), (k_nd, .inl (cI, aI 13 gnd)), (k_na, .inl (cI, aI 5200 gna)), (k_rf, .inl (cJ, aL 152971 RF)), (k_cf, .inl (cI, aI 152971 CF))]) (rest := []) C (c_m_aOf l dC dI cI cJ cZ (gna ((400 * z) + x)) (by omega)) (st_cS C kw_3_230 kw_3_228 kw_1_6 kw_3_229 sth_M_aOf ⟨Nat.le_of_ble_eq_true rfl, Nat.le_of_ble_eq_true rfl⟩) rfl rfl (Nat.le_of_ble_eq_true rfl) std_M_goBack_43 ⟨Nat.le_of_ble_eq_true rfl, Nat.le_of_ble_eq_true rfl⟩ [] [0, 1, 2, 3, 4, 5, 6, 7, 8, 9] rfl rfl rfl rfl (by decide) (fun r12 u13 h14 => ?_)
                subst h14
                refine g_ws (ws' := [(m0, .inr (5, [.int (iI 0), .int (iI ((n : Nat) : Int)), .ref k_ch, .ref k_co, .ref k_ua, .ref k_ub, .ref k_ba, .int (iI (fle 0)), .int (iI (fle 1)), .int (iI (fmo 0)), .int (iI (fmo 1)), .int (iI (bI HM)), .ref k_rt, .ref k_rf, .ref k_ct, .ref k_cf, .ref k_nd, .ref k_na, .ref k_no, .ref k_bt, .ref k_bc, .ref k_br, .int (iI bg), .int (iI pn), .ref k_pc, .ref k_pr, .ref k_la, .ref k_lb, .ref k_ha, .ref k_hb, .ref k_ls, .ref k_wc, .int (iI wd), .int (iI mg), .int (iI mw), .int (iI mc)])), (k_ch, .inl (cI, aI 13 fsz)), (k_co, .inl (cI, aI 78 fco)), (k_ba, .inl (cZ, aI 468 fba)), (k_ua, .inl (cI, aI 78 ffu)), (k_ub, .inl (cI, aI 78 fsu)), (k_nd, .inl (cI, aI 13 gnd)), (k_na, .inl (cI, aI 5200 gna)), (k_rf, .inl (cJ, aL 152971 RF)), (k_cf, .inl (cI, aI 152971 CF))]) rfl ?_
                refine g_aload_n C 3 std_M_goBack_46 rfl ?_
                refine g_get C (st_sub sti_M) 0 rfl rfl 7 (by decide) (List.mem_cons_of_mem _ kw_3_73) rfl rfl std_M_goBack_47 ?_
                refine g_icmp_lt (tgt := 68) C std_M_goBack_50 (by decide) ⟨by omega, by omega⟩ ⟨by omega, by omega⟩ (fun c15 => ?_) (fun c15 => ?_)
                · refine g_iconst C std_M_goBack_68 ?_
                  refine g_istore C (lv' := [(4, .int (iI 0)), (3, .int (iI (gna ((400 * z) + x)))), (2, .int (iI x)), (1, .int (iI z)), (0, .ref m0)]) std_M_goBack_69 (by decide) rfl ?_
                  refine g_aload_n C 4 std_M_goBack_71 rfl ?_
                  refine g_get C (st_sub sti_M) 0 rfl rfl 13 (by decide) (List.mem_cons_of_mem _ kw_3_79) rfl rfl std_M_goBack_72 ?_
                  refine g_iload_n C 1 std_M_goBack_75 rfl ?_
                  refine g_iload C 0 std_M_goBack_76 rfl ?_
                  refine g_if_eq (tgt := 85) C std_M_goBack_78 (by decide) (by decide) (fun c16 => ?_) (fun c16 => ?_)
                  · refine g_lconst C (z := 0) std_M_goBack_85 (by decide) ?_
                    refine g_last C (ws' := [(m0, .inr (5, [.int (iI 0), .int (iI ((n : Nat) : Int)), .ref k_ch, .ref k_co, .ref k_ua, .ref k_ub, .ref k_ba, .int (iI (fle 0)), .int (iI (fle 1)), .int (iI (fmo 0)), .int (iI (fmo 1)), .int (iI (bI HM)), .ref k_rt, .ref k_rf, .ref k_ct, .ref k_cf, .ref k_nd, .ref k_na, .ref k_no, .ref k_bt, .ref k_bc, .ref k_br, .int (iI bg), .int (iI pn), .ref k_pc, .ref k_pr, .ref k_la, .ref k_lb, .ref k_ha, .ref k_hb, .ref k_ls, .ref k_wc, .int (iI wd), .int (iI mg), .int (iI mw), .int (iI mc)])), (k_ch, .inl (cI, aI 13 fsz)), (k_co, .inl (cI, aI 78 fco)), (k_ba, .inl (cZ, aI 468 fba)), (k_ua, .inl (cI, aI 78 ffu)), (k_ub, .inl (cI, aI 78 fsu)), (k_nd, .inl (cI, aI 13 gnd)), (k_na, .inl (cI, aI 5200 gna)), (k_rf, .inl (cJ, aL 152971 (uZ RF (gna ((400 * z) + x)) 0))), (k_cf, .inl (cI, aI 152971 CF))]) 8 1 rfl rfl (by omega) (by omega) (by omega) std_M_goBack_86 rfl ?_
                    refine g_aload_n C 4 std_M_goBack_87 rfl ?_
                    refine g_get C (st_sub sti_M) 0 rfl rfl 15 (by decide) (List.mem_cons_of_mem _ kw_3_81) rfl rfl std_M_goBack_88 ?_
                    refine g_iload_n C 1 std_M_goBack_91 rfl ?_
                    refine g_iload C 0 std_M_goBack_92 rfl ?_
                    refine g_if_eq (tgt := 101) C std_M_goBack_94 (by decide) (by decide) (fun c17 => ?_) (fun c17 => ?_)
                    · refine g_ldc C (z := 900000) (List.mem_cons_of_mem _ kw_3_213) (by decide) std_M_goBack_101 ?_
                      refine g_iast C (ws' := [(m0, .inr (5, [.int (iI 0), .int (iI ((n : Nat) : Int)), .ref k_ch, .ref k_co, .ref k_ua, .ref k_ub, .ref k_ba, .int (iI (fle 0)), .int (iI (fle 1)), .int (iI (fmo 0)), .int (iI (fmo 1)), .int (iI (bI HM)), .ref k_rt, .ref k_rf, .ref k_ct, .ref k_cf, .ref k_nd, .ref k_na, .ref k_no, .ref k_bt, .ref k_bc, .ref k_br, .int (iI bg), .int (iI pn), .ref k_pc, .ref k_pr, .ref k_la, .ref k_lb, .ref k_ha, .ref k_hb, .ref k_ls, .ref k_wc, .int (iI wd), .int (iI mg), .int (iI mw), .int (iI mc)])), (k_ch, .inl (cI, aI 13 fsz)), (k_co, .inl (cI, aI 78 fco)), (k_ba, .inl (cZ, aI 468 fba)), (k_ua, .inl (cI, aI 78 ffu)), (k_ub, .inl (cI, aI 78 fsu)), (k_nd, .inl (cI, aI 13 gnd)), (k_na, .inl (cI, aI 5200 gna)), (k_rf, .inl (cJ, aL 152971 (uZ RF (gna ((400 * z) + x)) 0))), (k_cf, .inl (cI, aI 152971 (uZ CF (gna ((400 * z) + x)) 900000)))]) 9 0 rfl rfl (by omega) (by omega) (by omega) std_M_goBack_103 rfl ?_
                      refine g_iconst C std_M_goBack_104 ?_
                      refine g_istore C (lv' := [(4, .int (iI 0)), (3, .int (iI (gna ((400 * z) + x)))), (2, .int (iI x)), (1, .int (iI z)), (0, .ref m0)]) std_M_goBack_105 (by decide) rfl ?_
                      refine g_iload C 0 std_M_goBack_107 rfl ?_
                      refine g_aload_n C 4 std_M_goBack_109 rfl ?_
                      refine g_get C (st_sub sti_M) 0 rfl rfl 2 (by decide) (List.mem_cons_of_mem _ kw_3_68) rfl rfl std_M_goBack_110 ?_
                      refine g_iload_n C 3 std_M_goBack_113 rfl ?_
                      refine g_iald C 1 0 rfl rfl (by omega) (by omega) (by omega) std_M_goBack_114 ?_
                      refine g_icmp_ge (tgt := 230) C std_M_goBack_115 (by decide) ⟨by omega, by omega⟩ ⟨by omega, by omega⟩ (fun c18 => ?_) (fun c18 => ?_)
                      · have hfin := And.intro (wf_end0 (fsz := fsz) (ffu := ffu) (fsu := fsu) (fbb := fbb) (fmo := fmo) (fle := fle) (n := n) (d := d) (k := kk (gna (400 * ((d : Nat) : Int) + x) - 11767 * ((d : Nat) : Int))) (by omega) (by omega)) (wf_sel0 (fsz := fsz) (fco := fco) (ffu := ffu) (fsu := fsu) (fbb := fbb) (fmo := fmo) (fle := fle) (n := n) (d := d) (k := kk (gna (400 * ((d : Nat) : Int) + x) - 11767 * ((d : Nat) : Int))) (by omega) (by omega))
                        refine g_iinc C (lv' := [(2, .int (iI (x + 1))), (4, .int (iI 0)), (3, .int (iI (gna ((400 * z) + x)))), (1, .int (iI z)), (0, .ref m0)]) 2 std_M_goBack_230 rfl (by decide) rfl ?_
                        refine g_goto (tgt := 11) C std_M_goBack_233 (by decide) ?_
                        refine g_lv (lv' := [(2, .int (iI (x + 1))), (1, .int (iI z)), (0, .ref m0)]) [0, 3, 4] rfl ?_
                        refine g_wide (k := 0) (n := 0) (Nat.le_of_ble_eq_true rfl) (Nat.le_of_ble_eq_true rfl) ?_
                        exact ih11 (x + 1) (uZ RF (gna ((400 * z) + x)) 0) (uZ CF (gna ((400 * z) + x)) 900000) (by omega) (gb_node kG hM.2.1 ⟨by omega, by rw [← hz]; omega⟩ (fun i h1 h2 => (me_at kT (by omega) hM ⟨h1, h2⟩).1) hAe hfin.1 hfin.2) (by omega)
                      · refine g_iload_n C 3 std_M_goBack_118 rfl ?_
                        refine g_aload_n C 4 std_M_goBack_119 rfl ?_
                        refine g_get C (st_sub sti_M) 0 rfl rfl 1 (by decide) (List.mem_cons_of_mem _ kw_3_67) rfl rfl std_M_goBack_120 ?_
                        refine g_icmp_ge (tgt := 230) C std_M_goBack_123 (by decide) ⟨by omega, by omega⟩ ⟨by omega, by omega⟩ (fun c19 => ?_) (fun c19 => ?_)
                        · have hfin := And.intro (wf_end0 (fsz := fsz) (ffu := ffu) (fsu := fsu) (fbb := fbb) (fmo := fmo) (fle := fle) (n := n) (d := d) (k := kk (gna (400 * ((d : Nat) : Int) + x) - 11767 * ((d : Nat) : Int))) (by omega) (by omega)) (wf_sel0 (fsz := fsz) (fco := fco) (ffu := ffu) (fsu := fsu) (fbb := fbb) (fmo := fmo) (fle := fle) (n := n) (d := d) (k := kk (gna (400 * ((d : Nat) : Int) + x) - 11767 * ((d : Nat) : Int))) (by omega) (by omega))
                          refine g_iinc C (lv' := [(2, .int (iI (x + 1))), (4, .int (iI 0)), (3, .int (iI (gna ((400 * z) + x)))), (1, .int (iI z)), (0, .ref m0)]) 2 std_M_goBack_230 rfl (by decide) rfl ?_
                          refine g_goto (tgt := 11) C std_M_goBack_233 (by decide) ?_
                          refine g_lv (lv' := [(2, .int (iI (x + 1))), (1, .int (iI z)), (0, .ref m0)]) [0, 3, 4] rfl ?_
                          refine g_wide (k := 0) (n := 0) (Nat.le_of_ble_eq_true rfl) (Nat.le_of_ble_eq_true rfl) ?_
                          exact ih11 (x + 1) (uZ RF (gna ((400 * z) + x)) 0) (uZ CF (gna ((400 * z) + x)) 900000) (by omega) (gb_node kG hM.2.1 ⟨by omega, by rw [← hz]; omega⟩ (fun i h1 h2 => (me_at kT (by omega) hM ⟨h1, h2⟩).1) hAe hfin.1 hfin.2) (by omega)
                        · exfalso; omega
                    · exfalso; omega
                  · exfalso; omega
                · refine g_iload_n C 0 std_M_goBack_53 rfl ?_
                  refine g_S_i (wc := []) (wr := [(m0, .inr (5, [.int (iI 0), .int (iI ((n : Nat) : Int)), .ref k_ch, .ref k_co, .ref k_ua, .ref k_ub, .ref k_ba, .int (iI (fle 0)), .int (iI (fle 1)), .int (iI (fmo 0)), .int (iI (fmo 1)), .int (iI (bI HM)), .ref k_rt, .ref k_rf, .ref k_ct, .ref k_cf, .ref k_nd, .ref k_na, .ref k_no, .ref k_bt, .ref k_bc, .ref k_br, .int (iI bg), .int (iI pn), .ref k_pc, .ref k_pr, .ref k_la, .ref k_lb, .ref k_ha, .ref k_hb, .ref k_ls, .ref k_wc, .int (iI wd), .int (iI mg), .int (iI mw), .int (iI mc)])), (k_ch, .inl (cI, aI 13 fsz)), (k_co, .inl (cI, aI 78 fco)), (k_ba, .inl (cZ, aI 468 fba)), (k_ua, .inl (cI, aI 78 ffu)), (k_ub, .inl (cI, aI 78 fsu)), (k_nd, .inl (cI, aI 13 gnd)), (k_na, .inl (cI, aI 5200 gna)), (k_rf, .inl (cJ, aL 152971 RF)), (k_cf, .inl (cI, aI 152971 CF))]) (rest := []) C (c_m_bOf l dC dI cI cJ cZ (gna ((400 * z) + x)) (by omega)) (st_cS C kw_3_233 kw_3_231 kw_1_6 kw_3_232 sth_M_bOf ⟨Nat.le_of_ble_eq_true rfl, Nat.le_of_ble_eq_true rfl⟩) rfl rfl (Nat.le_of_ble_eq_true rfl) std_M_goBack_54 ⟨Nat.le_of_ble_eq_true rfl, Nat.le_of_ble_eq_true rfl⟩ [] [0, 1, 2, 3, 4, 5, 6, 7, 8, 9] rfl rfl rfl rfl (by decide) (fun r20 u21 h22 => ?_)
                  subst h22
                  refine g_ws (ws' := [(m0, .inr (5, [.int (iI 0), .int (iI ((n : Nat) : Int)), .ref k_ch, .ref k_co, .ref k_ua, .ref k_ub, .ref k_ba, .int (iI (fle 0)), .int (iI (fle 1)), .int (iI (fmo 0)), .int (iI (fmo 1)), .int (iI (bI HM)), .ref k_rt, .ref k_rf, .ref k_ct, .ref k_cf, .ref k_nd, .ref k_na, .ref k_no, .ref k_bt, .ref k_bc, .ref k_br, .int (iI bg), .int (iI pn), .ref k_pc, .ref k_pr, .ref k_la, .ref k_lb, .ref k_ha, .ref k_hb, .ref k_ls, .ref k_wc, .int (iI wd), .int (iI mg), .int (iI mw), .int (iI mc)])), (k_ch, .inl (cI, aI 13 fsz)), (k_co, .inl (cI, aI 78 fco)), (k_ba, .inl (cZ, aI 468 fba)), (k_ua, .inl (cI, aI 78 ffu)), (k_ub, .inl (cI, aI 78 fsu)), (k_nd, .inl (cI, aI 13 gnd)), (k_na, .inl (cI, aI 5200 gna)), (k_rf, .inl (cJ, aL 152971 RF)), (k_cf, .inl (cI, aI 152971 CF))]) rfl ?_
                  refine g_aload_n C 3 std_M_goBack_57 rfl ?_
                  refine g_get C (st_sub sti_M) 0 rfl rfl 8 (by decide) (List.mem_cons_of_mem _ kw_3_74) rfl rfl std_M_goBack_58 ?_
                  refine g_icmp_lt (tgt := 68) C std_M_goBack_61 (by decide) ⟨by omega, by omega⟩ ⟨by omega, by omega⟩ (fun c23 => ?_) (fun c23 => ?_)
                  · refine g_iconst C std_M_goBack_68 ?_
                    refine g_istore C (lv' := [(4, .int (iI 0)), (3, .int (iI (gna ((400 * z) + x)))), (2, .int (iI x)), (1, .int (iI z)), (0, .ref m0)]) std_M_goBack_69 (by decide) rfl ?_
                    refine g_aload_n C 4 std_M_goBack_71 rfl ?_
                    refine g_get C (st_sub sti_M) 0 rfl rfl 13 (by decide) (List.mem_cons_of_mem _ kw_3_79) rfl rfl std_M_goBack_72 ?_
                    refine g_iload_n C 1 std_M_goBack_75 rfl ?_
                    refine g_iload C 0 std_M_goBack_76 rfl ?_
                    refine g_if_eq (tgt := 85) C std_M_goBack_78 (by decide) (by decide) (fun c24 => ?_) (fun c24 => ?_)
                    · refine g_lconst C (z := 0) std_M_goBack_85 (by decide) ?_
                      refine g_last C (ws' := [(m0, .inr (5, [.int (iI 0), .int (iI ((n : Nat) : Int)), .ref k_ch, .ref k_co, .ref k_ua, .ref k_ub, .ref k_ba, .int (iI (fle 0)), .int (iI (fle 1)), .int (iI (fmo 0)), .int (iI (fmo 1)), .int (iI (bI HM)), .ref k_rt, .ref k_rf, .ref k_ct, .ref k_cf, .ref k_nd, .ref k_na, .ref k_no, .ref k_bt, .ref k_bc, .ref k_br, .int (iI bg), .int (iI pn), .ref k_pc, .ref k_pr, .ref k_la, .ref k_lb, .ref k_ha, .ref k_hb, .ref k_ls, .ref k_wc, .int (iI wd), .int (iI mg), .int (iI mw), .int (iI mc)])), (k_ch, .inl (cI, aI 13 fsz)), (k_co, .inl (cI, aI 78 fco)), (k_ba, .inl (cZ, aI 468 fba)), (k_ua, .inl (cI, aI 78 ffu)), (k_ub, .inl (cI, aI 78 fsu)), (k_nd, .inl (cI, aI 13 gnd)), (k_na, .inl (cI, aI 5200 gna)), (k_rf, .inl (cJ, aL 152971 (uZ RF (gna ((400 * z) + x)) 0))), (k_cf, .inl (cI, aI 152971 CF))]) 8 1 rfl rfl (by omega) (by omega) (by omega) std_M_goBack_86 rfl ?_
                      refine g_aload_n C 4 std_M_goBack_87 rfl ?_
                      refine g_get C (st_sub sti_M) 0 rfl rfl 15 (by decide) (List.mem_cons_of_mem _ kw_3_81) rfl rfl std_M_goBack_88 ?_
                      refine g_iload_n C 1 std_M_goBack_91 rfl ?_
                      refine g_iload C 0 std_M_goBack_92 rfl ?_
                      refine g_if_eq (tgt := 101) C std_M_goBack_94 (by decide) (by decide) (fun c25 => ?_) (fun c25 => ?_)
                      · refine g_ldc C (z := 900000) (List.mem_cons_of_mem _ kw_3_213) (by decide) std_M_goBack_101 ?_
                        refine g_iast C (ws' := [(m0, .inr (5, [.int (iI 0), .int (iI ((n : Nat) : Int)), .ref k_ch, .ref k_co, .ref k_ua, .ref k_ub, .ref k_ba, .int (iI (fle 0)), .int (iI (fle 1)), .int (iI (fmo 0)), .int (iI (fmo 1)), .int (iI (bI HM)), .ref k_rt, .ref k_rf, .ref k_ct, .ref k_cf, .ref k_nd, .ref k_na, .ref k_no, .ref k_bt, .ref k_bc, .ref k_br, .int (iI bg), .int (iI pn), .ref k_pc, .ref k_pr, .ref k_la, .ref k_lb, .ref k_ha, .ref k_hb, .ref k_ls, .ref k_wc, .int (iI wd), .int (iI mg), .int (iI mw), .int (iI mc)])), (k_ch, .inl (cI, aI 13 fsz)), (k_co, .inl (cI, aI 78 fco)), (k_ba, .inl (cZ, aI 468 fba)), (k_ua, .inl (cI, aI 78 ffu)), (k_ub, .inl (cI, aI 78 fsu)), (k_nd, .inl (cI, aI 13 gnd)), (k_na, .inl (cI, aI 5200 gna)), (k_rf, .inl (cJ, aL 152971 (uZ RF (gna ((400 * z) + x)) 0))), (k_cf, .inl (cI, aI 152971 (uZ CF (gna ((400 * z) + x)) 900000)))]) 9 0 rfl rfl (by omega) (by omega) (by omega) std_M_goBack_103 rfl ?_
                        refine g_iconst C std_M_goBack_104 ?_
                        refine g_istore C (lv' := [(4, .int (iI 0)), (3, .int (iI (gna ((400 * z) + x)))), (2, .int (iI x)), (1, .int (iI z)), (0, .ref m0)]) std_M_goBack_105 (by decide) rfl ?_
                        refine g_iload C 0 std_M_goBack_107 rfl ?_
                        refine g_aload_n C 4 std_M_goBack_109 rfl ?_
                        refine g_get C (st_sub sti_M) 0 rfl rfl 2 (by decide) (List.mem_cons_of_mem _ kw_3_68) rfl rfl std_M_goBack_110 ?_
                        refine g_iload_n C 3 std_M_goBack_113 rfl ?_
                        refine g_iald C 1 0 rfl rfl (by omega) (by omega) (by omega) std_M_goBack_114 ?_
                        refine g_icmp_ge (tgt := 230) C std_M_goBack_115 (by decide) ⟨by omega, by omega⟩ ⟨by omega, by omega⟩ (fun c26 => ?_) (fun c26 => ?_)
                        · have hfin := And.intro (wf_end0 (fsz := fsz) (ffu := ffu) (fsu := fsu) (fbb := fbb) (fmo := fmo) (fle := fle) (n := n) (d := d) (k := kk (gna (400 * ((d : Nat) : Int) + x) - 11767 * ((d : Nat) : Int))) (by omega) (by omega)) (wf_sel0 (fsz := fsz) (fco := fco) (ffu := ffu) (fsu := fsu) (fbb := fbb) (fmo := fmo) (fle := fle) (n := n) (d := d) (k := kk (gna (400 * ((d : Nat) : Int) + x) - 11767 * ((d : Nat) : Int))) (by omega) (by omega))
                          refine g_iinc C (lv' := [(2, .int (iI (x + 1))), (4, .int (iI 0)), (3, .int (iI (gna ((400 * z) + x)))), (1, .int (iI z)), (0, .ref m0)]) 2 std_M_goBack_230 rfl (by decide) rfl ?_
                          refine g_goto (tgt := 11) C std_M_goBack_233 (by decide) ?_
                          refine g_lv (lv' := [(2, .int (iI (x + 1))), (1, .int (iI z)), (0, .ref m0)]) [0, 3, 4] rfl ?_
                          refine g_wide (k := 0) (n := 0) (Nat.le_of_ble_eq_true rfl) (Nat.le_of_ble_eq_true rfl) ?_
                          exact ih11 (x + 1) (uZ RF (gna ((400 * z) + x)) 0) (uZ CF (gna ((400 * z) + x)) 900000) (by omega) (gb_node kG hM.2.1 ⟨by omega, by rw [← hz]; omega⟩ (fun i h1 h2 => (me_at kT (by omega) hM ⟨h1, h2⟩).1) hAe hfin.1 hfin.2) (by omega)
                        · refine g_iload_n C 3 std_M_goBack_118 rfl ?_
                          refine g_aload_n C 4 std_M_goBack_119 rfl ?_
                          refine g_get C (st_sub sti_M) 0 rfl rfl 1 (by decide) (List.mem_cons_of_mem _ kw_3_67) rfl rfl std_M_goBack_120 ?_
                          refine g_icmp_ge (tgt := 230) C std_M_goBack_123 (by decide) ⟨by omega, by omega⟩ ⟨by omega, by omega⟩ (fun c27 => ?_) (fun c27 => ?_)
                          · have hfin := And.intro (wf_end0 (fsz := fsz) (ffu := ffu) (fsu := fsu) (fbb := fbb) (fmo := fmo) (fle := fle) (n := n) (d := d) (k := kk (gna (400 * ((d : Nat) : Int) + x) - 11767 * ((d : Nat) : Int))) (by omega) (by omega)) (wf_sel0 (fsz := fsz) (fco := fco) (ffu := ffu) (fsu := fsu) (fbb := fbb) (fmo := fmo) (fle := fle) (n := n) (d := d) (k := kk (gna (400 * ((d : Nat) : Int) + x) - 11767 * ((d : Nat) : Int))) (by omega) (by omega))
                            refine g_iinc C (lv' := [(2, .int (iI (x + 1))), (4, .int (iI 0)), (3, .int (iI (gna ((400 * z) + x)))), (1, .int (iI z)), (0, .ref m0)]) 2 std_M_goBack_230 rfl (by decide) rfl ?_
                            refine g_goto (tgt := 11) C std_M_goBack_233 (by decide) ?_
                            refine g_lv (lv' := [(2, .int (iI (x + 1))), (1, .int (iI z)), (0, .ref m0)]) [0, 3, 4] rfl ?_
                            refine g_wide (k := 0) (n := 0) (Nat.le_of_ble_eq_true rfl) (Nat.le_of_ble_eq_true rfl) ?_
                            exact ih11 (x + 1) (uZ RF (gna ((400 * z) + x)) 0) (uZ CF (gna ((400 * z) + x)) 900000) (by omega) (gb_node kG hM.2.1 ⟨by omega, by rw [← hz]; omega⟩ (fun i h1 h2 => (me_at kT (by omega) hM ⟨h1, h2⟩).1) hAe hfin.1 hfin.2) (by omega)
                          · exfalso; omega
                      · exfalso; omega
                    · exfalso; omega
                  · refine g_iconst C std_M_goBack_64 ?_
                    refine g_goto (tgt := 69) C std_M_goBack_65 (by decide) ?_
                    refine g_istore C (lv' := [(4, .int (iI 1)), (3, .int (iI (gna ((400 * z) + x)))), (2, .int (iI x)), (1, .int (iI z)), (0, .ref m0)]) std_M_goBack_69 (by decide) rfl ?_
                    refine g_aload_n C 4 std_M_goBack_71 rfl ?_
                    refine g_get C (st_sub sti_M) 0 rfl rfl 13 (by decide) (List.mem_cons_of_mem _ kw_3_79) rfl rfl std_M_goBack_72 ?_
                    refine g_iload_n C 1 std_M_goBack_75 rfl ?_
                    refine g_iload C 0 std_M_goBack_76 rfl ?_
                    refine g_if_eq (tgt := 85) C std_M_goBack_78 (by decide) (by decide) (fun c28 => ?_) (fun c28 => ?_)
                    · exfalso; omega
                    · refine g_lconst C (z := 1) std_M_goBack_81 (by decide) ?_
                      refine g_goto (tgt := 86) C std_M_goBack_82 (by decide) ?_
                      refine g_last C (ws' := [(m0, .inr (5, [.int (iI 0), .int (iI ((n : Nat) : Int)), .ref k_ch, .ref k_co, .ref k_ua, .ref k_ub, .ref k_ba, .int (iI (fle 0)), .int (iI (fle 1)), .int (iI (fmo 0)), .int (iI (fmo 1)), .int (iI (bI HM)), .ref k_rt, .ref k_rf, .ref k_ct, .ref k_cf, .ref k_nd, .ref k_na, .ref k_no, .ref k_bt, .ref k_bc, .ref k_br, .int (iI bg), .int (iI pn), .ref k_pc, .ref k_pr, .ref k_la, .ref k_lb, .ref k_ha, .ref k_hb, .ref k_ls, .ref k_wc, .int (iI wd), .int (iI mg), .int (iI mw), .int (iI mc)])), (k_ch, .inl (cI, aI 13 fsz)), (k_co, .inl (cI, aI 78 fco)), (k_ba, .inl (cZ, aI 468 fba)), (k_ua, .inl (cI, aI 78 ffu)), (k_ub, .inl (cI, aI 78 fsu)), (k_nd, .inl (cI, aI 13 gnd)), (k_na, .inl (cI, aI 5200 gna)), (k_rf, .inl (cJ, aL 152971 (uZ RF (gna ((400 * z) + x)) 1))), (k_cf, .inl (cI, aI 152971 CF))]) 8 1 rfl rfl (by omega) (by omega) (by omega) std_M_goBack_86 rfl ?_
                      refine g_aload_n C 4 std_M_goBack_87 rfl ?_
                      refine g_get C (st_sub sti_M) 0 rfl rfl 15 (by decide) (List.mem_cons_of_mem _ kw_3_81) rfl rfl std_M_goBack_88 ?_
                      refine g_iload_n C 1 std_M_goBack_91 rfl ?_
                      refine g_iload C 0 std_M_goBack_92 rfl ?_
                      refine g_if_eq (tgt := 101) C std_M_goBack_94 (by decide) (by decide) (fun c29 => ?_) (fun c29 => ?_)
                      · exfalso; omega
                      · refine g_iconst C std_M_goBack_97 ?_
                        refine g_goto (tgt := 103) C std_M_goBack_98 (by decide) ?_
                        refine g_iast C (ws' := [(m0, .inr (5, [.int (iI 0), .int (iI ((n : Nat) : Int)), .ref k_ch, .ref k_co, .ref k_ua, .ref k_ub, .ref k_ba, .int (iI (fle 0)), .int (iI (fle 1)), .int (iI (fmo 0)), .int (iI (fmo 1)), .int (iI (bI HM)), .ref k_rt, .ref k_rf, .ref k_ct, .ref k_cf, .ref k_nd, .ref k_na, .ref k_no, .ref k_bt, .ref k_bc, .ref k_br, .int (iI bg), .int (iI pn), .ref k_pc, .ref k_pr, .ref k_la, .ref k_lb, .ref k_ha, .ref k_hb, .ref k_ls, .ref k_wc, .int (iI wd), .int (iI mg), .int (iI mw), .int (iI mc)])), (k_ch, .inl (cI, aI 13 fsz)), (k_co, .inl (cI, aI 78 fco)), (k_ba, .inl (cZ, aI 468 fba)), (k_ua, .inl (cI, aI 78 ffu)), (k_ub, .inl (cI, aI 78 fsu)), (k_nd, .inl (cI, aI 13 gnd)), (k_na, .inl (cI, aI 5200 gna)), (k_rf, .inl (cJ, aL 152971 (uZ RF (gna ((400 * z) + x)) 1))), (k_cf, .inl (cI, aI 152971 (uZ CF (gna ((400 * z) + x)) 0)))]) 9 0 rfl rfl (by omega) (by omega) (by omega) std_M_goBack_103 rfl ?_
                        refine g_iconst C std_M_goBack_104 ?_
                        refine g_istore C (lv' := [(4, .int (iI 0)), (3, .int (iI (gna ((400 * z) + x)))), (2, .int (iI x)), (1, .int (iI z)), (0, .ref m0)]) std_M_goBack_105 (by decide) rfl ?_
                        refine g_iload C 0 std_M_goBack_107 rfl ?_
                        refine g_aload_n C 4 std_M_goBack_109 rfl ?_
                        refine g_get C (st_sub sti_M) 0 rfl rfl 2 (by decide) (List.mem_cons_of_mem _ kw_3_68) rfl rfl std_M_goBack_110 ?_
                        refine g_iload_n C 3 std_M_goBack_113 rfl ?_
                        refine g_iald C 1 0 rfl rfl (by omega) (by omega) (by omega) std_M_goBack_114 ?_
                        refine g_icmp_ge (tgt := 230) C std_M_goBack_115 (by decide) ⟨by omega, by omega⟩ ⟨by omega, by omega⟩ (fun c30 => ?_) (fun c30 => ?_)
                        · have hfin := And.intro (wf_end1 (fsz := fsz) (ffu := ffu) (fsu := fsu) (fbb := fbb) (fmo := fmo) (fle := fle) (n := n) (d := d) (k := kk (gna (400 * ((d : Nat) : Int) + x) - 11767 * ((d : Nat) : Int))) (by omega) (by omega) (by omega)) (wf_sel1 (fsz := fsz) (fco := fco) (ffu := ffu) (fsu := fsu) (fbb := fbb) (fmo := fmo) (fle := fle) (n := n) (d := d) (k := kk (gna (400 * ((d : Nat) : Int) + x) - 11767 * ((d : Nat) : Int))) (by omega) (by omega) (by omega))
                          refine g_iinc C (lv' := [(2, .int (iI (x + 1))), (4, .int (iI 0)), (3, .int (iI (gna ((400 * z) + x)))), (1, .int (iI z)), (0, .ref m0)]) 2 std_M_goBack_230 rfl (by decide) rfl ?_
                          refine g_goto (tgt := 11) C std_M_goBack_233 (by decide) ?_
                          refine g_lv (lv' := [(2, .int (iI (x + 1))), (1, .int (iI z)), (0, .ref m0)]) [0, 3, 4] rfl ?_
                          refine g_wide (k := 0) (n := 0) (Nat.le_of_ble_eq_true rfl) (Nat.le_of_ble_eq_true rfl) ?_
                          exact ih11 (x + 1) (uZ RF (gna ((400 * z) + x)) 1) (uZ CF (gna ((400 * z) + x)) 0) (by omega) (gb_node kG hM.2.1 ⟨by omega, by rw [← hz]; omega⟩ (fun i h1 h2 => (me_at kT (by omega) hM ⟨h1, h2⟩).1) hAe hfin.1 hfin.2) (by omega)
                        · refine g_iload_n C 3 std_M_goBack_118 rfl ?_
                          refine g_aload_n C 4 std_M_goBack_119 rfl ?_
                          refine g_get C (st_sub sti_M) 0 rfl rfl 1 (by decide) (List.mem_cons_of_mem _ kw_3_67) rfl rfl std_M_goBack_120 ?_
                          refine g_icmp_ge (tgt := 230) C std_M_goBack_123 (by decide) ⟨by omega, by omega⟩ ⟨by omega, by omega⟩ (fun c31 => ?_) (fun c31 => ?_)
                          · have hfin := And.intro (wf_end1 (fsz := fsz) (ffu := ffu) (fsu := fsu) (fbb := fbb) (fmo := fmo) (fle := fle) (n := n) (d := d) (k := kk (gna (400 * ((d : Nat) : Int) + x) - 11767 * ((d : Nat) : Int))) (by omega) (by omega) (by omega)) (wf_sel1 (fsz := fsz) (fco := fco) (ffu := ffu) (fsu := fsu) (fbb := fbb) (fmo := fmo) (fle := fle) (n := n) (d := d) (k := kk (gna (400 * ((d : Nat) : Int) + x) - 11767 * ((d : Nat) : Int))) (by omega) (by omega) (by omega))
                            refine g_iinc C (lv' := [(2, .int (iI (x + 1))), (4, .int (iI 0)), (3, .int (iI (gna ((400 * z) + x)))), (1, .int (iI z)), (0, .ref m0)]) 2 std_M_goBack_230 rfl (by decide) rfl ?_
                            refine g_goto (tgt := 11) C std_M_goBack_233 (by decide) ?_
                            refine g_lv (lv' := [(2, .int (iI (x + 1))), (1, .int (iI z)), (0, .ref m0)]) [0, 3, 4] rfl ?_
                            refine g_wide (k := 0) (n := 0) (Nat.le_of_ble_eq_true rfl) (Nat.le_of_ble_eq_true rfl) ?_
                            exact ih11 (x + 1) (uZ RF (gna ((400 * z) + x)) 1) (uZ CF (gna ((400 * z) + x)) 0) (by omega) (gb_node kG hM.2.1 ⟨by omega, by rw [← hz]; omega⟩ (fun i h1 h2 => (me_at kT (by omega) hM ⟨h1, h2⟩).1) hAe hfin.1 hfin.2) (by omega)
                          · exfalso; omega
        obtain ⟨nn0, hnn0⟩ : ∃ nn0 : Nat, (gnd z - 0) < (nn0 : Int) := z_nat _
        exact L11 nn0 0 RF CF (by omega) (go_gb kO) hnn0
  obtain ⟨nn0, hnn0⟩ : ∃ nn0 : Nat, (((n : Nat) : Int) + 1) < (nn0 : Int) := z_nat _
  exact L5 nn0 ((n : Nat) : Int) (n + 1) grf gcf (by omega) (go_0 kZ) hnn0

