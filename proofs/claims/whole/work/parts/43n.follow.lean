/-! NarrowLayers.follow, uniteAlike -/
abbrev sty_N_follow : MethodName := ⟨"StateTables$NarrowLayers", "follow", "(JII)V"⟩
abbrev stc_N_follow : ByteArray := prog_4_method_11_code
theorem sth_N_follow : (sty_N_follow).cls ≠ "java/lang/invoke/MethodHandle" ∧ (sty_N_follow).cls ≠ "java/lang/invoke/VarHandle" ∧ (parseMethodDescriptor (sty_N_follow).desc).map (fun d => d.parameters.length) = some 3 := by decide +kernel
theorem std_N_follow_0 : decode stc_N_follow 0 = .ok (.iload_n 3, 1) := by decide +kernel
theorem std_N_follow_1 : decode stc_N_follow 1 = .ok (.iload 4, 2) := by decide +kernel
theorem std_N_follow_3 : decode stc_N_follow 3 = .ok (.invokestatic 80, 3) := by decide +kernel
theorem std_N_follow_6 : decode stc_N_follow 6 = .ok (.istore 5, 2) := by decide +kernel
theorem std_N_follow_8 : decode stc_N_follow 8 = .ok (.lload_n 1, 1) := by decide +kernel
theorem std_N_follow_9 : decode stc_N_follow 9 = .ok (.invokestatic 83, 3) := by decide +kernel
theorem kw_3_4 : Cond.code sty_N_lastsOf stc_N_lastsOf 2 (some .int) ∈ stGW := st_t3 (List.mem_of_getElem? (i := 4) (by decide +kernel)) (by decide +kernel)
theorem kw_3_2 : Cond.methodLink "StateTables$NarrowLayers" 83 (sty_N_lastsOf) ∈ stGW := st_t3 (List.mem_of_getElem? (i := 2) (by decide +kernel)) (by decide +kernel)
theorem kw_3_3 : Cond.static (sty_N_lastsOf) ∈ stGW := st_t3 (List.mem_of_getElem? (i := 3) (by decide +kernel)) (by decide +kernel)
theorem std_N_follow_12 : decode stc_N_follow 12 = .ok (.istore 6, 2) := by decide +kernel
theorem std_N_follow_14 : decode stc_N_follow 14 = .ok (.iload 6, 2) := by decide +kernel
theorem std_N_follow_16 : decode stc_N_follow 16 = .ok (.ifCond .eq 25, 3) := by decide +kernel
theorem std_N_follow_41 : decode stc_N_follow 41 = .ok (.iconst 0, 1) := by decide +kernel
theorem std_N_follow_42 : decode stc_N_follow 42 = .ok (.istore 7, 2) := by decide +kernel
theorem std_N_follow_44 : decode stc_N_follow 44 = .ok (.aload_n 0, 1) := by decide +kernel
theorem std_N_follow_45 : decode stc_N_follow 45 = .ok (.getfield 18, 3) := by decide +kernel
theorem kw_1_161 : Cond.fieldLink "StateTables$NarrowLayers" 18 "StateTables$NarrowLayers" "told" "LStateTables$Told;" ∈ stGW := st_t1 (List.mem_of_getElem? (i := 161) (by decide +kernel)) (by decide +kernel)
theorem std_N_follow_48 : decode stc_N_follow 48 = .ok (.getfield 90, 3) := by decide +kernel
theorem kw_1_44 : Cond.fieldLink "StateTables$NarrowLayers" 90 "StateTables$Told" "firstUses" "[I" ∈ stGW := st_t1 (List.mem_of_getElem? (i := 44) (by decide +kernel)) (by decide +kernel)
theorem std_N_follow_51 : decode stc_N_follow 51 = .ok (.iload 5, 2) := by decide +kernel
theorem std_N_follow_53 : decode stc_N_follow 53 = .ok (.iaload, 1) := by decide +kernel
theorem std_N_follow_54 : decode stc_N_follow 54 = .ok (.istore 8, 2) := by decide +kernel
theorem std_N_follow_56 : decode stc_N_follow 56 = .ok (.aload_n 0, 1) := by decide +kernel
theorem std_N_follow_57 : decode stc_N_follow 57 = .ok (.getfield 18, 3) := by decide +kernel
theorem std_N_follow_60 : decode stc_N_follow 60 = .ok (.getfield 93, 3) := by decide +kernel
theorem kw_1_47 : Cond.fieldLink "StateTables$NarrowLayers" 93 "StateTables$Told" "secondUses" "[I" ∈ stGW := st_t1 (List.mem_of_getElem? (i := 47) (by decide +kernel)) (by decide +kernel)
theorem std_N_follow_63 : decode stc_N_follow 63 = .ok (.iload 5, 2) := by decide +kernel
theorem std_N_follow_65 : decode stc_N_follow 65 = .ok (.iaload, 1) := by decide +kernel
theorem std_N_follow_66 : decode stc_N_follow 66 = .ok (.istore 9, 2) := by decide +kernel
theorem std_N_follow_68 : decode stc_N_follow 68 = .ok (.lload_n 1, 1) := by decide +kernel
theorem std_N_follow_69 : decode stc_N_follow 69 = .ok (.invokestatic 96, 3) := by decide +kernel
theorem kw_3_7 : Cond.code sty_N_lowOfFirst stc_N_lowOfFirst 2 (some .int) ∈ stGW := st_t3 (List.mem_of_getElem? (i := 7) (by decide +kernel)) (by decide +kernel)
theorem kw_3_5 : Cond.methodLink "StateTables$NarrowLayers" 96 (sty_N_lowOfFirst) ∈ stGW := st_t3 (List.mem_of_getElem? (i := 5) (by decide +kernel)) (by decide +kernel)
theorem kw_3_6 : Cond.static (sty_N_lowOfFirst) ∈ stGW := st_t3 (List.mem_of_getElem? (i := 6) (by decide +kernel)) (by decide +kernel)
theorem std_N_follow_72 : decode stc_N_follow 72 = .ok (.iload 8, 2) := by decide +kernel
theorem std_N_follow_74 : decode stc_N_follow 74 = .ok (.iadd, 1) := by decide +kernel
theorem std_N_follow_75 : decode stc_N_follow 75 = .ok (.istore 10, 2) := by decide +kernel
theorem std_N_follow_77 : decode stc_N_follow 77 = .ok (.lload_n 1, 1) := by decide +kernel
theorem std_N_follow_78 : decode stc_N_follow 78 = .ok (.invokestatic 99, 3) := by decide +kernel
theorem kw_3_10 : Cond.code sty_N_lowOfSecond stc_N_lowOfSecond 2 (some .int) ∈ stGW := st_t3 (List.mem_of_getElem? (i := 10) (by decide +kernel)) (by decide +kernel)
theorem kw_3_8 : Cond.methodLink "StateTables$NarrowLayers" 99 (sty_N_lowOfSecond) ∈ stGW := st_t3 (List.mem_of_getElem? (i := 8) (by decide +kernel)) (by decide +kernel)
theorem kw_3_9 : Cond.static (sty_N_lowOfSecond) ∈ stGW := st_t3 (List.mem_of_getElem? (i := 9) (by decide +kernel)) (by decide +kernel)
theorem std_N_follow_81 : decode stc_N_follow 81 = .ok (.iload 9, 2) := by decide +kernel
theorem std_N_follow_83 : decode stc_N_follow 83 = .ok (.iadd, 1) := by decide +kernel
theorem std_N_follow_84 : decode stc_N_follow 84 = .ok (.istore 11, 2) := by decide +kernel
theorem std_N_follow_86 : decode stc_N_follow 86 = .ok (.iload 7, 2) := by decide +kernel
theorem std_N_follow_88 : decode stc_N_follow 88 = .ok (.ifCond .ne 17, 3) := by decide +kernel
theorem std_N_follow_91 : decode stc_N_follow 91 = .ok (.aload_n 0, 1) := by decide +kernel
theorem std_N_follow_92 : decode stc_N_follow 92 = .ok (.getfield 18, 3) := by decide +kernel
theorem std_N_follow_95 : decode stc_N_follow 95 = .ok (.iload 10, 2) := by decide +kernel
theorem std_N_follow_97 : decode stc_N_follow 97 = .ok (.iload 11, 2) := by decide +kernel
theorem std_N_follow_99 : decode stc_N_follow 99 = .ok (.invokevirtual 102, 3) := by decide +kernel
theorem kw_3_11 : Cond.methodLink "StateTables$NarrowLayers" 102 (sty_T_isWithinMost) ∈ stGW := st_t3 (List.mem_of_getElem? (i := 11) (by decide +kernel)) (by decide +kernel)
theorem std_N_follow_102 : decode stc_N_follow 102 = .ok (.ifCond .ne 4, 3) := by decide +kernel
theorem std_N_follow_106 : decode stc_N_follow 106 = .ok (.lload_n 1, 1) := by decide +kernel
theorem std_N_follow_107 : decode stc_N_follow 107 = .ok (.invokestatic 106, 3) := by decide +kernel
theorem kw_3_14 : Cond.code sty_N_highOfFirst stc_N_highOfFirst 2 (some .int) ∈ stGW := st_t3 (List.mem_of_getElem? (i := 14) (by decide +kernel)) (by decide +kernel)
theorem kw_3_12 : Cond.methodLink "StateTables$NarrowLayers" 106 (sty_N_highOfFirst) ∈ stGW := st_t3 (List.mem_of_getElem? (i := 12) (by decide +kernel)) (by decide +kernel)
theorem kw_3_13 : Cond.static (sty_N_highOfFirst) ∈ stGW := st_t3 (List.mem_of_getElem? (i := 13) (by decide +kernel)) (by decide +kernel)
theorem std_N_follow_110 : decode stc_N_follow 110 = .ok (.iload 8, 2) := by decide +kernel
theorem std_N_follow_112 : decode stc_N_follow 112 = .ok (.iadd, 1) := by decide +kernel
theorem std_N_follow_113 : decode stc_N_follow 113 = .ok (.aload_n 0, 1) := by decide +kernel
theorem std_N_follow_114 : decode stc_N_follow 114 = .ok (.getfield 18, 3) := by decide +kernel
theorem std_N_follow_117 : decode stc_N_follow 117 = .ok (.getfield 109, 3) := by decide +kernel
theorem kw_1_54 : Cond.fieldLink "StateTables$NarrowLayers" 109 "StateTables$Told" "most" "[I" ∈ stGW := st_t1 (List.mem_of_getElem? (i := 54) (by decide +kernel)) (by decide +kernel)
theorem std_N_follow_120 : decode stc_N_follow 120 = .ok (.iconst 0, 1) := by decide +kernel
theorem std_N_follow_121 : decode stc_N_follow 121 = .ok (.iaload, 1) := by decide +kernel
theorem std_N_follow_122 : decode stc_N_follow 122 = .ok (.invokestatic 112, 3) := by decide +kernel
theorem std_N_follow_125 : decode stc_N_follow 125 = .ok (.istore 12, 2) := by decide +kernel
theorem std_N_follow_127 : decode stc_N_follow 127 = .ok (.lload_n 1, 1) := by decide +kernel
theorem std_N_follow_128 : decode stc_N_follow 128 = .ok (.invokestatic 115, 3) := by decide +kernel
theorem kw_3_18 : Cond.code sty_N_highOfSecond stc_N_highOfSecond 2 (some .int) ∈ stGW := st_t3 (List.mem_of_getElem? (i := 18) (by decide +kernel)) (by decide +kernel)
theorem kw_3_16 : Cond.methodLink "StateTables$NarrowLayers" 115 (sty_N_highOfSecond) ∈ stGW := st_t3 (List.mem_of_getElem? (i := 16) (by decide +kernel)) (by decide +kernel)
theorem kw_3_17 : Cond.static (sty_N_highOfSecond) ∈ stGW := st_t3 (List.mem_of_getElem? (i := 17) (by decide +kernel)) (by decide +kernel)
theorem std_N_follow_131 : decode stc_N_follow 131 = .ok (.iload 9, 2) := by decide +kernel
theorem std_N_follow_133 : decode stc_N_follow 133 = .ok (.iadd, 1) := by decide +kernel
theorem std_N_follow_134 : decode stc_N_follow 134 = .ok (.aload_n 0, 1) := by decide +kernel
theorem std_N_follow_135 : decode stc_N_follow 135 = .ok (.getfield 18, 3) := by decide +kernel
theorem std_N_follow_138 : decode stc_N_follow 138 = .ok (.getfield 109, 3) := by decide +kernel
theorem std_N_follow_141 : decode stc_N_follow 141 = .ok (.iconst 1, 1) := by decide +kernel
theorem std_N_follow_142 : decode stc_N_follow 142 = .ok (.iaload, 1) := by decide +kernel
theorem std_N_follow_143 : decode stc_N_follow 143 = .ok (.invokestatic 112, 3) := by decide +kernel
theorem std_N_follow_146 : decode stc_N_follow 146 = .ok (.istore 13, 2) := by decide +kernel
theorem std_N_follow_148 : decode stc_N_follow 148 = .ok (.lload_n 1, 1) := by decide +kernel
theorem std_N_follow_149 : decode stc_N_follow 149 = .ok (.invokestatic 118, 3) := by decide +kernel
theorem kw_3_21 : Cond.code sty_N_costOf stc_N_costOf 2 (some .int) ∈ stGW := st_t3 (List.mem_of_getElem? (i := 21) (by decide +kernel)) (by decide +kernel)
theorem kw_3_19 : Cond.methodLink "StateTables$NarrowLayers" 118 (sty_N_costOf) ∈ stGW := st_t3 (List.mem_of_getElem? (i := 19) (by decide +kernel)) (by decide +kernel)
theorem kw_3_20 : Cond.static (sty_N_costOf) ∈ stGW := st_t3 (List.mem_of_getElem? (i := 20) (by decide +kernel)) (by decide +kernel)
theorem std_N_follow_152 : decode stc_N_follow 152 = .ok (.aload_n 0, 1) := by decide +kernel
theorem std_N_follow_153 : decode stc_N_follow 153 = .ok (.getfield 18, 3) := by decide +kernel
theorem std_N_follow_156 : decode stc_N_follow 156 = .ok (.getfield 121, 3) := by decide +kernel
theorem kw_1_40 : Cond.fieldLink "StateTables$NarrowLayers" 121 "StateTables$Told" "costs" "[I" ∈ stGW := st_t1 (List.mem_of_getElem? (i := 40) (by decide +kernel)) (by decide +kernel)
theorem std_N_follow_159 : decode stc_N_follow 159 = .ok (.iload 5, 2) := by decide +kernel
theorem std_N_follow_161 : decode stc_N_follow 161 = .ok (.iaload, 1) := by decide +kernel
theorem std_N_follow_162 : decode stc_N_follow 162 = .ok (.iadd, 1) := by decide +kernel
theorem std_N_follow_163 : decode stc_N_follow 163 = .ok (.istore 14, 2) := by decide +kernel
theorem std_N_follow_165 : decode stc_N_follow 165 = .ok (.aload_n 0, 1) := by decide +kernel
theorem std_N_follow_166 : decode stc_N_follow 166 = .ok (.getfield 15, 3) := by decide +kernel
theorem kw_1_171 : Cond.fieldLink "StateTables$NarrowLayers" 15 "StateTables$NarrowLayers" "nextNodes" "[J" ∈ stGW := st_t1 (List.mem_of_getElem? (i := 171) (by decide +kernel)) (by decide +kernel)
theorem std_N_follow_169 : decode stc_N_follow 169 = .ok (.aload_n 0, 1) := by decide +kernel
theorem std_N_follow_170 : decode stc_N_follow 170 = .ok (.getfield 62, 3) := by decide +kernel
theorem kw_1_170 : Cond.fieldLink "StateTables$NarrowLayers" 62 "StateTables$NarrowLayers" "nextSize" "I" ∈ stGW := st_t1 (List.mem_of_getElem? (i := 170) (by decide +kernel)) (by decide +kernel)
theorem std_N_follow_173 : decode stc_N_follow 173 = .ok (.iload 14, 2) := by decide +kernel
theorem std_N_follow_175 : decode stc_N_follow 175 = .ok (.iload 10, 2) := by decide +kernel
theorem std_N_follow_177 : decode stc_N_follow 177 = .ok (.iload 11, 2) := by decide +kernel
theorem std_N_follow_179 : decode stc_N_follow 179 = .ok (.iload 12, 2) := by decide +kernel
theorem std_N_follow_181 : decode stc_N_follow 181 = .ok (.iload 13, 2) := by decide +kernel
theorem std_N_follow_183 : decode stc_N_follow 183 = .ok (.iconst 1, 1) := by decide +kernel
theorem std_N_follow_184 : decode stc_N_follow 184 = .ok (.iload 4, 2) := by decide +kernel
theorem std_N_follow_186 : decode stc_N_follow 186 = .ok (.ishl, 1) := by decide +kernel
theorem std_N_follow_187 : decode stc_N_follow 187 = .ok (.invokestatic 32, 3) := by decide +kernel
theorem kw_2_232 : Cond.code sty_N_wideNode stc_N_wideNode 8 (some .long) ∈ stGW := st_t2 (List.mem_of_getElem? (i := 232) (by decide +kernel)) (by decide +kernel)
theorem kw_2_230 : Cond.methodLink "StateTables$NarrowLayers" 32 (sty_N_wideNode) ∈ stGW := st_t2 (List.mem_of_getElem? (i := 230) (by decide +kernel)) (by decide +kernel)
theorem kw_2_231 : Cond.static (sty_N_wideNode) ∈ stGW := st_t2 (List.mem_of_getElem? (i := 231) (by decide +kernel)) (by decide +kernel)
theorem std_N_follow_190 : decode stc_N_follow 190 = .ok (.lastore, 1) := by decide +kernel
theorem std_N_follow_191 : decode stc_N_follow 191 = .ok (.aload_n 0, 1) := by decide +kernel
theorem std_N_follow_192 : decode stc_N_follow 192 = .ok (.dup, 1) := by decide +kernel
theorem std_N_follow_193 : decode stc_N_follow 193 = .ok (.getfield 62, 3) := by decide +kernel
theorem std_N_follow_196 : decode stc_N_follow 196 = .ok (.iconst 1, 1) := by decide +kernel
theorem std_N_follow_197 : decode stc_N_follow 197 = .ok (.iadd, 1) := by decide +kernel
theorem std_N_follow_198 : decode stc_N_follow 198 = .ok (.putfield 62, 3) := by decide +kernel
theorem std_N_follow_201 : decode stc_N_follow 201 = .ok (.return_, 1) := by decide +kernel
theorem std_N_follow_105 : decode stc_N_follow 105 = .ok (.return_, 1) := by decide +kernel
theorem std_N_follow_19 : decode stc_N_follow 19 = .ok (.iload 6, 2) := by decide +kernel
theorem std_N_follow_21 : decode stc_N_follow 21 = .ok (.aload_n 0, 1) := by decide +kernel
theorem std_N_follow_22 : decode stc_N_follow 22 = .ok (.getfield 18, 3) := by decide +kernel
theorem std_N_follow_25 : decode stc_N_follow 25 = .ok (.getfield 87, 3) := by decide +kernel
theorem kw_1_50 : Cond.fieldLink "StateTables$NarrowLayers" 87 "StateTables$Told" "barredBehind" "[I" ∈ stGW := st_t1 (List.mem_of_getElem? (i := 50) (by decide +kernel)) (by decide +kernel)
theorem std_N_follow_28 : decode stc_N_follow 28 = .ok (.iload 5, 2) := by decide +kernel
theorem std_N_follow_30 : decode stc_N_follow 30 = .ok (.iaload, 1) := by decide +kernel
theorem std_N_follow_31 : decode stc_N_follow 31 = .ok (.iconst (-1), 1) := by decide +kernel
theorem std_N_follow_32 : decode stc_N_follow 32 = .ok (.ixor, 1) := by decide +kernel
theorem std_N_follow_33 : decode stc_N_follow 33 = .ok (.iand, 1) := by decide +kernel
theorem std_N_follow_34 : decode stc_N_follow 34 = .ok (.ifCond .ne 7, 3) := by decide +kernel
theorem std_N_follow_37 : decode stc_N_follow 37 = .ok (.iconst 1, 1) := by decide +kernel
theorem std_N_follow_38 : decode stc_N_follow 38 = .ok (.goto 4, 3) := by decide +kernel
set_option maxHeartbeats 4000000 in
set_option maxRecDepth 100000 in
theorem c_follow (l : Launch) (dC : Nat → ClassId) (dI : Nat → Nat → Nat) (cI cJ cZ : ClassId) (n0 : Nat) (v1 : Nat) (v2 : Nat) (lo : Int) (wi : Int) (cu : Int) (si : Int) (nx : Int) (t0 : Nat) (hs : Nat) (hc : Nat) (hf : Nat) (hg : Nat) (hb : Nat) (he : Nat) (hm : Nat) (steps : Int) (choices : Int) (bars : Int) (fn : Int → Int) (fsz : Int → Int) (fco : Int → Int) (ffu : Int → Int) (fsu : Int → Int) (fbb : Int → Int) (fmo : Int → Int) (a : Int) (sd : Int) (b : Int) (dd : Int) (kx : 0 ≤ nx ∧ nx < 360) (kT : TB fsz fco ffu fsu fbb fmo) (kE : WN dd a) (kdd : dd ≤ 11000) (ksd : 0 ≤ sd ∧ sd < 12) (kb : 0 ≤ b ∧ b < 6) : ∀ sz, Met l sty_N_follow (Cond.code sty_N_follow stc_N_follow 15 none :: stGW) ({ frames := 1, cells := 0, slots := 0, locals := 27 } : Room) (va_Pc [.ref n0, .long (lI a), .int (iI sd), .int (iI b)] (zPre (dC, dI) stCl [(cI, .int), (cJ, .long), (cZ, .boolean)] st_nw [(n0, .inr (4, [.ref t0, .int (iI lo), .int (iI wi), .int (iI cu), .int (iI si), .ref v1, .int (iI nx), .ref v2])), (v2, .inl (cJ, aL 360 fn)), (t0, .inr (1, [.int (iI steps), .int (iI choices), .int (iI bars), .ref hs, .ref hc, .ref hf, .ref hg, .ref hb, .ref he, .ref hm])), (hc, .inl (cI, aI 72 fco)), (hf, .inl (cI, aI 72 ffu)), (hg, .inl (cI, aI 72 fsu)), (hb, .inl (cI, aI 72 fbb)), (hm, .inl (cI, aI 2 fmo))] sz)) (va_Qv (fun (u : (Int → Int) × Int) => FO fco ffu fsu fbb fmo fn ((sd * 6) + b) b nx a u.1 u.2) (zPost (dC, dI) stCl [(cI, .int), (cJ, .long), (cZ, .boolean)] [(n0, .inr (4, [.ref t0, .int (iI lo), .int (iI wi), .int (iI cu), .int (iI si), .ref v1, .int (iI nx), .ref v2])), (v2, .inl (cJ, aL 360 fn)), (t0, .inr (1, [.int (iI steps), .int (iI choices), .int (iI bars), .ref hs, .ref hc, .ref hf, .ref hg, .ref hb, .ref he, .ref hm])), (hc, .inl (cI, aI 72 fco)), (hf, .inl (cI, aI 72 ffu)), (hg, .inl (cI, aI 72 fsu)), (hb, .inl (cI, aI 72 fbb)), (hm, .inl (cI, aI 2 fmo))] sz (fun u : (Int → Int) × Int => [(n0, .inr (4, [.ref t0, .int (iI lo), .int (iI wi), .int (iI cu), .int (iI si), .ref v1, .int (iI (u.2)), .ref v2])), (v2, .inl (cJ, aL 360 (u.1))), (t0, .inr (1, [.int (iI steps), .int (iI choices), .int (iI bars), .ref hs, .ref hc, .ref hf, .ref hg, .ref hb, .ref he, .ref hm])), (hc, .inl (cI, aI 72 fco)), (hf, .inl (cI, aI 72 ffu)), (hg, .inl (cI, aI 72 fsu)), (hb, .inl (cI, aI 72 fbb)), (hm, .inl (cI, aI 2 fmo))])) (va_A [(n0, .inr (4, [.ref t0, .int (iI lo), .int (iI wi), .int (iI cu), .int (iI si), .ref v1, .int (iI nx), .ref v2])), (v2, .inl (cJ, aL 360 fn)), (t0, .inr (1, [.int (iI steps), .int (iI choices), .int (iI bars), .ref hs, .ref hc, .ref hf, .ref hg, .ref hb, .ref he, .ref hm])), (hc, .inl (cI, aI 72 fco)), (hf, .inl (cI, aI 72 ffu)), (hg, .inl (cI, aI 72 fsu)), (hb, .inl (cI, aI 72 fbb)), (hm, .inl (cI, aI 2 fmo))] sz)) 0 0 (va_A [(n0, .inr (4, [.ref t0, .int (iI lo), .int (iI wi), .int (iI cu), .int (iI si), .ref v1, .int (iI nx), .ref v2])), (v2, .inl (cJ, aL 360 fn)), (t0, .inr (1, [.int (iI steps), .int (iI choices), .int (iI bars), .ref hs, .ref hc, .ref hf, .ref hg, .ref hb, .ref he, .ref hm])), (hc, .inl (cI, aI 72 fco)), (hf, .inl (cI, aI 72 ffu)), (hg, .inl (cI, aI 72 fsu)), (hb, .inl (cI, aI 72 fbb)), (hm, .inl (cI, aI 2 fmo))] sz) := by
  refine met_v (by decide) rfl (Nat.le_of_ble_eq_true rfl) ?_
  intro p e s m below meth c A Q C hmn hret
  have hE := kE
  unfold WN at hE
  have hq1 := kT.2.1 ((sd * 6) + b) (by omega) (by omega)
  have hq2 := kT.2.2.1 ((sd * 6) + b) (by omega) (by omega)
  have hq3 := kT.2.2.2 0 (by omega) (by omega)
  have hq4 := kT.2.2.2 1 (by omega) (by omega)
  have hpw := pw6 b.toNat (by omega)
  have han := andn_r (a % 64) (fbb ((sd * 6) + b))
  unfold rI at han
  refine g_iload_n C 2 std_N_follow_0 rfl ?_
  refine g_iload C 3 std_N_follow_1 rfl ?_
  refine g_SN_i (wc := []) (wr := [(n0, .inr (4, [.ref t0, .int (iI lo), .int (iI wi), .int (iI cu), .int (iI si), .ref v1, .int (iI nx), .ref v2])), (v2, .inl (cJ, aL 360 fn)), (t0, .inr (1, [.int (iI steps), .int (iI choices), .int (iI bars), .ref hs, .ref hc, .ref hf, .ref hg, .ref hb, .ref he, .ref hm])), (hc, .inl (cI, aI 72 fco)), (hf, .inl (cI, aI 72 ffu)), (hg, .inl (cI, aI 72 fsu)), (hb, .inl (cI, aI 72 fbb)), (hm, .inl (cI, aI 2 fmo))]) (rest := []) C (c_placeOf l dC dI cI cJ cZ sd b ) (st_cSN C kw_1_235 (List.mem_of_getElem? (i := 8) rfl) kw_1_1 kw_1_234 sth_S_placeOf ⟨Nat.le_of_ble_eq_true rfl, Nat.le_of_ble_eq_true rfl⟩) rfl rfl (Nat.le_of_ble_eq_true rfl) std_N_follow_3 ⟨Nat.le_of_ble_eq_true rfl, Nat.le_of_ble_eq_true rfl⟩ [] [0, 1, 2, 3, 4, 5, 6, 7] rfl rfl rfl rfl (by decide) (fun r1 u2 h3 => ?_)
  subst h3
  refine g_ws (ws' := [(n0, .inr (4, [.ref t0, .int (iI lo), .int (iI wi), .int (iI cu), .int (iI si), .ref v1, .int (iI nx), .ref v2])), (v2, .inl (cJ, aL 360 fn)), (t0, .inr (1, [.int (iI steps), .int (iI choices), .int (iI bars), .ref hs, .ref hc, .ref hf, .ref hg, .ref hb, .ref he, .ref hm])), (hc, .inl (cI, aI 72 fco)), (hf, .inl (cI, aI 72 ffu)), (hg, .inl (cI, aI 72 fsu)), (hb, .inl (cI, aI 72 fbb)), (hm, .inl (cI, aI 2 fmo))]) rfl ?_
  refine g_istore C (lv' := [(5, .int (iI ((sd * 6) + b))), (0, .ref n0), (1, .long (lI a)), (3, .int (iI sd)), (4, .int (iI b))]) std_N_follow_6 (by decide) rfl ?_
  refine g_lload_n C 2 std_N_follow_8 rfl ?_
  refine g_S_i (wc := []) (wr := [(n0, .inr (4, [.ref t0, .int (iI lo), .int (iI wi), .int (iI cu), .int (iI si), .ref v1, .int (iI nx), .ref v2])), (v2, .inl (cJ, aL 360 fn)), (t0, .inr (1, [.int (iI steps), .int (iI choices), .int (iI bars), .ref hs, .ref hc, .ref hf, .ref hg, .ref hb, .ref he, .ref hm])), (hc, .inl (cI, aI 72 fco)), (hf, .inl (cI, aI 72 ffu)), (hg, .inl (cI, aI 72 fsu)), (hb, .inl (cI, aI 72 fbb)), (hm, .inl (cI, aI 2 fmo))]) (rest := []) C (c_lastsOf l dC dI cI cJ cZ a (by omega)) (st_cS C kw_3_4 kw_3_2 kw_1_5 kw_3_3 sth_N_lastsOf ⟨Nat.le_of_ble_eq_true rfl, Nat.le_of_ble_eq_true rfl⟩) rfl rfl (Nat.le_of_ble_eq_true rfl) std_N_follow_9 ⟨Nat.le_of_ble_eq_true rfl, Nat.le_of_ble_eq_true rfl⟩ [] [0, 1, 2, 3, 4, 5, 6, 7] rfl rfl rfl rfl (by decide) (fun r4 u5 h6 => ?_)
  subst h6
  refine g_ws (ws' := [(n0, .inr (4, [.ref t0, .int (iI lo), .int (iI wi), .int (iI cu), .int (iI si), .ref v1, .int (iI nx), .ref v2])), (v2, .inl (cJ, aL 360 fn)), (t0, .inr (1, [.int (iI steps), .int (iI choices), .int (iI bars), .ref hs, .ref hc, .ref hf, .ref hg, .ref hb, .ref he, .ref hm])), (hc, .inl (cI, aI 72 fco)), (hf, .inl (cI, aI 72 ffu)), (hg, .inl (cI, aI 72 fsu)), (hb, .inl (cI, aI 72 fbb)), (hm, .inl (cI, aI 2 fmo))]) rfl ?_
  refine g_istore C (lv' := [(6, .int (iI (a % 64))), (5, .int (iI ((sd * 6) + b))), (0, .ref n0), (1, .long (lI a)), (3, .int (iI sd)), (4, .int (iI b))]) std_N_follow_12 (by decide) rfl ?_
  refine g_iload C 0 std_N_follow_14 rfl ?_
  refine g_if_eq (tgt := 41) C std_N_follow_16 (by decide) ⟨by omega, by omega⟩ (fun c7 => ?_) (fun c7 => ?_)
  · refine g_iconst C std_N_follow_41 ?_
    refine g_istore C (lv' := [(7, .int (iI 0)), (6, .int (iI (a % 64))), (5, .int (iI ((sd * 6) + b))), (0, .ref n0), (1, .long (lI a)), (3, .int (iI sd)), (4, .int (iI b))]) std_N_follow_42 (by decide) rfl ?_
    refine g_aload_n C 3 std_N_follow_44 rfl ?_
    refine g_get C (st_sub sti_N) 0 rfl rfl 0 (by decide) (List.mem_cons_of_mem _ kw_1_161) rfl rfl std_N_follow_45 ?_
    refine g_get C (st_sub sti_T) 2 rfl rfl 5 (by decide) (List.mem_cons_of_mem _ kw_1_44) rfl rfl std_N_follow_48 ?_
    refine g_iload C 2 std_N_follow_51 rfl ?_
    refine g_iald C 4 0 rfl rfl (by omega) (by omega) (by omega) std_N_follow_53 ?_
    refine g_istore C (lv' := [(8, .int (iI (ffu ((sd * 6) + b)))), (7, .int (iI 0)), (6, .int (iI (a % 64))), (5, .int (iI ((sd * 6) + b))), (0, .ref n0), (1, .long (lI a)), (3, .int (iI sd)), (4, .int (iI b))]) std_N_follow_54 (by decide) rfl ?_
    refine g_aload_n C 4 std_N_follow_56 rfl ?_
    refine g_get C (st_sub sti_N) 0 rfl rfl 0 (by decide) (List.mem_cons_of_mem _ kw_1_161) rfl rfl std_N_follow_57 ?_
    refine g_get C (st_sub sti_T) 2 rfl rfl 6 (by decide) (List.mem_cons_of_mem _ kw_1_47) rfl rfl std_N_follow_60 ?_
    refine g_iload C 3 std_N_follow_63 rfl ?_
    refine g_iald C 5 0 rfl rfl (by omega) (by omega) (by omega) std_N_follow_65 ?_
    refine g_istore C (lv' := [(9, .int (iI (fsu ((sd * 6) + b)))), (8, .int (iI (ffu ((sd * 6) + b)))), (7, .int (iI 0)), (6, .int (iI (a % 64))), (5, .int (iI ((sd * 6) + b))), (0, .ref n0), (1, .long (lI a)), (3, .int (iI sd)), (4, .int (iI b))]) std_N_follow_66 (by decide) rfl ?_
    refine g_lload_n C 6 std_N_follow_68 rfl ?_
    refine g_S_i (wc := []) (wr := [(n0, .inr (4, [.ref t0, .int (iI lo), .int (iI wi), .int (iI cu), .int (iI si), .ref v1, .int (iI nx), .ref v2])), (v2, .inl (cJ, aL 360 fn)), (t0, .inr (1, [.int (iI steps), .int (iI choices), .int (iI bars), .ref hs, .ref hc, .ref hf, .ref hg, .ref hb, .ref he, .ref hm])), (hc, .inl (cI, aI 72 fco)), (hf, .inl (cI, aI 72 ffu)), (hg, .inl (cI, aI 72 fsu)), (hb, .inl (cI, aI 72 fbb)), (hm, .inl (cI, aI 2 fmo))]) (rest := []) C (c_lowOfFirst l dC dI cI cJ cZ a (by omega)) (st_cS C kw_3_7 kw_3_5 kw_1_5 kw_3_6 sth_N_lowOfFirst ⟨Nat.le_of_ble_eq_true rfl, Nat.le_of_ble_eq_true rfl⟩) rfl rfl (Nat.le_of_ble_eq_true rfl) std_N_follow_69 ⟨Nat.le_of_ble_eq_true rfl, Nat.le_of_ble_eq_true rfl⟩ [] [0, 1, 2, 3, 4, 5, 6, 7] rfl rfl rfl rfl (by decide) (fun r8 u9 h10 => ?_)
    subst h10
    refine g_ws (ws' := [(n0, .inr (4, [.ref t0, .int (iI lo), .int (iI wi), .int (iI cu), .int (iI si), .ref v1, .int (iI nx), .ref v2])), (v2, .inl (cJ, aL 360 fn)), (t0, .inr (1, [.int (iI steps), .int (iI choices), .int (iI bars), .ref hs, .ref hc, .ref hf, .ref hg, .ref hb, .ref he, .ref hm])), (hc, .inl (cI, aI 72 fco)), (hf, .inl (cI, aI 72 ffu)), (hg, .inl (cI, aI 72 fsu)), (hb, .inl (cI, aI 72 fbb)), (hm, .inl (cI, aI 2 fmo))]) rfl ?_
    refine g_iload C 1 std_N_follow_72 rfl ?_
    refine g_iadd C std_N_follow_74 ?_
    refine g_istore C (lv' := [(10, .int (iI (((a / 16777216) % 64) + (ffu ((sd * 6) + b))))), (9, .int (iI (fsu ((sd * 6) + b)))), (8, .int (iI (ffu ((sd * 6) + b)))), (7, .int (iI 0)), (6, .int (iI (a % 64))), (5, .int (iI ((sd * 6) + b))), (0, .ref n0), (1, .long (lI a)), (3, .int (iI sd)), (4, .int (iI b))]) std_N_follow_75 (by decide) rfl ?_
    refine g_lload_n C 7 std_N_follow_77 rfl ?_
    refine g_S_i (wc := []) (wr := [(n0, .inr (4, [.ref t0, .int (iI lo), .int (iI wi), .int (iI cu), .int (iI si), .ref v1, .int (iI nx), .ref v2])), (v2, .inl (cJ, aL 360 fn)), (t0, .inr (1, [.int (iI steps), .int (iI choices), .int (iI bars), .ref hs, .ref hc, .ref hf, .ref hg, .ref hb, .ref he, .ref hm])), (hc, .inl (cI, aI 72 fco)), (hf, .inl (cI, aI 72 ffu)), (hg, .inl (cI, aI 72 fsu)), (hb, .inl (cI, aI 72 fbb)), (hm, .inl (cI, aI 2 fmo))]) (rest := []) C (c_lowOfSecond l dC dI cI cJ cZ a (by omega)) (st_cS C kw_3_10 kw_3_8 kw_1_5 kw_3_9 sth_N_lowOfSecond ⟨Nat.le_of_ble_eq_true rfl, Nat.le_of_ble_eq_true rfl⟩) rfl rfl (Nat.le_of_ble_eq_true rfl) std_N_follow_78 ⟨Nat.le_of_ble_eq_true rfl, Nat.le_of_ble_eq_true rfl⟩ [] [0, 1, 2, 3, 4, 5, 6, 7] rfl rfl rfl rfl (by decide) (fun r11 u12 h13 => ?_)
    subst h13
    refine g_ws (ws' := [(n0, .inr (4, [.ref t0, .int (iI lo), .int (iI wi), .int (iI cu), .int (iI si), .ref v1, .int (iI nx), .ref v2])), (v2, .inl (cJ, aL 360 fn)), (t0, .inr (1, [.int (iI steps), .int (iI choices), .int (iI bars), .ref hs, .ref hc, .ref hf, .ref hg, .ref hb, .ref he, .ref hm])), (hc, .inl (cI, aI 72 fco)), (hf, .inl (cI, aI 72 ffu)), (hg, .inl (cI, aI 72 fsu)), (hb, .inl (cI, aI 72 fbb)), (hm, .inl (cI, aI 2 fmo))]) rfl ?_
    refine g_iload C 1 std_N_follow_81 rfl ?_
    refine g_iadd C std_N_follow_83 ?_
    refine g_istore C (lv' := [(11, .int (iI (((a / 262144) % 64) + (fsu ((sd * 6) + b))))), (10, .int (iI (((a / 16777216) % 64) + (ffu ((sd * 6) + b))))), (9, .int (iI (fsu ((sd * 6) + b)))), (8, .int (iI (ffu ((sd * 6) + b)))), (7, .int (iI 0)), (6, .int (iI (a % 64))), (5, .int (iI ((sd * 6) + b))), (0, .ref n0), (1, .long (lI a)), (3, .int (iI sd)), (4, .int (iI b))]) std_N_follow_84 (by decide) rfl ?_
    refine g_iload C 4 std_N_follow_86 rfl ?_
    refine g_if_ne (tgt := 105) C std_N_follow_88 (by decide) (by decide) (fun c14 => ?_) (fun c14 => ?_)
    · exfalso; omega
    · refine g_aload_n C 7 std_N_follow_91 rfl ?_
      refine g_get C (st_sub sti_N) 0 rfl rfl 0 (by decide) (List.mem_cons_of_mem _ kw_1_161) rfl rfl std_N_follow_92 ?_
      refine g_iload C 1 std_N_follow_95 rfl ?_
      refine g_iload C 0 std_N_follow_97 rfl ?_
      refine g_V_i (wc := [(t0, .inr (1, [.int (iI steps), .int (iI choices), .int (iI bars), .ref hs, .ref hc, .ref hf, .ref hg, .ref hb, .ref he, .ref hm])), (hm, .inl (cI, aI 2 fmo))]) (wr := [(n0, .inr (4, [.ref t0, .int (iI lo), .int (iI wi), .int (iI cu), .int (iI si), .ref v1, .int (iI nx), .ref v2])), (v2, .inl (cJ, aL 360 fn)), (hc, .inl (cI, aI 72 fco)), (hf, .inl (cI, aI 72 ffu)), (hg, .inl (cI, aI 72 fsu)), (hb, .inl (cI, aI 72 fbb))]) (rest := []) C (c_isWithinMost l dC dI cI cJ cZ t0 hs hc hf hg hb he hm steps choices bars fmo (((a / 16777216) % 64) + (ffu ((sd * 6) + b))) (((a / 262144) % 64) + (fsu ((sd * 6) + b))) (kT.2.2.2) (by omega) (by omega)) (st_cV C kw_2_93 kw_3_11 kw_1_2 kw_2_91 kw_2_92 sth_T_isWithinMost ⟨Nat.le_of_ble_eq_true rfl, Nat.le_of_ble_eq_true rfl⟩) 0 rfl rfl rfl rfl (Nat.le_of_ble_eq_true rfl) std_N_follow_99 ⟨Nat.le_of_ble_eq_true rfl, Nat.le_of_ble_eq_true rfl⟩ [2, 7] [0, 1, 3, 4, 5, 6] rfl rfl rfl rfl (by decide) (fun r15 u16 h17 => ?_)
      subst h17
      refine g_ws (ws' := [(n0, .inr (4, [.ref t0, .int (iI lo), .int (iI wi), .int (iI cu), .int (iI si), .ref v1, .int (iI nx), .ref v2])), (v2, .inl (cJ, aL 360 fn)), (hc, .inl (cI, aI 72 fco)), (hf, .inl (cI, aI 72 ffu)), (hg, .inl (cI, aI 72 fsu)), (hb, .inl (cI, aI 72 fbb)), (t0, .inr (1, [.int (iI steps), .int (iI choices), .int (iI bars), .ref hs, .ref hc, .ref hf, .ref hg, .ref hb, .ref he, .ref hm])), (hm, .inl (cI, aI 2 fmo))]) rfl ?_
      refine g_ifne_b (tgt := 106) C std_N_follow_102 (by decide) (fun c18 => ?_) (fun c18 => ?_)
      · have hwo : wo ffu fsu fbb fmo ((sd * 6) + b) a := ⟨fun h => h.1 (by omega), c18⟩
        refine g_lload_n C 8 std_N_follow_106 rfl ?_
        refine g_S_i (wc := []) (wr := [(n0, .inr (4, [.ref t0, .int (iI lo), .int (iI wi), .int (iI cu), .int (iI si), .ref v1, .int (iI nx), .ref v2])), (v2, .inl (cJ, aL 360 fn)), (hc, .inl (cI, aI 72 fco)), (hf, .inl (cI, aI 72 ffu)), (hg, .inl (cI, aI 72 fsu)), (hb, .inl (cI, aI 72 fbb)), (t0, .inr (1, [.int (iI steps), .int (iI choices), .int (iI bars), .ref hs, .ref hc, .ref hf, .ref hg, .ref hb, .ref he, .ref hm])), (hm, .inl (cI, aI 2 fmo))]) (rest := []) C (c_highOfFirst l dC dI cI cJ cZ a (by omega)) (st_cS C kw_3_14 kw_3_12 kw_1_5 kw_3_13 sth_N_highOfFirst ⟨Nat.le_of_ble_eq_true rfl, Nat.le_of_ble_eq_true rfl⟩) rfl rfl (Nat.le_of_ble_eq_true rfl) std_N_follow_107 ⟨Nat.le_of_ble_eq_true rfl, Nat.le_of_ble_eq_true rfl⟩ [] [0, 1, 2, 3, 4, 5, 6, 7] rfl rfl rfl rfl (by decide) (fun r19 u20 h21 => ?_)
        subst h21
        refine g_ws (ws' := [(n0, .inr (4, [.ref t0, .int (iI lo), .int (iI wi), .int (iI cu), .int (iI si), .ref v1, .int (iI nx), .ref v2])), (v2, .inl (cJ, aL 360 fn)), (hc, .inl (cI, aI 72 fco)), (hf, .inl (cI, aI 72 ffu)), (hg, .inl (cI, aI 72 fsu)), (hb, .inl (cI, aI 72 fbb)), (t0, .inr (1, [.int (iI steps), .int (iI choices), .int (iI bars), .ref hs, .ref hc, .ref hf, .ref hg, .ref hb, .ref he, .ref hm])), (hm, .inl (cI, aI 2 fmo))]) rfl ?_
        refine g_iload C 3 std_N_follow_110 rfl ?_
        refine g_iadd C std_N_follow_112 ?_
        refine g_aload_n C 7 std_N_follow_113 rfl ?_
        refine g_get C (st_sub sti_N) 0 rfl rfl 0 (by decide) (List.mem_cons_of_mem _ kw_1_161) rfl rfl std_N_follow_114 ?_
        refine g_get C (st_sub sti_T) 6 rfl rfl 9 (by decide) (List.mem_cons_of_mem _ kw_1_54) rfl rfl std_N_follow_117 ?_
        refine g_iconst C std_N_follow_120 ?_
        refine g_iald C 7 0 rfl rfl (by omega) (by omega) (by omega) std_N_follow_121 ?_
        refine g_min C ⟨by omega, by omega⟩ ⟨by omega, by omega⟩ (List.mem_cons_of_mem _ kw_3_15) (List.mem_cons_of_mem _ kw_2_45) (List.mem_cons_of_mem _ kw_1_7) (List.mem_cons_of_mem _ kw_2_46) (Nat.le_of_ble_eq_true rfl) (Nat.le_of_ble_eq_true rfl) (Nat.le_of_ble_eq_true rfl) (Nat.le_of_ble_eq_true rfl) std_N_follow_122 ?_
        refine g_istore C (lv' := [(12, .int (iI (min (((a / 4096) % 64) + (ffu ((sd * 6) + b))) (fmo 0)))), (11, .int (iI (((a / 262144) % 64) + (fsu ((sd * 6) + b))))), (10, .int (iI (((a / 16777216) % 64) + (ffu ((sd * 6) + b))))), (9, .int (iI (fsu ((sd * 6) + b)))), (8, .int (iI (ffu ((sd * 6) + b)))), (7, .int (iI 0)), (6, .int (iI (a % 64))), (5, .int (iI ((sd * 6) + b))), (0, .ref n0), (1, .long (lI a)), (3, .int (iI sd)), (4, .int (iI b))]) std_N_follow_125 (by decide) rfl ?_
        refine g_lload_n C 9 std_N_follow_127 rfl ?_
        refine g_S_i (wc := []) (wr := [(n0, .inr (4, [.ref t0, .int (iI lo), .int (iI wi), .int (iI cu), .int (iI si), .ref v1, .int (iI nx), .ref v2])), (v2, .inl (cJ, aL 360 fn)), (hc, .inl (cI, aI 72 fco)), (hf, .inl (cI, aI 72 ffu)), (hg, .inl (cI, aI 72 fsu)), (hb, .inl (cI, aI 72 fbb)), (t0, .inr (1, [.int (iI steps), .int (iI choices), .int (iI bars), .ref hs, .ref hc, .ref hf, .ref hg, .ref hb, .ref he, .ref hm])), (hm, .inl (cI, aI 2 fmo))]) (rest := []) C (c_highOfSecond l dC dI cI cJ cZ a (by omega)) (st_cS C kw_3_18 kw_3_16 kw_1_5 kw_3_17 sth_N_highOfSecond ⟨Nat.le_of_ble_eq_true rfl, Nat.le_of_ble_eq_true rfl⟩) rfl rfl (Nat.le_of_ble_eq_true rfl) std_N_follow_128 ⟨Nat.le_of_ble_eq_true rfl, Nat.le_of_ble_eq_true rfl⟩ [] [0, 1, 2, 3, 4, 5, 6, 7] rfl rfl rfl rfl (by decide) (fun r22 u23 h24 => ?_)
        subst h24
        refine g_ws (ws' := [(n0, .inr (4, [.ref t0, .int (iI lo), .int (iI wi), .int (iI cu), .int (iI si), .ref v1, .int (iI nx), .ref v2])), (v2, .inl (cJ, aL 360 fn)), (hc, .inl (cI, aI 72 fco)), (hf, .inl (cI, aI 72 ffu)), (hg, .inl (cI, aI 72 fsu)), (hb, .inl (cI, aI 72 fbb)), (t0, .inr (1, [.int (iI steps), .int (iI choices), .int (iI bars), .ref hs, .ref hc, .ref hf, .ref hg, .ref hb, .ref he, .ref hm])), (hm, .inl (cI, aI 2 fmo))]) rfl ?_
        refine g_iload C 3 std_N_follow_131 rfl ?_
        refine g_iadd C std_N_follow_133 ?_
        refine g_aload_n C 8 std_N_follow_134 rfl ?_
        refine g_get C (st_sub sti_N) 0 rfl rfl 0 (by decide) (List.mem_cons_of_mem _ kw_1_161) rfl rfl std_N_follow_135 ?_
        refine g_get C (st_sub sti_T) 6 rfl rfl 9 (by decide) (List.mem_cons_of_mem _ kw_1_54) rfl rfl std_N_follow_138 ?_
        refine g_iconst C std_N_follow_141 ?_
        refine g_iald C 7 0 rfl rfl (by omega) (by omega) (by omega) std_N_follow_142 ?_
        refine g_min C ⟨by omega, by omega⟩ ⟨by omega, by omega⟩ (List.mem_cons_of_mem _ kw_3_15) (List.mem_cons_of_mem _ kw_2_45) (List.mem_cons_of_mem _ kw_1_7) (List.mem_cons_of_mem _ kw_2_46) (Nat.le_of_ble_eq_true rfl) (Nat.le_of_ble_eq_true rfl) (Nat.le_of_ble_eq_true rfl) (Nat.le_of_ble_eq_true rfl) std_N_follow_143 ?_
        refine g_istore C (lv' := [(13, .int (iI (min (((a / 64) % 64) + (fsu ((sd * 6) + b))) (fmo 1)))), (12, .int (iI (min (((a / 4096) % 64) + (ffu ((sd * 6) + b))) (fmo 0)))), (11, .int (iI (((a / 262144) % 64) + (fsu ((sd * 6) + b))))), (10, .int (iI (((a / 16777216) % 64) + (ffu ((sd * 6) + b))))), (9, .int (iI (fsu ((sd * 6) + b)))), (8, .int (iI (ffu ((sd * 6) + b)))), (7, .int (iI 0)), (6, .int (iI (a % 64))), (5, .int (iI ((sd * 6) + b))), (0, .ref n0), (1, .long (lI a)), (3, .int (iI sd)), (4, .int (iI b))]) std_N_follow_146 (by decide) rfl ?_
        refine g_lload_n C 10 std_N_follow_148 rfl ?_
        refine g_S_i (wc := []) (wr := [(n0, .inr (4, [.ref t0, .int (iI lo), .int (iI wi), .int (iI cu), .int (iI si), .ref v1, .int (iI nx), .ref v2])), (v2, .inl (cJ, aL 360 fn)), (hc, .inl (cI, aI 72 fco)), (hf, .inl (cI, aI 72 ffu)), (hg, .inl (cI, aI 72 fsu)), (hb, .inl (cI, aI 72 fbb)), (t0, .inr (1, [.int (iI steps), .int (iI choices), .int (iI bars), .ref hs, .ref hc, .ref hf, .ref hg, .ref hb, .ref he, .ref hm])), (hm, .inl (cI, aI 2 fmo))]) (rest := []) C (c_wcost l dC dI cI cJ cZ a (by omega)) (st_cS C kw_3_21 kw_3_19 kw_1_5 kw_3_20 sth_N_costOf ⟨Nat.le_of_ble_eq_true rfl, Nat.le_of_ble_eq_true rfl⟩) rfl rfl (Nat.le_of_ble_eq_true rfl) std_N_follow_149 ⟨Nat.le_of_ble_eq_true rfl, Nat.le_of_ble_eq_true rfl⟩ [] [0, 1, 2, 3, 4, 5, 6, 7] rfl rfl rfl rfl (by decide) (fun r25 u26 h27 => ?_)
        subst h27
        refine g_ws (ws' := [(n0, .inr (4, [.ref t0, .int (iI lo), .int (iI wi), .int (iI cu), .int (iI si), .ref v1, .int (iI nx), .ref v2])), (v2, .inl (cJ, aL 360 fn)), (hc, .inl (cI, aI 72 fco)), (hf, .inl (cI, aI 72 ffu)), (hg, .inl (cI, aI 72 fsu)), (hb, .inl (cI, aI 72 fbb)), (t0, .inr (1, [.int (iI steps), .int (iI choices), .int (iI bars), .ref hs, .ref hc, .ref hf, .ref hg, .ref hb, .ref he, .ref hm])), (hm, .inl (cI, aI 2 fmo))]) rfl ?_
        refine g_aload_n C 9 std_N_follow_152 rfl ?_
        refine g_get C (st_sub sti_N) 0 rfl rfl 0 (by decide) (List.mem_cons_of_mem _ kw_1_161) rfl rfl std_N_follow_153 ?_
        refine g_get C (st_sub sti_T) 6 rfl rfl 4 (by decide) (List.mem_cons_of_mem _ kw_1_40) rfl rfl std_N_follow_156 ?_
        refine g_iload C 8 std_N_follow_159 rfl ?_
        refine g_iald C 2 0 rfl rfl (by omega) (by omega) (by omega) std_N_follow_161 ?_
        refine g_iadd C std_N_follow_162 ?_
        refine g_istore C (lv' := [(14, .int (iI (((a / 1073741824) - 12000) + (fco ((sd * 6) + b))))), (13, .int (iI (min (((a / 64) % 64) + (fsu ((sd * 6) + b))) (fmo 1)))), (12, .int (iI (min (((a / 4096) % 64) + (ffu ((sd * 6) + b))) (fmo 0)))), (11, .int (iI (((a / 262144) % 64) + (fsu ((sd * 6) + b))))), (10, .int (iI (((a / 16777216) % 64) + (ffu ((sd * 6) + b))))), (9, .int (iI (fsu ((sd * 6) + b)))), (8, .int (iI (ffu ((sd * 6) + b)))), (7, .int (iI 0)), (6, .int (iI (a % 64))), (5, .int (iI ((sd * 6) + b))), (0, .ref n0), (1, .long (lI a)), (3, .int (iI sd)), (4, .int (iI b))]) std_N_follow_163 (by decide) rfl ?_
        refine g_aload_n C 10 std_N_follow_165 rfl ?_
        refine g_get C (st_sub sti_N) 0 rfl rfl 7 (by decide) (List.mem_cons_of_mem _ kw_1_171) rfl rfl std_N_follow_166 ?_
        refine g_aload_n C 10 std_N_follow_169 rfl ?_
        refine g_get C (st_sub sti_N) 0 rfl rfl 6 (by decide) (List.mem_cons_of_mem _ kw_1_170) rfl rfl std_N_follow_170 ?_
        refine g_iload C 0 std_N_follow_173 rfl ?_
        refine g_iload C 4 std_N_follow_175 rfl ?_
        refine g_iload C 3 std_N_follow_177 rfl ?_
        refine g_iload C 2 std_N_follow_179 rfl ?_
        refine g_iload C 1 std_N_follow_181 rfl ?_
        refine g_iconst C std_N_follow_183 ?_
        refine g_iload C 13 std_N_follow_184 rfl ?_
        refine g_ishl C (d := (2 ^ (b).toNat)) std_N_follow_186 (by omega) (by omega) rfl ?_
        refine g_S_l (wc := []) (wr := [(n0, .inr (4, [.ref t0, .int (iI lo), .int (iI wi), .int (iI cu), .int (iI si), .ref v1, .int (iI nx), .ref v2])), (v2, .inl (cJ, aL 360 fn)), (hc, .inl (cI, aI 72 fco)), (hf, .inl (cI, aI 72 ffu)), (hg, .inl (cI, aI 72 fsu)), (hb, .inl (cI, aI 72 fbb)), (t0, .inr (1, [.int (iI steps), .int (iI choices), .int (iI bars), .ref hs, .ref hc, .ref hf, .ref hg, .ref hb, .ref he, .ref hm])), (hm, .inl (cI, aI 2 fmo))]) (rest := [.int (iI nx), .ref v2]) C (c_wideNode l dC dI cI cJ cZ (((a / 1073741824) - 12000) + (fco ((sd * 6) + b))) (((a / 16777216) % 64) + (ffu ((sd * 6) + b))) (((a / 262144) % 64) + (fsu ((sd * 6) + b))) (min (((a / 4096) % 64) + (ffu ((sd * 6) + b))) (fmo 0)) (min (((a / 64) % 64) + (fsu ((sd * 6) + b))) (fmo 1)) (1 * (2 ^ (b).toNat)) (by omega) (by omega) (by omega) (by omega) (by omega) (by omega)) (st_cS C kw_2_232 kw_2_230 kw_1_5 kw_2_231 sth_N_wideNode ⟨Nat.le_of_ble_eq_true rfl, Nat.le_of_ble_eq_true rfl⟩) rfl rfl (Nat.le_of_ble_eq_true rfl) std_N_follow_187 ⟨Nat.le_of_ble_eq_true rfl, Nat.le_of_ble_eq_true rfl⟩ [] [0, 1, 2, 3, 4, 5, 6, 7] rfl rfl rfl rfl (by decide) (fun r28 u29 h30 => ?_)
        subst h30
        refine g_ws (ws' := [(n0, .inr (4, [.ref t0, .int (iI lo), .int (iI wi), .int (iI cu), .int (iI si), .ref v1, .int (iI nx), .ref v2])), (v2, .inl (cJ, aL 360 fn)), (hc, .inl (cI, aI 72 fco)), (hf, .inl (cI, aI 72 ffu)), (hg, .inl (cI, aI 72 fsu)), (hb, .inl (cI, aI 72 fbb)), (t0, .inr (1, [.int (iI steps), .int (iI choices), .int (iI bars), .ref hs, .ref hc, .ref hf, .ref hg, .ref hb, .ref he, .ref hm])), (hm, .inl (cI, aI 2 fmo))]) rfl ?_
        refine g_last C (ws' := [(n0, .inr (4, [.ref t0, .int (iI lo), .int (iI wi), .int (iI cu), .int (iI si), .ref v1, .int (iI nx), .ref v2])), (v2, .inl (cJ, aL 360 (uZ fn nx ((((((a / 1073741824) - 12000) + (fco ((sd * 6) + b))) + 12000) * 1073741824) + (((((((((((a / 16777216) % 64) + (ffu ((sd * 6) + b))) * 64) + (((a / 262144) % 64) + (fsu ((sd * 6) + b)))) * 64) + (min (((a / 4096) % 64) + (ffu ((sd * 6) + b))) (fmo 0))) * 64) + (min (((a / 64) % 64) + (fsu ((sd * 6) + b))) (fmo 1))) * 64) + (1 * (2 ^ (b).toNat))))))), (hc, .inl (cI, aI 72 fco)), (hf, .inl (cI, aI 72 ffu)), (hg, .inl (cI, aI 72 fsu)), (hb, .inl (cI, aI 72 fbb)), (t0, .inr (1, [.int (iI steps), .int (iI choices), .int (iI bars), .ref hs, .ref hc, .ref hf, .ref hg, .ref hb, .ref he, .ref hm])), (hm, .inl (cI, aI 2 fmo))]) 1 1 rfl rfl (by omega) (by omega) (by omega) std_N_follow_190 rfl ?_
        refine g_aload_n C 10 std_N_follow_191 rfl ?_
        refine g_dup C std_N_follow_192 rfl ?_
        refine g_get C (st_sub sti_N) 0 rfl rfl 6 (by decide) (List.mem_cons_of_mem _ kw_1_170) rfl rfl std_N_follow_193 ?_
        refine g_iconst C std_N_follow_196 ?_
        refine g_iadd C std_N_follow_197 ?_
        refine g_put C (ws' := [(n0, .inr (4, [.ref t0, .int (iI lo), .int (iI wi), .int (iI cu), .int (iI si), .ref v1, .int (iI (nx + 1)), .ref v2])), (v2, .inl (cJ, aL 360 (uZ fn nx ((((((a / 1073741824) - 12000) + (fco ((sd * 6) + b))) + 12000) * 1073741824) + (((((((((((a / 16777216) % 64) + (ffu ((sd * 6) + b))) * 64) + (((a / 262144) % 64) + (fsu ((sd * 6) + b)))) * 64) + (min (((a / 4096) % 64) + (ffu ((sd * 6) + b))) (fmo 0))) * 64) + (min (((a / 64) % 64) + (fsu ((sd * 6) + b))) (fmo 1))) * 64) + (1 * (2 ^ (b).toNat))))))), (hc, .inl (cI, aI 72 fco)), (hf, .inl (cI, aI 72 ffu)), (hg, .inl (cI, aI 72 fsu)), (hb, .inl (cI, aI 72 fbb)), (t0, .inr (1, [.int (iI steps), .int (iI choices), .int (iI bars), .ref hs, .ref hc, .ref hf, .ref hg, .ref hb, .ref he, .ref hm])), (hm, .inl (cI, aI 2 fmo))]) (st_sub sti_N) stt_N sto_N stn_N 0 rfl rfl 6 (by decide) (List.mem_cons_of_mem _ kw_1_170) rfl rfl rfl rfl (Nat.le_of_ble_eq_true rfl) std_N_follow_198 rfl ?_
        refine g_sub (ws' := [(n0, .inr (4, [.ref t0, .int (iI lo), .int (iI wi), .int (iI cu), .int (iI si), .ref v1, .int (iI (nx + 1)), .ref v2])), (v2, .inl (cJ, aL 360 (uZ fn nx ((((((a / 1073741824) - 12000) + (fco ((sd * 6) + b))) + 12000) * 1073741824) + (((((((((((a / 16777216) % 64) + (ffu ((sd * 6) + b))) * 64) + (((a / 262144) % 64) + (fsu ((sd * 6) + b)))) * 64) + (min (((a / 4096) % 64) + (ffu ((sd * 6) + b))) (fmo 0))) * 64) + (min (((a / 64) % 64) + (fsu ((sd * 6) + b))) (fmo 1))) * 64) + (1 * (2 ^ (b).toNat))))))), (t0, .inr (1, [.int (iI steps), .int (iI choices), .int (iI bars), .ref hs, .ref hc, .ref hf, .ref hg, .ref hb, .ref he, .ref hm])), (hc, .inl (cI, aI 72 fco)), (hf, .inl (cI, aI 72 ffu)), (hg, .inl (cI, aI 72 fsu)), (hb, .inl (cI, aI 72 fbb)), (hm, .inl (cI, aI 2 fmo))]) [0, 1, 6, 2, 3, 4, 5, 7] rfl rfl ?_
        refine g_wide (k := 0) (n := 0) (Nat.le_of_ble_eq_true rfl) (Nat.le_of_ble_eq_true rfl) ?_
        exact hret _ _ ((uZ fn nx ((((((a / 1073741824) - 12000) + (fco ((sd * 6) + b))) + 12000) * 1073741824) + (((((((((((a / 16777216) % 64) + (ffu ((sd * 6) + b))) * 64) + (((a / 262144) % 64) + (fsu ((sd * 6) + b)))) * 64) + (min (((a / 4096) % 64) + (ffu ((sd * 6) + b))) (fmo 0))) * 64) + (min (((a / 64) % 64) + (fsu ((sd * 6) + b))) (fmo 1))) * 64) + (1 * (2 ^ (b).toNat))))), (nx + 1)) (⟨fun _ => ⟨rfl, by dsimp only; rw [Int.one_mul]; rfl⟩, fun h => absurd hwo h⟩) std_N_follow_201
      · refine g_sub (ws' := [(n0, .inr (4, [.ref t0, .int (iI lo), .int (iI wi), .int (iI cu), .int (iI si), .ref v1, .int (iI nx), .ref v2])), (v2, .inl (cJ, aL 360 fn)), (t0, .inr (1, [.int (iI steps), .int (iI choices), .int (iI bars), .ref hs, .ref hc, .ref hf, .ref hg, .ref hb, .ref he, .ref hm])), (hc, .inl (cI, aI 72 fco)), (hf, .inl (cI, aI 72 ffu)), (hg, .inl (cI, aI 72 fsu)), (hb, .inl (cI, aI 72 fbb)), (hm, .inl (cI, aI 2 fmo))]) [0, 1, 6, 2, 3, 4, 5, 7] rfl rfl ?_
        refine g_wide (k := 0) (n := 0) (Nat.le_of_ble_eq_true rfl) (Nat.le_of_ble_eq_true rfl) ?_
        exact hret _ _ (fn, nx) (⟨fun h => absurd h.2 c18, fun _ => ⟨rfl, rfl⟩⟩) std_N_follow_105
  · refine g_iload C 0 std_N_follow_19 rfl ?_
    refine g_aload_n C 2 std_N_follow_21 rfl ?_
    refine g_get C (st_sub sti_N) 0 rfl rfl 0 (by decide) (List.mem_cons_of_mem _ kw_1_161) rfl rfl std_N_follow_22 ?_
    refine g_get C (st_sub sti_T) 2 rfl rfl 7 (by decide) (List.mem_cons_of_mem _ kw_1_50) rfl rfl std_N_follow_25 ?_
    refine g_iload C 1 std_N_follow_28 rfl ?_
    refine g_iald C 6 0 rfl rfl (by omega) (by omega) (by omega) std_N_follow_30 ?_
    refine g_iconst C std_N_follow_31 ?_
    refine g_ixor C (z := (-1 - (fbb ((sd * 6) + b)))) std_N_follow_32 (iI_not _) ?_
    refine g_iand C (z := (andn (a % 64) (fbb ((sd * 6) + b)))) std_N_follow_33 (iI_of _) ?_
    refine g_if_ne (tgt := 41) C std_N_follow_34 (by decide) ⟨by omega, by omega⟩ (fun c31 => ?_) (fun c31 => ?_)
    · refine g_iconst C std_N_follow_41 ?_
      refine g_istore C (lv' := [(7, .int (iI 0)), (6, .int (iI (a % 64))), (5, .int (iI ((sd * 6) + b))), (0, .ref n0), (1, .long (lI a)), (3, .int (iI sd)), (4, .int (iI b))]) std_N_follow_42 (by decide) rfl ?_
      refine g_aload_n C 3 std_N_follow_44 rfl ?_
      refine g_get C (st_sub sti_N) 0 rfl rfl 0 (by decide) (List.mem_cons_of_mem _ kw_1_161) rfl rfl std_N_follow_45 ?_
      refine g_get C (st_sub sti_T) 2 rfl rfl 5 (by decide) (List.mem_cons_of_mem _ kw_1_44) rfl rfl std_N_follow_48 ?_
      refine g_iload C 2 std_N_follow_51 rfl ?_
      refine g_iald C 4 0 rfl rfl (by omega) (by omega) (by omega) std_N_follow_53 ?_
      refine g_istore C (lv' := [(8, .int (iI (ffu ((sd * 6) + b)))), (7, .int (iI 0)), (6, .int (iI (a % 64))), (5, .int (iI ((sd * 6) + b))), (0, .ref n0), (1, .long (lI a)), (3, .int (iI sd)), (4, .int (iI b))]) std_N_follow_54 (by decide) rfl ?_
      refine g_aload_n C 4 std_N_follow_56 rfl ?_
      refine g_get C (st_sub sti_N) 0 rfl rfl 0 (by decide) (List.mem_cons_of_mem _ kw_1_161) rfl rfl std_N_follow_57 ?_
      refine g_get C (st_sub sti_T) 2 rfl rfl 6 (by decide) (List.mem_cons_of_mem _ kw_1_47) rfl rfl std_N_follow_60 ?_
      refine g_iload C 3 std_N_follow_63 rfl ?_
      refine g_iald C 5 0 rfl rfl (by omega) (by omega) (by omega) std_N_follow_65 ?_
      refine g_istore C (lv' := [(9, .int (iI (fsu ((sd * 6) + b)))), (8, .int (iI (ffu ((sd * 6) + b)))), (7, .int (iI 0)), (6, .int (iI (a % 64))), (5, .int (iI ((sd * 6) + b))), (0, .ref n0), (1, .long (lI a)), (3, .int (iI sd)), (4, .int (iI b))]) std_N_follow_66 (by decide) rfl ?_
      refine g_lload_n C 6 std_N_follow_68 rfl ?_
      refine g_S_i (wc := []) (wr := [(n0, .inr (4, [.ref t0, .int (iI lo), .int (iI wi), .int (iI cu), .int (iI si), .ref v1, .int (iI nx), .ref v2])), (v2, .inl (cJ, aL 360 fn)), (t0, .inr (1, [.int (iI steps), .int (iI choices), .int (iI bars), .ref hs, .ref hc, .ref hf, .ref hg, .ref hb, .ref he, .ref hm])), (hc, .inl (cI, aI 72 fco)), (hf, .inl (cI, aI 72 ffu)), (hg, .inl (cI, aI 72 fsu)), (hb, .inl (cI, aI 72 fbb)), (hm, .inl (cI, aI 2 fmo))]) (rest := []) C (c_lowOfFirst l dC dI cI cJ cZ a (by omega)) (st_cS C kw_3_7 kw_3_5 kw_1_5 kw_3_6 sth_N_lowOfFirst ⟨Nat.le_of_ble_eq_true rfl, Nat.le_of_ble_eq_true rfl⟩) rfl rfl (Nat.le_of_ble_eq_true rfl) std_N_follow_69 ⟨Nat.le_of_ble_eq_true rfl, Nat.le_of_ble_eq_true rfl⟩ [] [0, 1, 2, 3, 4, 5, 6, 7] rfl rfl rfl rfl (by decide) (fun r32 u33 h34 => ?_)
      subst h34
      refine g_ws (ws' := [(n0, .inr (4, [.ref t0, .int (iI lo), .int (iI wi), .int (iI cu), .int (iI si), .ref v1, .int (iI nx), .ref v2])), (v2, .inl (cJ, aL 360 fn)), (t0, .inr (1, [.int (iI steps), .int (iI choices), .int (iI bars), .ref hs, .ref hc, .ref hf, .ref hg, .ref hb, .ref he, .ref hm])), (hc, .inl (cI, aI 72 fco)), (hf, .inl (cI, aI 72 ffu)), (hg, .inl (cI, aI 72 fsu)), (hb, .inl (cI, aI 72 fbb)), (hm, .inl (cI, aI 2 fmo))]) rfl ?_
      refine g_iload C 1 std_N_follow_72 rfl ?_
      refine g_iadd C std_N_follow_74 ?_
      refine g_istore C (lv' := [(10, .int (iI (((a / 16777216) % 64) + (ffu ((sd * 6) + b))))), (9, .int (iI (fsu ((sd * 6) + b)))), (8, .int (iI (ffu ((sd * 6) + b)))), (7, .int (iI 0)), (6, .int (iI (a % 64))), (5, .int (iI ((sd * 6) + b))), (0, .ref n0), (1, .long (lI a)), (3, .int (iI sd)), (4, .int (iI b))]) std_N_follow_75 (by decide) rfl ?_
      refine g_lload_n C 7 std_N_follow_77 rfl ?_
      refine g_S_i (wc := []) (wr := [(n0, .inr (4, [.ref t0, .int (iI lo), .int (iI wi), .int (iI cu), .int (iI si), .ref v1, .int (iI nx), .ref v2])), (v2, .inl (cJ, aL 360 fn)), (t0, .inr (1, [.int (iI steps), .int (iI choices), .int (iI bars), .ref hs, .ref hc, .ref hf, .ref hg, .ref hb, .ref he, .ref hm])), (hc, .inl (cI, aI 72 fco)), (hf, .inl (cI, aI 72 ffu)), (hg, .inl (cI, aI 72 fsu)), (hb, .inl (cI, aI 72 fbb)), (hm, .inl (cI, aI 2 fmo))]) (rest := []) C (c_lowOfSecond l dC dI cI cJ cZ a (by omega)) (st_cS C kw_3_10 kw_3_8 kw_1_5 kw_3_9 sth_N_lowOfSecond ⟨Nat.le_of_ble_eq_true rfl, Nat.le_of_ble_eq_true rfl⟩) rfl rfl (Nat.le_of_ble_eq_true rfl) std_N_follow_78 ⟨Nat.le_of_ble_eq_true rfl, Nat.le_of_ble_eq_true rfl⟩ [] [0, 1, 2, 3, 4, 5, 6, 7] rfl rfl rfl rfl (by decide) (fun r35 u36 h37 => ?_)
      subst h37
      refine g_ws (ws' := [(n0, .inr (4, [.ref t0, .int (iI lo), .int (iI wi), .int (iI cu), .int (iI si), .ref v1, .int (iI nx), .ref v2])), (v2, .inl (cJ, aL 360 fn)), (t0, .inr (1, [.int (iI steps), .int (iI choices), .int (iI bars), .ref hs, .ref hc, .ref hf, .ref hg, .ref hb, .ref he, .ref hm])), (hc, .inl (cI, aI 72 fco)), (hf, .inl (cI, aI 72 ffu)), (hg, .inl (cI, aI 72 fsu)), (hb, .inl (cI, aI 72 fbb)), (hm, .inl (cI, aI 2 fmo))]) rfl ?_
      refine g_iload C 1 std_N_follow_81 rfl ?_
      refine g_iadd C std_N_follow_83 ?_
      refine g_istore C (lv' := [(11, .int (iI (((a / 262144) % 64) + (fsu ((sd * 6) + b))))), (10, .int (iI (((a / 16777216) % 64) + (ffu ((sd * 6) + b))))), (9, .int (iI (fsu ((sd * 6) + b)))), (8, .int (iI (ffu ((sd * 6) + b)))), (7, .int (iI 0)), (6, .int (iI (a % 64))), (5, .int (iI ((sd * 6) + b))), (0, .ref n0), (1, .long (lI a)), (3, .int (iI sd)), (4, .int (iI b))]) std_N_follow_84 (by decide) rfl ?_
      refine g_iload C 4 std_N_follow_86 rfl ?_
      refine g_if_ne (tgt := 105) C std_N_follow_88 (by decide) (by decide) (fun c38 => ?_) (fun c38 => ?_)
      · exfalso; omega
      · refine g_aload_n C 7 std_N_follow_91 rfl ?_
        refine g_get C (st_sub sti_N) 0 rfl rfl 0 (by decide) (List.mem_cons_of_mem _ kw_1_161) rfl rfl std_N_follow_92 ?_
        refine g_iload C 1 std_N_follow_95 rfl ?_
        refine g_iload C 0 std_N_follow_97 rfl ?_
        refine g_V_i (wc := [(t0, .inr (1, [.int (iI steps), .int (iI choices), .int (iI bars), .ref hs, .ref hc, .ref hf, .ref hg, .ref hb, .ref he, .ref hm])), (hm, .inl (cI, aI 2 fmo))]) (wr := [(n0, .inr (4, [.ref t0, .int (iI lo), .int (iI wi), .int (iI cu), .int (iI si), .ref v1, .int (iI nx), .ref v2])), (v2, .inl (cJ, aL 360 fn)), (hc, .inl (cI, aI 72 fco)), (hf, .inl (cI, aI 72 ffu)), (hg, .inl (cI, aI 72 fsu)), (hb, .inl (cI, aI 72 fbb))]) (rest := []) C (c_isWithinMost l dC dI cI cJ cZ t0 hs hc hf hg hb he hm steps choices bars fmo (((a / 16777216) % 64) + (ffu ((sd * 6) + b))) (((a / 262144) % 64) + (fsu ((sd * 6) + b))) (kT.2.2.2) (by omega) (by omega)) (st_cV C kw_2_93 kw_3_11 kw_1_2 kw_2_91 kw_2_92 sth_T_isWithinMost ⟨Nat.le_of_ble_eq_true rfl, Nat.le_of_ble_eq_true rfl⟩) 0 rfl rfl rfl rfl (Nat.le_of_ble_eq_true rfl) std_N_follow_99 ⟨Nat.le_of_ble_eq_true rfl, Nat.le_of_ble_eq_true rfl⟩ [2, 7] [0, 1, 3, 4, 5, 6] rfl rfl rfl rfl (by decide) (fun r39 u40 h41 => ?_)
        subst h41
        refine g_ws (ws' := [(n0, .inr (4, [.ref t0, .int (iI lo), .int (iI wi), .int (iI cu), .int (iI si), .ref v1, .int (iI nx), .ref v2])), (v2, .inl (cJ, aL 360 fn)), (hc, .inl (cI, aI 72 fco)), (hf, .inl (cI, aI 72 ffu)), (hg, .inl (cI, aI 72 fsu)), (hb, .inl (cI, aI 72 fbb)), (t0, .inr (1, [.int (iI steps), .int (iI choices), .int (iI bars), .ref hs, .ref hc, .ref hf, .ref hg, .ref hb, .ref he, .ref hm])), (hm, .inl (cI, aI 2 fmo))]) rfl ?_
        refine g_ifne_b (tgt := 106) C std_N_follow_102 (by decide) (fun c42 => ?_) (fun c42 => ?_)
        · have hwo : wo ffu fsu fbb fmo ((sd * 6) + b) a := ⟨fun h => absurd ((andn_0 (by omega) (by omega) (by omega) (by omega)).mpr h.2) (by omega), c42⟩
          refine g_lload_n C 8 std_N_follow_106 rfl ?_
          refine g_S_i (wc := []) (wr := [(n0, .inr (4, [.ref t0, .int (iI lo), .int (iI wi), .int (iI cu), .int (iI si), .ref v1, .int (iI nx), .ref v2])), (v2, .inl (cJ, aL 360 fn)), (hc, .inl (cI, aI 72 fco)), (hf, .inl (cI, aI 72 ffu)), (hg, .inl (cI, aI 72 fsu)), (hb, .inl (cI, aI 72 fbb)), (t0, .inr (1, [.int (iI steps), .int (iI choices), .int (iI bars), .ref hs, .ref hc, .ref hf, .ref hg, .ref hb, .ref he, .ref hm])), (hm, .inl (cI, aI 2 fmo))]) (rest := []) C (c_highOfFirst l dC dI cI cJ cZ a (by omega)) (st_cS C kw_3_14 kw_3_12 kw_1_5 kw_3_13 sth_N_highOfFirst ⟨Nat.le_of_ble_eq_true rfl, Nat.le_of_ble_eq_true rfl⟩) rfl rfl (Nat.le_of_ble_eq_true rfl) std_N_follow_107 ⟨Nat.le_of_ble_eq_true rfl, Nat.le_of_ble_eq_true rfl⟩ [] [0, 1, 2, 3, 4, 5, 6, 7] rfl rfl rfl rfl (by decide) (fun r43 u44 h45 => ?_)
          subst h45
          refine g_ws (ws' := [(n0, .inr (4, [.ref t0, .int (iI lo), .int (iI wi), .int (iI cu), .int (iI si), .ref v1, .int (iI nx), .ref v2])), (v2, .inl (cJ, aL 360 fn)), (hc, .inl (cI, aI 72 fco)), (hf, .inl (cI, aI 72 ffu)), (hg, .inl (cI, aI 72 fsu)), (hb, .inl (cI, aI 72 fbb)), (t0, .inr (1, [.int (iI steps), .int (iI choices), .int (iI bars), .ref hs, .ref hc, .ref hf, .ref hg, .ref hb, .ref he, .ref hm])), (hm, .inl (cI, aI 2 fmo))]) rfl ?_
          refine g_iload C 3 std_N_follow_110 rfl ?_
          refine g_iadd C std_N_follow_112 ?_
          refine g_aload_n C 7 std_N_follow_113 rfl ?_
          refine g_get C (st_sub sti_N) 0 rfl rfl 0 (by decide) (List.mem_cons_of_mem _ kw_1_161) rfl rfl std_N_follow_114 ?_
          refine g_get C (st_sub sti_T) 6 rfl rfl 9 (by decide) (List.mem_cons_of_mem _ kw_1_54) rfl rfl std_N_follow_117 ?_
          refine g_iconst C std_N_follow_120 ?_
          refine g_iald C 7 0 rfl rfl (by omega) (by omega) (by omega) std_N_follow_121 ?_
          refine g_min C ⟨by omega, by omega⟩ ⟨by omega, by omega⟩ (List.mem_cons_of_mem _ kw_3_15) (List.mem_cons_of_mem _ kw_2_45) (List.mem_cons_of_mem _ kw_1_7) (List.mem_cons_of_mem _ kw_2_46) (Nat.le_of_ble_eq_true rfl) (Nat.le_of_ble_eq_true rfl) (Nat.le_of_ble_eq_true rfl) (Nat.le_of_ble_eq_true rfl) std_N_follow_122 ?_
          refine g_istore C (lv' := [(12, .int (iI (min (((a / 4096) % 64) + (ffu ((sd * 6) + b))) (fmo 0)))), (11, .int (iI (((a / 262144) % 64) + (fsu ((sd * 6) + b))))), (10, .int (iI (((a / 16777216) % 64) + (ffu ((sd * 6) + b))))), (9, .int (iI (fsu ((sd * 6) + b)))), (8, .int (iI (ffu ((sd * 6) + b)))), (7, .int (iI 0)), (6, .int (iI (a % 64))), (5, .int (iI ((sd * 6) + b))), (0, .ref n0), (1, .long (lI a)), (3, .int (iI sd)), (4, .int (iI b))]) std_N_follow_125 (by decide) rfl ?_
          refine g_lload_n C 9 std_N_follow_127 rfl ?_
          refine g_S_i (wc := []) (wr := [(n0, .inr (4, [.ref t0, .int (iI lo), .int (iI wi), .int (iI cu), .int (iI si), .ref v1, .int (iI nx), .ref v2])), (v2, .inl (cJ, aL 360 fn)), (hc, .inl (cI, aI 72 fco)), (hf, .inl (cI, aI 72 ffu)), (hg, .inl (cI, aI 72 fsu)), (hb, .inl (cI, aI 72 fbb)), (t0, .inr (1, [.int (iI steps), .int (iI choices), .int (iI bars), .ref hs, .ref hc, .ref hf, .ref hg, .ref hb, .ref he, .ref hm])), (hm, .inl (cI, aI 2 fmo))]) (rest := []) C (c_highOfSecond l dC dI cI cJ cZ a (by omega)) (st_cS C kw_3_18 kw_3_16 kw_1_5 kw_3_17 sth_N_highOfSecond ⟨Nat.le_of_ble_eq_true rfl, Nat.le_of_ble_eq_true rfl⟩) rfl rfl (Nat.le_of_ble_eq_true rfl) std_N_follow_128 ⟨Nat.le_of_ble_eq_true rfl, Nat.le_of_ble_eq_true rfl⟩ [] [0, 1, 2, 3, 4, 5, 6, 7] rfl rfl rfl rfl (by decide) (fun r46 u47 h48 => ?_)
          subst h48
          refine g_ws (ws' := [(n0, .inr (4, [.ref t0, .int (iI lo), .int (iI wi), .int (iI cu), .int (iI si), .ref v1, .int (iI nx), .ref v2])), (v2, .inl (cJ, aL 360 fn)), (hc, .inl (cI, aI 72 fco)), (hf, .inl (cI, aI 72 ffu)), (hg, .inl (cI, aI 72 fsu)), (hb, .inl (cI, aI 72 fbb)), (t0, .inr (1, [.int (iI steps), .int (iI choices), .int (iI bars), .ref hs, .ref hc, .ref hf, .ref hg, .ref hb, .ref he, .ref hm])), (hm, .inl (cI, aI 2 fmo))]) rfl ?_
          refine g_iload C 3 std_N_follow_131 rfl ?_
          refine g_iadd C std_N_follow_133 ?_
          refine g_aload_n C 8 std_N_follow_134 rfl ?_
          refine g_get C (st_sub sti_N) 0 rfl rfl 0 (by decide) (List.mem_cons_of_mem _ kw_1_161) rfl rfl std_N_follow_135 ?_
          refine g_get C (st_sub sti_T) 6 rfl rfl 9 (by decide) (List.mem_cons_of_mem _ kw_1_54) rfl rfl std_N_follow_138 ?_
          refine g_iconst C std_N_follow_141 ?_
          refine g_iald C 7 0 rfl rfl (by omega) (by omega) (by omega) std_N_follow_142 ?_
          refine g_min C ⟨by omega, by omega⟩ ⟨by omega, by omega⟩ (List.mem_cons_of_mem _ kw_3_15) (List.mem_cons_of_mem _ kw_2_45) (List.mem_cons_of_mem _ kw_1_7) (List.mem_cons_of_mem _ kw_2_46) (Nat.le_of_ble_eq_true rfl) (Nat.le_of_ble_eq_true rfl) (Nat.le_of_ble_eq_true rfl) (Nat.le_of_ble_eq_true rfl) std_N_follow_143 ?_
          refine g_istore C (lv' := [(13, .int (iI (min (((a / 64) % 64) + (fsu ((sd * 6) + b))) (fmo 1)))), (12, .int (iI (min (((a / 4096) % 64) + (ffu ((sd * 6) + b))) (fmo 0)))), (11, .int (iI (((a / 262144) % 64) + (fsu ((sd * 6) + b))))), (10, .int (iI (((a / 16777216) % 64) + (ffu ((sd * 6) + b))))), (9, .int (iI (fsu ((sd * 6) + b)))), (8, .int (iI (ffu ((sd * 6) + b)))), (7, .int (iI 0)), (6, .int (iI (a % 64))), (5, .int (iI ((sd * 6) + b))), (0, .ref n0), (1, .long (lI a)), (3, .int (iI sd)), (4, .int (iI b))]) std_N_follow_146 (by decide) rfl ?_
          refine g_lload_n C 10 std_N_follow_148 rfl ?_
          refine g_S_i (wc := []) (wr := [(n0, .inr (4, [.ref t0, .int (iI lo), .int (iI wi), .int (iI cu), .int (iI si), .ref v1, .int (iI nx), .ref v2])), (v2, .inl (cJ, aL 360 fn)), (hc, .inl (cI, aI 72 fco)), (hf, .inl (cI, aI 72 ffu)), (hg, .inl (cI, aI 72 fsu)), (hb, .inl (cI, aI 72 fbb)), (t0, .inr (1, [.int (iI steps), .int (iI choices), .int (iI bars), .ref hs, .ref hc, .ref hf, .ref hg, .ref hb, .ref he, .ref hm])), (hm, .inl (cI, aI 2 fmo))]) (rest := []) C (c_wcost l dC dI cI cJ cZ a (by omega)) (st_cS C kw_3_21 kw_3_19 kw_1_5 kw_3_20 sth_N_costOf ⟨Nat.le_of_ble_eq_true rfl, Nat.le_of_ble_eq_true rfl⟩) rfl rfl (Nat.le_of_ble_eq_true rfl) std_N_follow_149 ⟨Nat.le_of_ble_eq_true rfl, Nat.le_of_ble_eq_true rfl⟩ [] [0, 1, 2, 3, 4, 5, 6, 7] rfl rfl rfl rfl (by decide) (fun r49 u50 h51 => ?_)
          subst h51
          refine g_ws (ws' := [(n0, .inr (4, [.ref t0, .int (iI lo), .int (iI wi), .int (iI cu), .int (iI si), .ref v1, .int (iI nx), .ref v2])), (v2, .inl (cJ, aL 360 fn)), (hc, .inl (cI, aI 72 fco)), (hf, .inl (cI, aI 72 ffu)), (hg, .inl (cI, aI 72 fsu)), (hb, .inl (cI, aI 72 fbb)), (t0, .inr (1, [.int (iI steps), .int (iI choices), .int (iI bars), .ref hs, .ref hc, .ref hf, .ref hg, .ref hb, .ref he, .ref hm])), (hm, .inl (cI, aI 2 fmo))]) rfl ?_
          refine g_aload_n C 9 std_N_follow_152 rfl ?_
          refine g_get C (st_sub sti_N) 0 rfl rfl 0 (by decide) (List.mem_cons_of_mem _ kw_1_161) rfl rfl std_N_follow_153 ?_
          refine g_get C (st_sub sti_T) 6 rfl rfl 4 (by decide) (List.mem_cons_of_mem _ kw_1_40) rfl rfl std_N_follow_156 ?_
          refine g_iload C 8 std_N_follow_159 rfl ?_
          refine g_iald C 2 0 rfl rfl (by omega) (by omega) (by omega) std_N_follow_161 ?_
          refine g_iadd C std_N_follow_162 ?_
          refine g_istore C (lv' := [(14, .int (iI (((a / 1073741824) - 12000) + (fco ((sd * 6) + b))))), (13, .int (iI (min (((a / 64) % 64) + (fsu ((sd * 6) + b))) (fmo 1)))), (12, .int (iI (min (((a / 4096) % 64) + (ffu ((sd * 6) + b))) (fmo 0)))), (11, .int (iI (((a / 262144) % 64) + (fsu ((sd * 6) + b))))), (10, .int (iI (((a / 16777216) % 64) + (ffu ((sd * 6) + b))))), (9, .int (iI (fsu ((sd * 6) + b)))), (8, .int (iI (ffu ((sd * 6) + b)))), (7, .int (iI 0)), (6, .int (iI (a % 64))), (5, .int (iI ((sd * 6) + b))), (0, .ref n0), (1, .long (lI a)), (3, .int (iI sd)), (4, .int (iI b))]) std_N_follow_163 (by decide) rfl ?_
          refine g_aload_n C 10 std_N_follow_165 rfl ?_
          refine g_get C (st_sub sti_N) 0 rfl rfl 7 (by decide) (List.mem_cons_of_mem _ kw_1_171) rfl rfl std_N_follow_166 ?_
          refine g_aload_n C 10 std_N_follow_169 rfl ?_
          refine g_get C (st_sub sti_N) 0 rfl rfl 6 (by decide) (List.mem_cons_of_mem _ kw_1_170) rfl rfl std_N_follow_170 ?_
          refine g_iload C 0 std_N_follow_173 rfl ?_
          refine g_iload C 4 std_N_follow_175 rfl ?_
          refine g_iload C 3 std_N_follow_177 rfl ?_
          refine g_iload C 2 std_N_follow_179 rfl ?_
          refine g_iload C 1 std_N_follow_181 rfl ?_
          refine g_iconst C std_N_follow_183 ?_
          refine g_iload C 13 std_N_follow_184 rfl ?_
          refine g_ishl C (d := (2 ^ (b).toNat)) std_N_follow_186 (by omega) (by omega) rfl ?_
          refine g_S_l (wc := []) (wr := [(n0, .inr (4, [.ref t0, .int (iI lo), .int (iI wi), .int (iI cu), .int (iI si), .ref v1, .int (iI nx), .ref v2])), (v2, .inl (cJ, aL 360 fn)), (hc, .inl (cI, aI 72 fco)), (hf, .inl (cI, aI 72 ffu)), (hg, .inl (cI, aI 72 fsu)), (hb, .inl (cI, aI 72 fbb)), (t0, .inr (1, [.int (iI steps), .int (iI choices), .int (iI bars), .ref hs, .ref hc, .ref hf, .ref hg, .ref hb, .ref he, .ref hm])), (hm, .inl (cI, aI 2 fmo))]) (rest := [.int (iI nx), .ref v2]) C (c_wideNode l dC dI cI cJ cZ (((a / 1073741824) - 12000) + (fco ((sd * 6) + b))) (((a / 16777216) % 64) + (ffu ((sd * 6) + b))) (((a / 262144) % 64) + (fsu ((sd * 6) + b))) (min (((a / 4096) % 64) + (ffu ((sd * 6) + b))) (fmo 0)) (min (((a / 64) % 64) + (fsu ((sd * 6) + b))) (fmo 1)) (1 * (2 ^ (b).toNat)) (by omega) (by omega) (by omega) (by omega) (by omega) (by omega)) (st_cS C kw_2_232 kw_2_230 kw_1_5 kw_2_231 sth_N_wideNode ⟨Nat.le_of_ble_eq_true rfl, Nat.le_of_ble_eq_true rfl⟩) rfl rfl (Nat.le_of_ble_eq_true rfl) std_N_follow_187 ⟨Nat.le_of_ble_eq_true rfl, Nat.le_of_ble_eq_true rfl⟩ [] [0, 1, 2, 3, 4, 5, 6, 7] rfl rfl rfl rfl (by decide) (fun r52 u53 h54 => ?_)
          subst h54
          refine g_ws (ws' := [(n0, .inr (4, [.ref t0, .int (iI lo), .int (iI wi), .int (iI cu), .int (iI si), .ref v1, .int (iI nx), .ref v2])), (v2, .inl (cJ, aL 360 fn)), (hc, .inl (cI, aI 72 fco)), (hf, .inl (cI, aI 72 ffu)), (hg, .inl (cI, aI 72 fsu)), (hb, .inl (cI, aI 72 fbb)), (t0, .inr (1, [.int (iI steps), .int (iI choices), .int (iI bars), .ref hs, .ref hc, .ref hf, .ref hg, .ref hb, .ref he, .ref hm])), (hm, .inl (cI, aI 2 fmo))]) rfl ?_
          refine g_last C (ws' := [(n0, .inr (4, [.ref t0, .int (iI lo), .int (iI wi), .int (iI cu), .int (iI si), .ref v1, .int (iI nx), .ref v2])), (v2, .inl (cJ, aL 360 (uZ fn nx ((((((a / 1073741824) - 12000) + (fco ((sd * 6) + b))) + 12000) * 1073741824) + (((((((((((a / 16777216) % 64) + (ffu ((sd * 6) + b))) * 64) + (((a / 262144) % 64) + (fsu ((sd * 6) + b)))) * 64) + (min (((a / 4096) % 64) + (ffu ((sd * 6) + b))) (fmo 0))) * 64) + (min (((a / 64) % 64) + (fsu ((sd * 6) + b))) (fmo 1))) * 64) + (1 * (2 ^ (b).toNat))))))), (hc, .inl (cI, aI 72 fco)), (hf, .inl (cI, aI 72 ffu)), (hg, .inl (cI, aI 72 fsu)), (hb, .inl (cI, aI 72 fbb)), (t0, .inr (1, [.int (iI steps), .int (iI choices), .int (iI bars), .ref hs, .ref hc, .ref hf, .ref hg, .ref hb, .ref he, .ref hm])), (hm, .inl (cI, aI 2 fmo))]) 1 1 rfl rfl (by omega) (by omega) (by omega) std_N_follow_190 rfl ?_
          refine g_aload_n C 10 std_N_follow_191 rfl ?_
          refine g_dup C std_N_follow_192 rfl ?_
          refine g_get C (st_sub sti_N) 0 rfl rfl 6 (by decide) (List.mem_cons_of_mem _ kw_1_170) rfl rfl std_N_follow_193 ?_
          refine g_iconst C std_N_follow_196 ?_
          refine g_iadd C std_N_follow_197 ?_
          refine g_put C (ws' := [(n0, .inr (4, [.ref t0, .int (iI lo), .int (iI wi), .int (iI cu), .int (iI si), .ref v1, .int (iI (nx + 1)), .ref v2])), (v2, .inl (cJ, aL 360 (uZ fn nx ((((((a / 1073741824) - 12000) + (fco ((sd * 6) + b))) + 12000) * 1073741824) + (((((((((((a / 16777216) % 64) + (ffu ((sd * 6) + b))) * 64) + (((a / 262144) % 64) + (fsu ((sd * 6) + b)))) * 64) + (min (((a / 4096) % 64) + (ffu ((sd * 6) + b))) (fmo 0))) * 64) + (min (((a / 64) % 64) + (fsu ((sd * 6) + b))) (fmo 1))) * 64) + (1 * (2 ^ (b).toNat))))))), (hc, .inl (cI, aI 72 fco)), (hf, .inl (cI, aI 72 ffu)), (hg, .inl (cI, aI 72 fsu)), (hb, .inl (cI, aI 72 fbb)), (t0, .inr (1, [.int (iI steps), .int (iI choices), .int (iI bars), .ref hs, .ref hc, .ref hf, .ref hg, .ref hb, .ref he, .ref hm])), (hm, .inl (cI, aI 2 fmo))]) (st_sub sti_N) stt_N sto_N stn_N 0 rfl rfl 6 (by decide) (List.mem_cons_of_mem _ kw_1_170) rfl rfl rfl rfl (Nat.le_of_ble_eq_true rfl) std_N_follow_198 rfl ?_
          refine g_sub (ws' := [(n0, .inr (4, [.ref t0, .int (iI lo), .int (iI wi), .int (iI cu), .int (iI si), .ref v1, .int (iI (nx + 1)), .ref v2])), (v2, .inl (cJ, aL 360 (uZ fn nx ((((((a / 1073741824) - 12000) + (fco ((sd * 6) + b))) + 12000) * 1073741824) + (((((((((((a / 16777216) % 64) + (ffu ((sd * 6) + b))) * 64) + (((a / 262144) % 64) + (fsu ((sd * 6) + b)))) * 64) + (min (((a / 4096) % 64) + (ffu ((sd * 6) + b))) (fmo 0))) * 64) + (min (((a / 64) % 64) + (fsu ((sd * 6) + b))) (fmo 1))) * 64) + (1 * (2 ^ (b).toNat))))))), (t0, .inr (1, [.int (iI steps), .int (iI choices), .int (iI bars), .ref hs, .ref hc, .ref hf, .ref hg, .ref hb, .ref he, .ref hm])), (hc, .inl (cI, aI 72 fco)), (hf, .inl (cI, aI 72 ffu)), (hg, .inl (cI, aI 72 fsu)), (hb, .inl (cI, aI 72 fbb)), (hm, .inl (cI, aI 2 fmo))]) [0, 1, 6, 2, 3, 4, 5, 7] rfl rfl ?_
          refine g_wide (k := 0) (n := 0) (Nat.le_of_ble_eq_true rfl) (Nat.le_of_ble_eq_true rfl) ?_
          exact hret _ _ ((uZ fn nx ((((((a / 1073741824) - 12000) + (fco ((sd * 6) + b))) + 12000) * 1073741824) + (((((((((((a / 16777216) % 64) + (ffu ((sd * 6) + b))) * 64) + (((a / 262144) % 64) + (fsu ((sd * 6) + b)))) * 64) + (min (((a / 4096) % 64) + (ffu ((sd * 6) + b))) (fmo 0))) * 64) + (min (((a / 64) % 64) + (fsu ((sd * 6) + b))) (fmo 1))) * 64) + (1 * (2 ^ (b).toNat))))), (nx + 1)) (⟨fun _ => ⟨rfl, by dsimp only; rw [Int.one_mul]; rfl⟩, fun h => absurd hwo h⟩) std_N_follow_201
        · refine g_sub (ws' := [(n0, .inr (4, [.ref t0, .int (iI lo), .int (iI wi), .int (iI cu), .int (iI si), .ref v1, .int (iI nx), .ref v2])), (v2, .inl (cJ, aL 360 fn)), (t0, .inr (1, [.int (iI steps), .int (iI choices), .int (iI bars), .ref hs, .ref hc, .ref hf, .ref hg, .ref hb, .ref he, .ref hm])), (hc, .inl (cI, aI 72 fco)), (hf, .inl (cI, aI 72 ffu)), (hg, .inl (cI, aI 72 fsu)), (hb, .inl (cI, aI 72 fbb)), (hm, .inl (cI, aI 2 fmo))]) [0, 1, 6, 2, 3, 4, 5, 7] rfl rfl ?_
          refine g_wide (k := 0) (n := 0) (Nat.le_of_ble_eq_true rfl) (Nat.le_of_ble_eq_true rfl) ?_
          exact hret _ _ (fn, nx) (⟨fun h => absurd h.2 c42, fun _ => ⟨rfl, rfl⟩⟩) std_N_follow_105
    · refine g_iconst C std_N_follow_37 ?_
      refine g_goto (tgt := 42) C std_N_follow_38 (by decide) ?_
      refine g_istore C (lv' := [(7, .int (iI 1)), (6, .int (iI (a % 64))), (5, .int (iI ((sd * 6) + b))), (0, .ref n0), (1, .long (lI a)), (3, .int (iI sd)), (4, .int (iI b))]) std_N_follow_42 (by decide) rfl ?_
      refine g_aload_n C 3 std_N_follow_44 rfl ?_
      refine g_get C (st_sub sti_N) 0 rfl rfl 0 (by decide) (List.mem_cons_of_mem _ kw_1_161) rfl rfl std_N_follow_45 ?_
      refine g_get C (st_sub sti_T) 2 rfl rfl 5 (by decide) (List.mem_cons_of_mem _ kw_1_44) rfl rfl std_N_follow_48 ?_
      refine g_iload C 2 std_N_follow_51 rfl ?_
      refine g_iald C 4 0 rfl rfl (by omega) (by omega) (by omega) std_N_follow_53 ?_
      refine g_istore C (lv' := [(8, .int (iI (ffu ((sd * 6) + b)))), (7, .int (iI 1)), (6, .int (iI (a % 64))), (5, .int (iI ((sd * 6) + b))), (0, .ref n0), (1, .long (lI a)), (3, .int (iI sd)), (4, .int (iI b))]) std_N_follow_54 (by decide) rfl ?_
      refine g_aload_n C 4 std_N_follow_56 rfl ?_
      refine g_get C (st_sub sti_N) 0 rfl rfl 0 (by decide) (List.mem_cons_of_mem _ kw_1_161) rfl rfl std_N_follow_57 ?_
      refine g_get C (st_sub sti_T) 2 rfl rfl 6 (by decide) (List.mem_cons_of_mem _ kw_1_47) rfl rfl std_N_follow_60 ?_
      refine g_iload C 3 std_N_follow_63 rfl ?_
      refine g_iald C 5 0 rfl rfl (by omega) (by omega) (by omega) std_N_follow_65 ?_
      refine g_istore C (lv' := [(9, .int (iI (fsu ((sd * 6) + b)))), (8, .int (iI (ffu ((sd * 6) + b)))), (7, .int (iI 1)), (6, .int (iI (a % 64))), (5, .int (iI ((sd * 6) + b))), (0, .ref n0), (1, .long (lI a)), (3, .int (iI sd)), (4, .int (iI b))]) std_N_follow_66 (by decide) rfl ?_
      refine g_lload_n C 6 std_N_follow_68 rfl ?_
      refine g_S_i (wc := []) (wr := [(n0, .inr (4, [.ref t0, .int (iI lo), .int (iI wi), .int (iI cu), .int (iI si), .ref v1, .int (iI nx), .ref v2])), (v2, .inl (cJ, aL 360 fn)), (t0, .inr (1, [.int (iI steps), .int (iI choices), .int (iI bars), .ref hs, .ref hc, .ref hf, .ref hg, .ref hb, .ref he, .ref hm])), (hc, .inl (cI, aI 72 fco)), (hf, .inl (cI, aI 72 ffu)), (hg, .inl (cI, aI 72 fsu)), (hb, .inl (cI, aI 72 fbb)), (hm, .inl (cI, aI 2 fmo))]) (rest := []) C (c_lowOfFirst l dC dI cI cJ cZ a (by omega)) (st_cS C kw_3_7 kw_3_5 kw_1_5 kw_3_6 sth_N_lowOfFirst ⟨Nat.le_of_ble_eq_true rfl, Nat.le_of_ble_eq_true rfl⟩) rfl rfl (Nat.le_of_ble_eq_true rfl) std_N_follow_69 ⟨Nat.le_of_ble_eq_true rfl, Nat.le_of_ble_eq_true rfl⟩ [] [0, 1, 2, 3, 4, 5, 6, 7] rfl rfl rfl rfl (by decide) (fun r55 u56 h57 => ?_)
      subst h57
      refine g_ws (ws' := [(n0, .inr (4, [.ref t0, .int (iI lo), .int (iI wi), .int (iI cu), .int (iI si), .ref v1, .int (iI nx), .ref v2])), (v2, .inl (cJ, aL 360 fn)), (t0, .inr (1, [.int (iI steps), .int (iI choices), .int (iI bars), .ref hs, .ref hc, .ref hf, .ref hg, .ref hb, .ref he, .ref hm])), (hc, .inl (cI, aI 72 fco)), (hf, .inl (cI, aI 72 ffu)), (hg, .inl (cI, aI 72 fsu)), (hb, .inl (cI, aI 72 fbb)), (hm, .inl (cI, aI 2 fmo))]) rfl ?_
      refine g_iload C 1 std_N_follow_72 rfl ?_
      refine g_iadd C std_N_follow_74 ?_
      refine g_istore C (lv' := [(10, .int (iI (((a / 16777216) % 64) + (ffu ((sd * 6) + b))))), (9, .int (iI (fsu ((sd * 6) + b)))), (8, .int (iI (ffu ((sd * 6) + b)))), (7, .int (iI 1)), (6, .int (iI (a % 64))), (5, .int (iI ((sd * 6) + b))), (0, .ref n0), (1, .long (lI a)), (3, .int (iI sd)), (4, .int (iI b))]) std_N_follow_75 (by decide) rfl ?_
      refine g_lload_n C 7 std_N_follow_77 rfl ?_
      refine g_S_i (wc := []) (wr := [(n0, .inr (4, [.ref t0, .int (iI lo), .int (iI wi), .int (iI cu), .int (iI si), .ref v1, .int (iI nx), .ref v2])), (v2, .inl (cJ, aL 360 fn)), (t0, .inr (1, [.int (iI steps), .int (iI choices), .int (iI bars), .ref hs, .ref hc, .ref hf, .ref hg, .ref hb, .ref he, .ref hm])), (hc, .inl (cI, aI 72 fco)), (hf, .inl (cI, aI 72 ffu)), (hg, .inl (cI, aI 72 fsu)), (hb, .inl (cI, aI 72 fbb)), (hm, .inl (cI, aI 2 fmo))]) (rest := []) C (c_lowOfSecond l dC dI cI cJ cZ a (by omega)) (st_cS C kw_3_10 kw_3_8 kw_1_5 kw_3_9 sth_N_lowOfSecond ⟨Nat.le_of_ble_eq_true rfl, Nat.le_of_ble_eq_true rfl⟩) rfl rfl (Nat.le_of_ble_eq_true rfl) std_N_follow_78 ⟨Nat.le_of_ble_eq_true rfl, Nat.le_of_ble_eq_true rfl⟩ [] [0, 1, 2, 3, 4, 5, 6, 7] rfl rfl rfl rfl (by decide) (fun r58 u59 h60 => ?_)
      subst h60
      refine g_ws (ws' := [(n0, .inr (4, [.ref t0, .int (iI lo), .int (iI wi), .int (iI cu), .int (iI si), .ref v1, .int (iI nx), .ref v2])), (v2, .inl (cJ, aL 360 fn)), (t0, .inr (1, [.int (iI steps), .int (iI choices), .int (iI bars), .ref hs, .ref hc, .ref hf, .ref hg, .ref hb, .ref he, .ref hm])), (hc, .inl (cI, aI 72 fco)), (hf, .inl (cI, aI 72 ffu)), (hg, .inl (cI, aI 72 fsu)), (hb, .inl (cI, aI 72 fbb)), (hm, .inl (cI, aI 2 fmo))]) rfl ?_
      refine g_iload C 1 std_N_follow_81 rfl ?_
      refine g_iadd C std_N_follow_83 ?_
      refine g_istore C (lv' := [(11, .int (iI (((a / 262144) % 64) + (fsu ((sd * 6) + b))))), (10, .int (iI (((a / 16777216) % 64) + (ffu ((sd * 6) + b))))), (9, .int (iI (fsu ((sd * 6) + b)))), (8, .int (iI (ffu ((sd * 6) + b)))), (7, .int (iI 1)), (6, .int (iI (a % 64))), (5, .int (iI ((sd * 6) + b))), (0, .ref n0), (1, .long (lI a)), (3, .int (iI sd)), (4, .int (iI b))]) std_N_follow_84 (by decide) rfl ?_
      refine g_iload C 4 std_N_follow_86 rfl ?_
      refine g_if_ne (tgt := 105) C std_N_follow_88 (by decide) (by decide) (fun c61 => ?_) (fun c61 => ?_)
      · refine g_wide (k := 0) (n := 0) (Nat.le_of_ble_eq_true rfl) (Nat.le_of_ble_eq_true rfl) ?_
        exact hret _ _ (fn, nx) (⟨fun h => absurd ⟨by omega, (andn_0 (by omega) (by omega) (by omega) (by omega)).mp (by omega)⟩ h.1, fun _ => ⟨rfl, rfl⟩⟩) std_N_follow_105
      · exfalso; omega

abbrev sty_N_uniteAlike : MethodName := ⟨"StateTables$NarrowLayers", "uniteAlike", "()V"⟩
abbrev stc_N_uniteAlike : ByteArray := prog_4_method_12_code
theorem sth_N_uniteAlike : (sty_N_uniteAlike).cls ≠ "java/lang/invoke/MethodHandle" ∧ (sty_N_uniteAlike).cls ≠ "java/lang/invoke/VarHandle" ∧ (parseMethodDescriptor (sty_N_uniteAlike).desc).map (fun d => d.parameters.length) = some 0 := by decide +kernel
theorem std_N_uniteAlike_0 : decode stc_N_uniteAlike 0 = .ok (.iconst 0, 1) := by decide +kernel
theorem std_N_uniteAlike_1 : decode stc_N_uniteAlike 1 = .ok (.istore_n 1, 1) := by decide +kernel
theorem std_N_uniteAlike_2 : decode stc_N_uniteAlike 2 = .ok (.iload_n 1, 1) := by decide +kernel
theorem std_N_uniteAlike_3 : decode stc_N_uniteAlike 3 = .ok (.aload_n 0, 1) := by decide +kernel
theorem std_N_uniteAlike_4 : decode stc_N_uniteAlike 4 = .ok (.getfield 62, 3) := by decide +kernel
theorem std_N_uniteAlike_7 : decode stc_N_uniteAlike 7 = .ok (.if_icmp .ge 35, 3) := by decide +kernel
theorem std_N_uniteAlike_42 : decode stc_N_uniteAlike 42 = .ok (.aload_n 0, 1) := by decide +kernel
theorem std_N_uniteAlike_43 : decode stc_N_uniteAlike 43 = .ok (.getfield 15, 3) := by decide +kernel
theorem std_N_uniteAlike_46 : decode stc_N_uniteAlike 46 = .ok (.aload_n 0, 1) := by decide +kernel
theorem std_N_uniteAlike_47 : decode stc_N_uniteAlike 47 = .ok (.getfield 11, 3) := by decide +kernel
theorem kw_1_169 : Cond.fieldLink "StateTables$NarrowLayers" 11 "StateTables$NarrowLayers" "nodes" "[J" ∈ stGW := st_t1 (List.mem_of_getElem? (i := 169) (by decide +kernel)) (by decide +kernel)
theorem std_N_uniteAlike_50 : decode stc_N_uniteAlike 50 = .ok (.aload_n 0, 1) := by decide +kernel
theorem std_N_uniteAlike_51 : decode stc_N_uniteAlike 51 = .ok (.getfield 62, 3) := by decide +kernel
theorem std_N_uniteAlike_54 : decode stc_N_uniteAlike 54 = .ok (.invokestatic 76, 3) := by decide +kernel
theorem kw_3_29 : Cond.code sty_N_sort stc_N_sort 6 none ∈ stGW := st_t3 (List.mem_of_getElem? (i := 29) (by decide +kernel)) (by decide +kernel)
theorem kw_3_27 : Cond.methodLink "StateTables$NarrowLayers" 76 (sty_N_sort) ∈ stGW := st_t3 (List.mem_of_getElem? (i := 27) (by decide +kernel)) (by decide +kernel)
theorem kw_3_28 : Cond.static (sty_N_sort) ∈ stGW := st_t3 (List.mem_of_getElem? (i := 28) (by decide +kernel)) (by decide +kernel)
theorem std_N_uniteAlike_57 : decode stc_N_uniteAlike 57 = .ok (.iconst 0, 1) := by decide +kernel
theorem std_N_uniteAlike_58 : decode stc_N_uniteAlike 58 = .ok (.istore_n 1, 1) := by decide +kernel
theorem std_N_uniteAlike_59 : decode stc_N_uniteAlike 59 = .ok (.ldc2_w 126, 3) := by decide +kernel
theorem kw_3_34 : Cond.constantLong "StateTables$NarrowLayers" 126 (-1) ∈ stGW := st_t3 (List.mem_of_getElem? (i := 34) (by decide +kernel)) (by decide +kernel)
theorem std_N_uniteAlike_62 : decode stc_N_uniteAlike 62 = .ok (.lstore_n 2, 1) := by decide +kernel
theorem std_N_uniteAlike_63 : decode stc_N_uniteAlike 63 = .ok (.iconst 0, 1) := by decide +kernel
theorem std_N_uniteAlike_64 : decode stc_N_uniteAlike 64 = .ok (.istore 4, 2) := by decide +kernel
theorem std_N_uniteAlike_66 : decode stc_N_uniteAlike 66 = .ok (.iload 4, 2) := by decide +kernel
theorem std_N_uniteAlike_68 : decode stc_N_uniteAlike 68 = .ok (.aload_n 0, 1) := by decide +kernel
theorem std_N_uniteAlike_69 : decode stc_N_uniteAlike 69 = .ok (.getfield 62, 3) := by decide +kernel
theorem std_N_uniteAlike_72 : decode stc_N_uniteAlike 72 = .ok (.if_icmp .ge 57, 3) := by decide +kernel
theorem std_N_uniteAlike_129 : decode stc_N_uniteAlike 129 = .ok (.aload_n 0, 1) := by decide +kernel
theorem std_N_uniteAlike_130 : decode stc_N_uniteAlike 130 = .ok (.iload_n 1, 1) := by decide +kernel
theorem std_N_uniteAlike_131 : decode stc_N_uniteAlike 131 = .ok (.putfield 62, 3) := by decide +kernel
theorem std_N_uniteAlike_134 : decode stc_N_uniteAlike 134 = .ok (.return_, 1) := by decide +kernel
theorem std_N_uniteAlike_75 : decode stc_N_uniteAlike 75 = .ok (.aload_n 0, 1) := by decide +kernel
theorem std_N_uniteAlike_76 : decode stc_N_uniteAlike 76 = .ok (.getfield 15, 3) := by decide +kernel
theorem std_N_uniteAlike_79 : decode stc_N_uniteAlike 79 = .ok (.iload 4, 2) := by decide +kernel
theorem std_N_uniteAlike_81 : decode stc_N_uniteAlike 81 = .ok (.laload, 1) := by decide +kernel
theorem std_N_uniteAlike_82 : decode stc_N_uniteAlike 82 = .ok (.bipush 15, 2) := by decide +kernel
theorem std_N_uniteAlike_84 : decode stc_N_uniteAlike 84 = .ok (.lshr, 1) := by decide +kernel
theorem std_N_uniteAlike_85 : decode stc_N_uniteAlike 85 = .ok (.lstore 5, 2) := by decide +kernel
theorem std_N_uniteAlike_87 : decode stc_N_uniteAlike 87 = .ok (.lload 5, 2) := by decide +kernel
theorem std_N_uniteAlike_89 : decode stc_N_uniteAlike 89 = .ok (.lload_n 2, 1) := by decide +kernel
theorem std_N_uniteAlike_90 : decode stc_N_uniteAlike 90 = .ok (.lcmp, 1) := by decide +kernel
theorem std_N_uniteAlike_91 : decode stc_N_uniteAlike 91 = .ok (.ifCond .eq 29, 3) := by decide +kernel
theorem std_N_uniteAlike_120 : decode stc_N_uniteAlike 120 = .ok (.lload 5, 2) := by decide +kernel
theorem std_N_uniteAlike_122 : decode stc_N_uniteAlike 122 = .ok (.lstore_n 2, 1) := by decide +kernel
theorem std_N_uniteAlike_123 : decode stc_N_uniteAlike 123 = .ok (.iinc 4 1, 3) := by decide +kernel
theorem std_N_uniteAlike_126 : decode stc_N_uniteAlike 126 = .ok (.goto (-60), 3) := by decide +kernel
theorem std_N_uniteAlike_94 : decode stc_N_uniteAlike 94 = .ok (.aload_n 0, 1) := by decide +kernel
theorem std_N_uniteAlike_95 : decode stc_N_uniteAlike 95 = .ok (.getfield 15, 3) := by decide +kernel
theorem std_N_uniteAlike_98 : decode stc_N_uniteAlike 98 = .ok (.iload_n 1, 1) := by decide +kernel
theorem std_N_uniteAlike_99 : decode stc_N_uniteAlike 99 = .ok (.aload_n 0, 1) := by decide +kernel
theorem std_N_uniteAlike_100 : decode stc_N_uniteAlike 100 = .ok (.getfield 15, 3) := by decide +kernel
theorem std_N_uniteAlike_103 : decode stc_N_uniteAlike 103 = .ok (.iload 4, 2) := by decide +kernel
theorem std_N_uniteAlike_105 : decode stc_N_uniteAlike 105 = .ok (.laload, 1) := by decide +kernel
theorem std_N_uniteAlike_106 : decode stc_N_uniteAlike 106 = .ok (.ldc2_w 128, 3) := by decide +kernel
theorem kw_3_35 : Cond.constantLong "StateTables$NarrowLayers" 128 32767 ∈ stGW := st_t3 (List.mem_of_getElem? (i := 35) (by decide +kernel)) (by decide +kernel)
theorem std_N_uniteAlike_109 : decode stc_N_uniteAlike 109 = .ok (.land, 1) := by decide +kernel
theorem std_N_uniteAlike_110 : decode stc_N_uniteAlike 110 = .ok (.bipush 30, 2) := by decide +kernel
theorem std_N_uniteAlike_112 : decode stc_N_uniteAlike 112 = .ok (.lshl, 1) := by decide +kernel
theorem std_N_uniteAlike_113 : decode stc_N_uniteAlike 113 = .ok (.lload 5, 2) := by decide +kernel
theorem std_N_uniteAlike_115 : decode stc_N_uniteAlike 115 = .ok (.lor, 1) := by decide +kernel
theorem std_N_uniteAlike_116 : decode stc_N_uniteAlike 116 = .ok (.lastore, 1) := by decide +kernel
theorem std_N_uniteAlike_117 : decode stc_N_uniteAlike 117 = .ok (.iinc 1 1, 3) := by decide +kernel
theorem std_N_uniteAlike_10 : decode stc_N_uniteAlike 10 = .ok (.aload_n 0, 1) := by decide +kernel
theorem std_N_uniteAlike_11 : decode stc_N_uniteAlike 11 = .ok (.getfield 15, 3) := by decide +kernel
theorem std_N_uniteAlike_14 : decode stc_N_uniteAlike 14 = .ok (.iload_n 1, 1) := by decide +kernel
theorem std_N_uniteAlike_15 : decode stc_N_uniteAlike 15 = .ok (.laload, 1) := by decide +kernel
theorem std_N_uniteAlike_16 : decode stc_N_uniteAlike 16 = .ok (.lstore_n 2, 1) := by decide +kernel
theorem std_N_uniteAlike_17 : decode stc_N_uniteAlike 17 = .ok (.aload_n 0, 1) := by decide +kernel
theorem std_N_uniteAlike_18 : decode stc_N_uniteAlike 18 = .ok (.getfield 15, 3) := by decide +kernel
theorem std_N_uniteAlike_21 : decode stc_N_uniteAlike 21 = .ok (.iload_n 1, 1) := by decide +kernel
theorem std_N_uniteAlike_22 : decode stc_N_uniteAlike 22 = .ok (.lload_n 2, 1) := by decide +kernel
theorem std_N_uniteAlike_23 : decode stc_N_uniteAlike 23 = .ok (.ldc2_w 124, 3) := by decide +kernel
theorem kw_3_26 : Cond.constantLong "StateTables$NarrowLayers" 124 1073741823 ∈ stGW := st_t3 (List.mem_of_getElem? (i := 26) (by decide +kernel)) (by decide +kernel)
theorem std_N_uniteAlike_26 : decode stc_N_uniteAlike 26 = .ok (.land, 1) := by decide +kernel
theorem std_N_uniteAlike_27 : decode stc_N_uniteAlike 27 = .ok (.bipush 15, 2) := by decide +kernel
theorem std_N_uniteAlike_29 : decode stc_N_uniteAlike 29 = .ok (.lshl, 1) := by decide +kernel
theorem std_N_uniteAlike_30 : decode stc_N_uniteAlike 30 = .ok (.lload_n 2, 1) := by decide +kernel
theorem std_N_uniteAlike_31 : decode stc_N_uniteAlike 31 = .ok (.bipush 30, 2) := by decide +kernel
theorem std_N_uniteAlike_33 : decode stc_N_uniteAlike 33 = .ok (.lshr, 1) := by decide +kernel
theorem std_N_uniteAlike_34 : decode stc_N_uniteAlike 34 = .ok (.lor, 1) := by decide +kernel
theorem std_N_uniteAlike_35 : decode stc_N_uniteAlike 35 = .ok (.lastore, 1) := by decide +kernel
theorem std_N_uniteAlike_36 : decode stc_N_uniteAlike 36 = .ok (.iinc 1 1, 3) := by decide +kernel
theorem std_N_uniteAlike_39 : decode stc_N_uniteAlike 39 = .ok (.goto (-37), 3) := by decide +kernel
set_option maxHeartbeats 4000000 in
set_option maxRecDepth 100000 in
theorem c_uniteAlike (l : Launch) (dC : Nat → ClassId) (dI : Nat → Nat → Nat) (cI cJ cZ : ClassId) (n0 : Nat) (v1 : Nat) (v2 : Nat) (lo : Int) (wi : Int) (cu : Int) (si : Int) (nx : Int) (t0 : Nat) (fm : Int → Int) (fn : Int → Int) (kn : 0 ≤ nx ∧ nx ≤ 360) (kf : ∀ i, 0 ≤ i → i < nx → 0 ≤ fn i ∧ fn i < 35184372088832) : ∀ sz, Met l sty_N_uniteAlike (Cond.code sty_N_uniteAlike stc_N_uniteAlike 7 none :: stGW) ({ frames := 2, cells := 0, slots := 0, locals := 65 } : Room) (va_Pc [.ref n0] (zPre (dC, dI) stCl [(cI, .int), (cJ, .long), (cZ, .boolean)] st_nw [(n0, .inr (4, [.ref t0, .int (iI lo), .int (iI wi), .int (iI cu), .int (iI si), .ref v1, .int (iI nx), .ref v2])), (v1, .inl (cJ, aL 360 fm)), (v2, .inl (cJ, aL 360 fn))] sz)) (va_Qv (fun (u : (Int → Int) × (Int → Int) × Int) => UA fn nx u.2.2 u.2.1) (zPost (dC, dI) stCl [(cI, .int), (cJ, .long), (cZ, .boolean)] [(n0, .inr (4, [.ref t0, .int (iI lo), .int (iI wi), .int (iI cu), .int (iI si), .ref v1, .int (iI nx), .ref v2])), (v1, .inl (cJ, aL 360 fm)), (v2, .inl (cJ, aL 360 fn))] sz (fun u : (Int → Int) × (Int → Int) × Int => [(n0, .inr (4, [.ref t0, .int (iI lo), .int (iI wi), .int (iI cu), .int (iI si), .ref v1, .int (iI (u.2.2)), .ref v2])), (v1, .inl (cJ, aL 360 (u.1))), (v2, .inl (cJ, aL 360 (u.2.1)))])) (va_A [(n0, .inr (4, [.ref t0, .int (iI lo), .int (iI wi), .int (iI cu), .int (iI si), .ref v1, .int (iI nx), .ref v2])), (v1, .inl (cJ, aL 360 fm)), (v2, .inl (cJ, aL 360 fn))] sz)) 0 0 (va_A [(n0, .inr (4, [.ref t0, .int (iI lo), .int (iI wi), .int (iI cu), .int (iI si), .ref v1, .int (iI nx), .ref v2])), (v1, .inl (cJ, aL 360 fm)), (v2, .inl (cJ, aL 360 fn))] sz) := by
  refine met_v (by decide) rfl (Nat.le_of_ble_eq_true rfl) ?_
  intro p e s m below meth c A Q C hmn hret
  refine g_iconst C std_N_uniteAlike_0 ?_
  refine g_istore_n C (lv' := [(1, .int (iI 0)), (0, .ref n0)]) std_N_uniteAlike_1 (by decide) rfl ?_
  have L2 : ∀ (nn2 : Nat) (x : Int) (VV : Int → Int), (0 ≤ x ∧ x ≤ nx) → (∀ i, 0 ≤ i → i < x → VV i = sw (fn i)) → (∀ i, x ≤ i → VV i = fn i) → (nx - x) < (nn2 : Int) → G p l e ({ frames := 2, cells := 0, slots := 0, locals := 65 } : Room) s m ([.ref n0] : List Value).toArray below meth c (dC, dI) stCl 7 A 0 0 Q [(n0, .inr (4, [.ref t0, .int (iI lo), .int (iI wi), .int (iI cu), .int (iI si), .ref v1, .int (iI nx), .ref v2])), (v1, .inl (cJ, aL 360 fm)), (v2, .inl (cJ, aL 360 VV))] 2 [(1, .int (iI x)), (0, .ref n0)] [] := by
    intro nn2
    induction nn2 with
    | zero =>
      intro x VV kx kV kW hnn2
      exact absurd hnn2 (by omega)
    | succ nn2 ih2 =>
      intro x VV kx kV kW hnn2
      refine g_iload_n C 0 std_N_uniteAlike_2 rfl ?_
      refine g_aload_n C 1 std_N_uniteAlike_3 rfl ?_
      refine g_get C (st_sub sti_N) 0 rfl rfl 6 (by decide) (List.mem_cons_of_mem _ kw_1_170) rfl rfl std_N_uniteAlike_4 ?_
      refine g_icmp_ge (tgt := 42) C std_N_uniteAlike_7 (by decide) ⟨by omega, by omega⟩ ⟨by omega, by omega⟩ (fun c1 => ?_) (fun c1 => ?_)
      · refine g_aload_n C 1 std_N_uniteAlike_42 rfl ?_
        refine g_get C (st_sub sti_N) 0 rfl rfl 7 (by decide) (List.mem_cons_of_mem _ kw_1_171) rfl rfl std_N_uniteAlike_43 ?_
        refine g_aload_n C 1 std_N_uniteAlike_46 rfl ?_
        refine g_get C (st_sub sti_N) 0 rfl rfl 5 (by decide) (List.mem_cons_of_mem _ kw_1_169) rfl rfl std_N_uniteAlike_47 ?_
        refine g_aload_n C 1 std_N_uniteAlike_50 rfl ?_
        refine g_get C (st_sub sti_N) 0 rfl rfl 6 (by decide) (List.mem_cons_of_mem _ kw_1_170) rfl rfl std_N_uniteAlike_51 ?_
        refine g_S_v (wc := [(v2, .inl (cJ, aL 360 VV)), (v1, .inl (cJ, aL 360 fm))]) (wr := [(n0, .inr (4, [.ref t0, .int (iI lo), .int (iI wi), .int (iI cu), .int (iI si), .ref v1, .int (iI nx), .ref v2]))]) (rest := []) C (c_sort l dC dI cI cJ cZ v2 v1 VV fm nx (by omega) (fun i h1 h2 => by have := kV i h1 (by omega); have := (sw_b (kf i h1 h2)).1; unfold rL; omega)) (st_cS C kw_3_29 kw_3_27 kw_1_5 kw_3_28 sth_N_sort ⟨Nat.le_of_ble_eq_true rfl, Nat.le_of_ble_eq_true rfl⟩) rfl rfl (Nat.le_of_ble_eq_true rfl) std_N_uniteAlike_54 ⟨Nat.le_of_ble_eq_true rfl, Nat.le_of_ble_eq_true rfl⟩ [2, 1] [0] rfl rfl rfl rfl (by decide) (fun u3 h4 => ?_)
        obtain ⟨SA5, SB6⟩ := u3
        dsimp only at h4
        refine g_ws (ws' := [(n0, .inr (4, [.ref t0, .int (iI lo), .int (iI wi), .int (iI cu), .int (iI si), .ref v1, .int (iI nx), .ref v2])), (v2, .inl (cJ, aL 360 SA5)), (v1, .inl (cJ, aL 360 SB6))]) rfl ?_
        have hS := h4
        have kV2 : ∀ i, 0 ≤ i → i < nx → VV i = sw (fn i) := fun i h1 h2 => kV i h1 (by omega)
        have hSB := so_b hS (by omega) (fun i h1 h2 => by rw [kV2 i h1 h2]; exact (sw_b (kf i h1 h2)).1)
        refine g_iconst C std_N_uniteAlike_57 ?_
        refine g_istore_n C (lv' := [(1, .int (iI 0)), (0, .ref n0)]) std_N_uniteAlike_58 (by decide) rfl ?_
        refine g_ldc2 C (z := (-1)) (List.mem_cons_of_mem _ kw_3_34) (by decide) std_N_uniteAlike_59 ?_
        refine g_lstore_n C (lv' := [(2, .long (lI (-1))), (1, .int (iI 0)), (0, .ref n0)]) std_N_uniteAlike_62 (by decide) rfl ?_
        refine g_iconst C std_N_uniteAlike_63 ?_
        refine g_istore C (lv' := [(4, .int (iI 0)), (2, .long (lI (-1))), (1, .int (iI 0)), (0, .ref n0)]) std_N_uniteAlike_64 (by decide) rfl ?_
        have L66 : ∀ (nn66 : Nat) (y : Int) (z : Int) (k : Int) (TT : Int → Int), (0 ≤ y ∧ y ≤ nx) → U2 SA5 y k TT z → (nx - y) < (nn66 : Int) → G p l e ({ frames := 2, cells := 0, slots := 0, locals := 65 } : Room) s m ([.ref n0] : List Value).toArray below meth c (dC, dI) stCl 7 A 0 0 Q [(n0, .inr (4, [.ref t0, .int (iI lo), .int (iI wi), .int (iI cu), .int (iI si), .ref v1, .int (iI nx), .ref v2])), (v1, .inl (cJ, aL 360 SB6)), (v2, .inl (cJ, aL 360 TT))] 66 [(4, .int (iI y)), (2, .long (lI z)), (1, .int (iI k)), (0, .ref n0)] [] := by
          intro nn66
          induction nn66 with
          | zero =>
            intro y z k TT ky kU hnn66
            exact absurd hnn66 (by omega)
          | succ nn66 ih66 =>
            intro y z k TT ky kU hnn66
            refine g_iload C 0 std_N_uniteAlike_66 rfl ?_
            refine g_aload_n C 3 std_N_uniteAlike_68 rfl ?_
            refine g_get C (st_sub sti_N) 0 rfl rfl 6 (by decide) (List.mem_cons_of_mem _ kw_1_170) rfl rfl std_N_uniteAlike_69 ?_
            refine g_icmp_ge (tgt := 129) C std_N_uniteAlike_72 (by decide) ⟨by omega, by omega⟩ ⟨by omega, by omega⟩ (fun c7 => ?_) (fun c7 => ?_)
            · refine g_aload_n C 3 std_N_uniteAlike_129 rfl ?_
              refine g_iload_n C 2 std_N_uniteAlike_130 rfl ?_
              refine g_put C (ws' := [(n0, .inr (4, [.ref t0, .int (iI lo), .int (iI wi), .int (iI cu), .int (iI si), .ref v1, .int (iI k), .ref v2])), (v1, .inl (cJ, aL 360 SB6)), (v2, .inl (cJ, aL 360 TT))]) (st_sub sti_N) stt_N sto_N stn_N 0 rfl rfl 6 (by decide) (List.mem_cons_of_mem _ kw_1_170) rfl rfl rfl rfl (Nat.le_of_ble_eq_true rfl) std_N_uniteAlike_131 rfl ?_
              exact hret _ _ (SB6, TT, k) (u2_e (by omega) kf kV2 hS ((show y = nx by omega) ▸ kU)) std_N_uniteAlike_134
            · have hyS := kU.2.1 y (by omega)
              have hyB := hSB y (by omega) (by omega)
              have hU1 := kU.1
              have hU3 := kU.2.2.1
              have hU3b : (y = 0 ∧ z = -1) ∨ (0 < y ∧ 0 ≤ z ∧ z < 35184372088832) := hU3.elim Or.inl (fun q => Or.inr ⟨q.1, by have := hSB (y - 1) (by omega) (by omega); omega⟩)
              rw [← hyS] at hyB
              refine g_aload_n C 3 std_N_uniteAlike_75 rfl ?_
              refine g_get C (st_sub sti_N) 0 rfl rfl 7 (by decide) (List.mem_cons_of_mem _ kw_1_171) rfl rfl std_N_uniteAlike_76 ?_
              refine g_iload C 0 std_N_uniteAlike_79 rfl ?_
              refine g_lald C 2 1 rfl rfl (by omega) (by omega) (by omega) std_N_uniteAlike_81 ?_
              refine g_bipush C std_N_uniteAlike_82 (by decide) ?_
              refine g_lshr C (z := ((TT y) / 32768)) std_N_uniteAlike_84 (lI_shr (by omega) (by decide) (by decide) (by decide)) ?_
              refine g_lstore C (lv' := [(5, .long (lI ((TT y) / 32768))), (4, .int (iI y)), (2, .long (lI z)), (1, .int (iI k)), (0, .ref n0)]) std_N_uniteAlike_85 (by decide) rfl ?_
              refine g_lload C 0 std_N_uniteAlike_87 rfl ?_
              refine g_lload_n C 2 std_N_uniteAlike_89 rfl ?_
              refine g_lcmp_eq (tgt := 120) C std_N_uniteAlike_90 std_N_uniteAlike_91 (by decide) ⟨by omega, by omega⟩ ⟨by omega, by omega⟩ (fun c8 => ?_) (fun c8 => ?_)
              · refine g_lload C 0 std_N_uniteAlike_120 rfl ?_
                refine g_lstore_n C (lv' := [(2, .long (lI ((TT y) / 32768))), (5, .long (lI ((TT y) / 32768))), (4, .int (iI y)), (1, .int (iI k)), (0, .ref n0)]) std_N_uniteAlike_122 (by decide) rfl ?_
                refine g_iinc C (lv' := [(4, .int (iI (y + 1))), (2, .long (lI ((TT y) / 32768))), (5, .long (lI ((TT y) / 32768))), (1, .int (iI k)), (0, .ref n0)]) 2 std_N_uniteAlike_123 rfl (by decide) rfl ?_
                refine g_goto (tgt := 66) C std_N_uniteAlike_126 (by decide) ?_
                refine g_lv (lv' := [(4, .int (iI (y + 1))), (2, .long (lI ((TT y) / 32768))), (1, .int (iI k)), (0, .ref n0)]) [0, 1, 3, 4] rfl ?_
                exact ih66 (y + 1) ((TT y) / 32768) k TT (by omega) (by rw [hyS]; exact u2_a hS.1 (by omega) hSB kU (by omega)) (by omega)
              · refine g_aload_n C 4 std_N_uniteAlike_94 rfl ?_
                refine g_get C (st_sub sti_N) 0 rfl rfl 7 (by decide) (List.mem_cons_of_mem _ kw_1_171) rfl rfl std_N_uniteAlike_95 ?_
                refine g_iload_n C 3 std_N_uniteAlike_98 rfl ?_
                refine g_aload_n C 4 std_N_uniteAlike_99 rfl ?_
                refine g_get C (st_sub sti_N) 0 rfl rfl 7 (by decide) (List.mem_cons_of_mem _ kw_1_171) rfl rfl std_N_uniteAlike_100 ?_
                refine g_iload C 1 std_N_uniteAlike_103 rfl ?_
                refine g_lald C 2 1 rfl rfl (by omega) (by omega) (by omega) std_N_uniteAlike_105 ?_
                refine g_ldc2 C (z := 32767) (List.mem_cons_of_mem _ kw_3_35) (by decide) std_N_uniteAlike_106 ?_
                refine g_land C (z := ((TT y) % 32768)) std_N_uniteAlike_109 (lI_andK (d := 32768) 15 (by decide) (by decide) (by omega) (by decide)) ?_
                refine g_bipush C std_N_uniteAlike_110 (by decide) ?_
                refine g_lshl C (z := (((TT y) % 32768) * 1073741824)) std_N_uniteAlike_112 (lI_shl (by decide) (by decide) (by decide)) ?_
                refine g_lload C 0 std_N_uniteAlike_113 rfl ?_
                refine g_lor C (z := ((((TT y) % 32768) * 1073741824) + ((TT y) / 32768))) std_N_uniteAlike_115 (lI_orK (q := ((TT y) % 32768)) (d := 1073741824) 30 (by decide) rfl (by omega) (by omega) (by omega) (by omega)) ?_
                refine g_last C (ws' := [(n0, .inr (4, [.ref t0, .int (iI lo), .int (iI wi), .int (iI cu), .int (iI si), .ref v1, .int (iI nx), .ref v2])), (v1, .inl (cJ, aL 360 SB6)), (v2, .inl (cJ, aL 360 (uZ TT k ((((TT y) % 32768) * 1073741824) + ((TT y) / 32768)))))]) 2 1 rfl rfl (by omega) (by omega) (by omega) std_N_uniteAlike_116 rfl ?_
                refine g_iinc C (lv' := [(1, .int (iI (k + 1))), (5, .long (lI ((TT y) / 32768))), (4, .int (iI y)), (2, .long (lI z)), (0, .ref n0)]) 3 std_N_uniteAlike_117 rfl (by decide) rfl ?_
                refine g_lload C 1 std_N_uniteAlike_120 rfl ?_
                refine g_lstore_n C (lv' := [(2, .long (lI ((TT y) / 32768))), (1, .int (iI (k + 1))), (5, .long (lI ((TT y) / 32768))), (4, .int (iI y)), (0, .ref n0)]) std_N_uniteAlike_122 (by decide) rfl ?_
                refine g_iinc C (lv' := [(4, .int (iI (y + 1))), (2, .long (lI ((TT y) / 32768))), (1, .int (iI (k + 1))), (5, .long (lI ((TT y) / 32768))), (0, .ref n0)]) 3 std_N_uniteAlike_123 rfl (by decide) rfl ?_
                refine g_goto (tgt := 66) C std_N_uniteAlike_126 (by decide) ?_
                refine g_lv (lv' := [(4, .int (iI (y + 1))), (2, .long (lI ((TT y) / 32768))), (1, .int (iI (k + 1))), (0, .ref n0)]) [0, 1, 2, 4] rfl ?_
                exact ih66 (y + 1) ((TT y) / 32768) (k + 1) (uZ TT k ((((TT y) % 32768) * 1073741824) + ((TT y) / 32768))) (by omega) (by rw [hyS]; exact u2_b hS.1 (by omega) hSB kU (by omega)) (by omega)
        refine g_sub (ws' := [(n0, .inr (4, [.ref t0, .int (iI lo), .int (iI wi), .int (iI cu), .int (iI si), .ref v1, .int (iI nx), .ref v2])), (v1, .inl (cJ, aL 360 SB6)), (v2, .inl (cJ, aL 360 SA5))]) [0, 2, 1] rfl rfl ?_
        refine g_wide (k := 0) (n := 0) (Nat.le_of_ble_eq_true rfl) (Nat.le_of_ble_eq_true rfl) ?_
        obtain ⟨nn0, hnn0⟩ : ∃ nn0 : Nat, (nx - 0) < (nn0 : Int) := z_nat _
        exact L66 nn0 0 (-1) 0 SA5 (by omega) (u2_0) hnn0
      · have hxW := kW x (by omega)
        have hxB := kf x (by omega) (by omega)
        rw [← hxW] at hxB
        refine g_aload_n C 1 std_N_uniteAlike_10 rfl ?_
        refine g_get C (st_sub sti_N) 0 rfl rfl 7 (by decide) (List.mem_cons_of_mem _ kw_1_171) rfl rfl std_N_uniteAlike_11 ?_
        refine g_iload_n C 0 std_N_uniteAlike_14 rfl ?_
        refine g_lald C 2 1 rfl rfl (by omega) (by omega) (by omega) std_N_uniteAlike_15 ?_
        refine g_lstore_n C (lv' := [(2, .long (lI (VV x))), (1, .int (iI x)), (0, .ref n0)]) std_N_uniteAlike_16 (by decide) rfl ?_
        refine g_aload_n C 2 std_N_uniteAlike_17 rfl ?_
        refine g_get C (st_sub sti_N) 0 rfl rfl 7 (by decide) (List.mem_cons_of_mem _ kw_1_171) rfl rfl std_N_uniteAlike_18 ?_
        refine g_iload_n C 1 std_N_uniteAlike_21 rfl ?_
        refine g_lload_n C 0 std_N_uniteAlike_22 rfl ?_
        refine g_ldc2 C (z := 1073741823) (List.mem_cons_of_mem _ kw_3_26) (by decide) std_N_uniteAlike_23 ?_
        refine g_land C (z := ((VV x) % 1073741824)) std_N_uniteAlike_26 (lI_andK (d := 1073741824) 30 (by decide) (by decide) (by omega) (by decide)) ?_
        refine g_bipush C std_N_uniteAlike_27 (by decide) ?_
        refine g_lshl C (z := (((VV x) % 1073741824) * 32768)) std_N_uniteAlike_29 (lI_shl (by decide) (by decide) (by decide)) ?_
        refine g_lload_n C 0 std_N_uniteAlike_30 rfl ?_
        refine g_bipush C std_N_uniteAlike_31 (by decide) ?_
        refine g_lshr C (z := ((VV x) / 1073741824)) std_N_uniteAlike_33 (lI_shr (by omega) (by decide) (by decide) (by decide)) ?_
        refine g_lor C (z := ((((VV x) % 1073741824) * 32768) + ((VV x) / 1073741824))) std_N_uniteAlike_34 (lI_orK (q := ((VV x) % 1073741824)) (d := 32768) 15 (by decide) rfl (by omega) (by omega) (by omega) (by omega)) ?_
        refine g_last C (ws' := [(n0, .inr (4, [.ref t0, .int (iI lo), .int (iI wi), .int (iI cu), .int (iI si), .ref v1, .int (iI nx), .ref v2])), (v1, .inl (cJ, aL 360 fm)), (v2, .inl (cJ, aL 360 (uZ VV x ((((VV x) % 1073741824) * 32768) + ((VV x) / 1073741824)))))]) 2 1 rfl rfl (by omega) (by omega) (by omega) std_N_uniteAlike_35 rfl ?_
        refine g_iinc C (lv' := [(1, .int (iI (x + 1))), (2, .long (lI (VV x))), (0, .ref n0)]) 1 std_N_uniteAlike_36 rfl (by decide) rfl ?_
        refine g_goto (tgt := 2) C std_N_uniteAlike_39 (by decide) ?_
        refine g_lv (lv' := [(1, .int (iI (x + 1))), (0, .ref n0)]) [0, 2] rfl ?_
        exact ih2 (x + 1) (uZ VV x ((((VV x) % 1073741824) * 32768) + ((VV x) / 1073741824))) (by omega) (sw_1 kx.1 kV (kW x (by omega))) (fun i h => by rw [uZ_n (by omega)]; exact kW i (by omega)) (by omega)
  obtain ⟨nn0, hnn0⟩ : ∃ nn0 : Nat, (nx - 0) < (nn0 : Int) := z_nat _
  exact L2 nn0 0 fn (by omega) (fun i h1 h2 => by omega) (fun _ _ => rfl) hnn0

