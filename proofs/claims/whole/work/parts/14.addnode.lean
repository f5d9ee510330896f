/-! Layers: a node is made; rows grow -/
abbrev sty_Y_addNode : MethodName := ⟨"StateTables$Layers", "addNode", "(II)V"⟩
abbrev stc_Y_addNode : ByteArray := prog_3_method_13_code
theorem sth_Y_addNode : (sty_Y_addNode).cls ≠ "java/lang/invoke/MethodHandle" ∧ (sty_Y_addNode).cls ≠ "java/lang/invoke/VarHandle" ∧ (parseMethodDescriptor (sty_Y_addNode).desc).map (fun d => d.parameters.length) = some 2 := by decide +kernel
theorem std_Y_addNode_0 : decode stc_Y_addNode 0 = .ok (.aload_n 0, 1) := by decide +kernel
theorem std_Y_addNode_1 : decode stc_Y_addNode 1 = .ok (.aload_n 0, 1) := by decide +kernel
theorem std_Y_addNode_2 : decode stc_Y_addNode 2 = .ok (.getfield 34, 3) := by decide +kernel
theorem std_Y_addNode_5 : decode stc_Y_addNode 5 = .ok (.iload_n 2, 1) := by decide +kernel
theorem std_Y_addNode_6 : decode stc_Y_addNode 6 = .ok (.iaload, 1) := by decide +kernel
theorem std_Y_addNode_7 : decode stc_Y_addNode 7 = .ok (.iload_n 2, 1) := by decide +kernel
theorem std_Y_addNode_8 : decode stc_Y_addNode 8 = .ok (.invokevirtual 129, 3) := by decide +kernel
theorem std_Y_addNode_11 : decode stc_Y_addNode 11 = .ok (.istore_n 3, 1) := by decide +kernel
theorem std_Y_addNode_12 : decode stc_Y_addNode 12 = .ok (.aload_n 0, 1) := by decide +kernel
theorem std_Y_addNode_13 : decode stc_Y_addNode 13 = .ok (.getfield 37, 3) := by decide +kernel
theorem std_Y_addNode_16 : decode stc_Y_addNode 16 = .ok (.getfield 132, 3) := by decide +kernel
theorem std_Y_addNode_19 : decode stc_Y_addNode 19 = .ok (.iload_n 1, 1) := by decide +kernel
theorem std_Y_addNode_20 : decode stc_Y_addNode 20 = .ok (.iload_n 2, 1) := by decide +kernel
theorem std_Y_addNode_21 : decode stc_Y_addNode 21 = .ok (.invokestatic 104, 3) := by decide +kernel
theorem std_Y_addNode_24 : decode stc_Y_addNode 24 = .ok (.iaload, 1) := by decide +kernel
theorem std_Y_addNode_25 : decode stc_Y_addNode 25 = .ok (.istore 4, 2) := by decide +kernel
theorem std_Y_addNode_27 : decode stc_Y_addNode 27 = .ok (.aload_n 0, 1) := by decide +kernel
theorem std_Y_addNode_28 : decode stc_Y_addNode 28 = .ok (.getfield 60, 3) := by decide +kernel
theorem kw_1_85 : Cond.fieldLink "StateTables$Layers" 60 "StateTables$Layers" "total" "I" ∈ stGW := st_t1 (List.mem_of_getElem? (i := 85) (by decide +kernel)) (by decide +kernel)
theorem std_Y_addNode_31 : decode stc_Y_addNode 31 = .ok (.istore 5, 2) := by decide +kernel
theorem std_Y_addNode_33 : decode stc_Y_addNode 33 = .ok (.aload_n 0, 1) := by decide +kernel
theorem std_Y_addNode_34 : decode stc_Y_addNode 34 = .ok (.dup, 1) := by decide +kernel
theorem std_Y_addNode_35 : decode stc_Y_addNode 35 = .ok (.getfield 60, 3) := by decide +kernel
theorem std_Y_addNode_38 : decode stc_Y_addNode 38 = .ok (.iconst 1, 1) := by decide +kernel
theorem std_Y_addNode_39 : decode stc_Y_addNode 39 = .ok (.iadd, 1) := by decide +kernel
theorem std_Y_addNode_40 : decode stc_Y_addNode 40 = .ok (.putfield 60, 3) := by decide +kernel
theorem std_Y_addNode_43 : decode stc_Y_addNode 43 = .ok (.aload_n 0, 1) := by decide +kernel
theorem std_Y_addNode_44 : decode stc_Y_addNode 44 = .ok (.getfield 15, 3) := by decide +kernel
theorem std_Y_addNode_47 : decode stc_Y_addNode 47 = .ok (.iload 5, 2) := by decide +kernel
theorem std_Y_addNode_49 : decode stc_Y_addNode 49 = .ok (.iload_n 3, 1) := by decide +kernel
theorem std_Y_addNode_50 : decode stc_Y_addNode 50 = .ok (.iastore, 1) := by decide +kernel
theorem std_Y_addNode_51 : decode stc_Y_addNode 51 = .ok (.aload_n 0, 1) := by decide +kernel
theorem std_Y_addNode_52 : decode stc_Y_addNode 52 = .ok (.getfield 18, 3) := by decide +kernel
theorem std_Y_addNode_55 : decode stc_Y_addNode 55 = .ok (.iload 5, 2) := by decide +kernel
theorem std_Y_addNode_57 : decode stc_Y_addNode 57 = .ok (.aload_n 0, 1) := by decide +kernel
theorem std_Y_addNode_58 : decode stc_Y_addNode 58 = .ok (.getfield 18, 3) := by decide +kernel
theorem std_Y_addNode_61 : decode stc_Y_addNode 61 = .ok (.aload_n 0, 1) := by decide +kernel
theorem std_Y_addNode_62 : decode stc_Y_addNode 62 = .ok (.getfield 34, 3) := by decide +kernel
theorem std_Y_addNode_65 : decode stc_Y_addNode 65 = .ok (.iload_n 2, 1) := by decide +kernel
theorem std_Y_addNode_66 : decode stc_Y_addNode 66 = .ok (.iaload, 1) := by decide +kernel
theorem std_Y_addNode_67 : decode stc_Y_addNode 67 = .ok (.iaload, 1) := by decide +kernel
theorem std_Y_addNode_68 : decode stc_Y_addNode 68 = .ok (.iload 4, 2) := by decide +kernel
theorem std_Y_addNode_70 : decode stc_Y_addNode 70 = .ok (.iadd, 1) := by decide +kernel
theorem std_Y_addNode_71 : decode stc_Y_addNode 71 = .ok (.iastore, 1) := by decide +kernel
theorem std_Y_addNode_72 : decode stc_Y_addNode 72 = .ok (.aload_n 0, 1) := by decide +kernel
theorem std_Y_addNode_73 : decode stc_Y_addNode 73 = .ok (.getfield 24, 3) := by decide +kernel
theorem kw_1_94 : Cond.fieldLink "StateTables$Layers" 24 "StateTables$Layers" "waysTo" "[J" ∈ stGW := st_t1 (List.mem_of_getElem? (i := 94) (by decide +kernel)) (by decide +kernel)
theorem std_Y_addNode_76 : decode stc_Y_addNode 76 = .ok (.iload 5, 2) := by decide +kernel
theorem std_Y_addNode_78 : decode stc_Y_addNode 78 = .ok (.lconst 0, 1) := by decide +kernel
theorem std_Y_addNode_79 : decode stc_Y_addNode 79 = .ok (.lastore, 1) := by decide +kernel
theorem std_Y_addNode_80 : decode stc_Y_addNode 80 = .ok (.aload_n 0, 1) := by decide +kernel
theorem std_Y_addNode_81 : decode stc_Y_addNode 81 = .ok (.getfield 34, 3) := by decide +kernel
theorem std_Y_addNode_84 : decode stc_Y_addNode 84 = .ok (.iload_n 2, 1) := by decide +kernel
theorem std_Y_addNode_85 : decode stc_Y_addNode 85 = .ok (.iaload, 1) := by decide +kernel
theorem std_Y_addNode_86 : decode stc_Y_addNode 86 = .ok (.aload_n 0, 1) := by decide +kernel
theorem std_Y_addNode_87 : decode stc_Y_addNode 87 = .ok (.getfield 9, 3) := by decide +kernel
theorem std_Y_addNode_90 : decode stc_Y_addNode 90 = .ok (.iload_n 1, 1) := by decide +kernel
theorem std_Y_addNode_91 : decode stc_Y_addNode 91 = .ok (.iconst 1, 1) := by decide +kernel
theorem std_Y_addNode_92 : decode stc_Y_addNode 92 = .ok (.iadd, 1) := by decide +kernel
theorem std_Y_addNode_93 : decode stc_Y_addNode 93 = .ok (.iaload, 1) := by decide +kernel
theorem std_Y_addNode_94 : decode stc_Y_addNode 94 = .ok (.if_icmp .ge 103, 3) := by decide +kernel
theorem std_Y_addNode_197 : decode stc_Y_addNode 197 = .ok (.return_, 1) := by decide +kernel
theorem std_Y_addNode_97 : decode stc_Y_addNode 97 = .ok (.aload_n 0, 1) := by decide +kernel
theorem std_Y_addNode_98 : decode stc_Y_addNode 98 = .ok (.aload_n 0, 1) := by decide +kernel
theorem std_Y_addNode_99 : decode stc_Y_addNode 99 = .ok (.getfield 34, 3) := by decide +kernel
theorem std_Y_addNode_102 : decode stc_Y_addNode 102 = .ok (.iload_n 2, 1) := by decide +kernel
theorem std_Y_addNode_103 : decode stc_Y_addNode 103 = .ok (.iaload, 1) := by decide +kernel
theorem std_Y_addNode_104 : decode stc_Y_addNode 104 = .ok (.iload_n 2, 1) := by decide +kernel
theorem std_Y_addNode_105 : decode stc_Y_addNode 105 = .ok (.invokevirtual 129, 3) := by decide +kernel
theorem std_Y_addNode_108 : decode stc_Y_addNode 108 = .ok (.iload_n 3, 1) := by decide +kernel
theorem std_Y_addNode_109 : decode stc_Y_addNode 109 = .ok (.if_icmp .ne 88, 3) := by decide +kernel
theorem std_Y_addNode_112 : decode stc_Y_addNode 112 = .ok (.aload_n 0, 1) := by decide +kernel
theorem std_Y_addNode_113 : decode stc_Y_addNode 113 = .ok (.getfield 34, 3) := by decide +kernel
theorem std_Y_addNode_116 : decode stc_Y_addNode 116 = .ok (.iload_n 2, 1) := by decide +kernel
theorem std_Y_addNode_117 : decode stc_Y_addNode 117 = .ok (.iaload, 1) := by decide +kernel
theorem std_Y_addNode_118 : decode stc_Y_addNode 118 = .ok (.istore 6, 2) := by decide +kernel
theorem std_Y_addNode_120 : decode stc_Y_addNode 120 = .ok (.aload_n 0, 1) := by decide +kernel
theorem std_Y_addNode_121 : decode stc_Y_addNode 121 = .ok (.getfield 31, 3) := by decide +kernel
theorem std_Y_addNode_124 : decode stc_Y_addNode 124 = .ok (.iload 6, 2) := by decide +kernel
theorem std_Y_addNode_126 : decode stc_Y_addNode 126 = .ok (.bipush 6, 2) := by decide +kernel
theorem std_Y_addNode_128 : decode stc_Y_addNode 128 = .ok (.imul, 1) := by decide +kernel
theorem std_Y_addNode_129 : decode stc_Y_addNode 129 = .ok (.iload_n 2, 1) := by decide +kernel
theorem std_Y_addNode_130 : decode stc_Y_addNode 130 = .ok (.iadd, 1) := by decide +kernel
theorem std_Y_addNode_131 : decode stc_Y_addNode 131 = .ok (.iload 5, 2) := by decide +kernel
theorem std_Y_addNode_133 : decode stc_Y_addNode 133 = .ok (.iastore, 1) := by decide +kernel
theorem std_Y_addNode_134 : decode stc_Y_addNode 134 = .ok (.aload_n 0, 1) := by decide +kernel
theorem std_Y_addNode_135 : decode stc_Y_addNode 135 = .ok (.getfield 18, 3) := by decide +kernel
theorem std_Y_addNode_138 : decode stc_Y_addNode 138 = .ok (.iload 5, 2) := by decide +kernel
theorem std_Y_addNode_140 : decode stc_Y_addNode 140 = .ok (.aload_n 0, 1) := by decide +kernel
theorem std_Y_addNode_141 : decode stc_Y_addNode 141 = .ok (.getfield 18, 3) := by decide +kernel
theorem std_Y_addNode_144 : decode stc_Y_addNode 144 = .ok (.iload 5, 2) := by decide +kernel
theorem std_Y_addNode_146 : decode stc_Y_addNode 146 = .ok (.iaload, 1) := by decide +kernel
theorem std_Y_addNode_147 : decode stc_Y_addNode 147 = .ok (.aload_n 0, 1) := by decide +kernel
theorem std_Y_addNode_148 : decode stc_Y_addNode 148 = .ok (.getfield 18, 3) := by decide +kernel
theorem std_Y_addNode_151 : decode stc_Y_addNode 151 = .ok (.iload 6, 2) := by decide +kernel
theorem std_Y_addNode_153 : decode stc_Y_addNode 153 = .ok (.iaload, 1) := by decide +kernel
theorem std_Y_addNode_154 : decode stc_Y_addNode 154 = .ok (.iload 4, 2) := by decide +kernel
theorem std_Y_addNode_156 : decode stc_Y_addNode 156 = .ok (.iadd, 1) := by decide +kernel
theorem std_Y_addNode_157 : decode stc_Y_addNode 157 = .ok (.invokestatic 69, 3) := by decide +kernel
theorem std_Y_addNode_160 : decode stc_Y_addNode 160 = .ok (.iastore, 1) := by decide +kernel
theorem std_Y_addNode_161 : decode stc_Y_addNode 161 = .ok (.aload_n 0, 1) := by decide +kernel
theorem std_Y_addNode_162 : decode stc_Y_addNode 162 = .ok (.getfield 24, 3) := by decide +kernel
theorem std_Y_addNode_165 : decode stc_Y_addNode 165 = .ok (.iload 5, 2) := by decide +kernel
theorem std_Y_addNode_167 : decode stc_Y_addNode 167 = .ok (.dup2, 1) := by decide +kernel
theorem std_Y_addNode_168 : decode stc_Y_addNode 168 = .ok (.laload, 1) := by decide +kernel
theorem std_Y_addNode_169 : decode stc_Y_addNode 169 = .ok (.aload_n 0, 1) := by decide +kernel
theorem std_Y_addNode_170 : decode stc_Y_addNode 170 = .ok (.getfield 24, 3) := by decide +kernel
theorem std_Y_addNode_173 : decode stc_Y_addNode 173 = .ok (.iload 6, 2) := by decide +kernel
theorem std_Y_addNode_175 : decode stc_Y_addNode 175 = .ok (.laload, 1) := by decide +kernel
theorem std_Y_addNode_176 : decode stc_Y_addNode 176 = .ok (.ladd, 1) := by decide +kernel
theorem std_Y_addNode_177 : decode stc_Y_addNode 177 = .ok (.lastore, 1) := by decide +kernel
theorem std_Y_addNode_178 : decode stc_Y_addNode 178 = .ok (.aload_n 0, 1) := by decide +kernel
theorem std_Y_addNode_179 : decode stc_Y_addNode 179 = .ok (.getfield 34, 3) := by decide +kernel
theorem std_Y_addNode_182 : decode stc_Y_addNode 182 = .ok (.iload_n 2, 1) := by decide +kernel
theorem std_Y_addNode_183 : decode stc_Y_addNode 183 = .ok (.iload 6, 2) := by decide +kernel
theorem std_Y_addNode_185 : decode stc_Y_addNode 185 = .ok (.iconst 1, 1) := by decide +kernel
theorem std_Y_addNode_186 : decode stc_Y_addNode 186 = .ok (.iadd, 1) := by decide +kernel
theorem std_Y_addNode_187 : decode stc_Y_addNode 187 = .ok (.iastore, 1) := by decide +kernel
theorem std_Y_addNode_188 : decode stc_Y_addNode 188 = .ok (.aload_n 0, 1) := by decide +kernel
theorem std_Y_addNode_189 : decode stc_Y_addNode 189 = .ok (.iload_n 1, 1) := by decide +kernel
theorem std_Y_addNode_190 : decode stc_Y_addNode 190 = .ok (.iload_n 2, 1) := by decide +kernel
theorem std_Y_addNode_191 : decode stc_Y_addNode 191 = .ok (.invokevirtual 83, 3) := by decide +kernel
theorem kw_2_97 : Cond.code sty_Y_skipUnfollowed stc_Y_skipUnfollowed 4 none ∈ stGW := st_t2 (List.mem_of_getElem? (i := 97) (by decide +kernel)) (by decide +kernel)
theorem kw_2_94 : Cond.methodLink "StateTables$Layers" 83 (sty_Y_skipUnfollowed) ∈ stGW := st_t2 (List.mem_of_getElem? (i := 94) (by decide +kernel)) (by decide +kernel)
theorem kw_2_96 : Cond.instanceMethod (sty_Y_skipUnfollowed) ∈ stGW := st_t2 (List.mem_of_getElem? (i := 96) (by decide +kernel)) (by decide +kernel)
theorem kw_0_3 : Cond.selects "StateTables$Layers" (sty_Y_skipUnfollowed) (sty_Y_skipUnfollowed) ∈ stGW := st_t0 (List.mem_of_getElem? (i := 3) (by decide +kernel)) (by decide +kernel)
theorem std_Y_addNode_194 : decode stc_Y_addNode 194 = .ok (.goto (-114), 3) := by decide +kernel
set_option maxHeartbeats 4000000 in
set_option maxRecDepth 100000 in
theorem c_addNode (l : Launch) (dC : Nat → ClassId) (dI : Nat → Nat → Nat) (cI cJ cZ : ClassId) (y0 : Nat) (ys : Nat) (yk : Nat) (yc : Nat) (yd : Nat) (yw : Nat) (yx : Nat) (yb : Nat) (yu : Nat) (total : Int) (t0 : Nat) (hs : Nat) (hc : Nat) (hf : Nat) (hg : Nat) (hb : Nat) (he : Nat) (hm : Nat) (steps : Int) (choices : Int) (bars : Int) (cap : Nat) (gst : Int → Int) (gk : Int → Int) (gct : Int → Int) (gwt : Int → Int) (gbe : Int → Int) (gcu : Int → Int) (fco : Int → Int) (a : Int) (b : Int) (kcap : cap ≤ 4801) (kgst : ∀ j, 0 ≤ j → j < 14 → 0 ≤ gst j ∧ gst j ≤ cap) (ka : 0 ≤ a ∧ a < 12) (kb : 0 ≤ b ∧ b < 6) (kt : gst (a + 1) ≤ total ∧ total < (cap : Int)) (kc : 0 ≤ gcu b ∧ gcu b < gst (a + 1)) (kk : ¬ (gbe ((gcu b * 6) + b)) = -1) (kbe : ∀ i, gcu b ≤ i → i < gst (a + 1) → rI (gbe ((i * 6) + b))) (kg : ∀ i, gcu b ≤ i → i < gst (a + 1) → -100000 ≤ gct i ∧ gct i ≤ 100000) (kco : ∀ j, 0 ≤ j → j < 72 → -1000 ≤ fco j ∧ fco j ≤ 1000) : ∀ sz, Met l sty_Y_addNode (Cond.code sty_Y_addNode stc_Y_addNode 7 none :: stGW) ({ frames := 2, cells := 0, slots := 0, locals := 45 } : Room) (va_Pc [.ref y0, .int (iI a), .int (iI b)] (zPre (dC, dI) stCl [(cI, .int), (cJ, .long), (cZ, .boolean)] st_nw [(y0, .inr (2, [.ref t0, .int (iI total), .ref ys, .ref yk, .ref yc, .ref yd, .ref yw, .ref yx, .ref yb, .ref yu])), (ys, .inl (cI, aI 14 gst)), (yk, .inl (cI, aI cap gk)), (yc, .inl (cI, aI cap gct)), (yw, .inl (cJ, aL cap gwt)), (yb, .inl (cI, aI (6 * cap) gbe)), (yu, .inl (cI, aI 6 gcu)), (t0, .inr (1, [.int (iI steps), .int (iI choices), .int (iI bars), .ref hs, .ref hc, .ref hf, .ref hg, .ref hb, .ref he, .ref hm])), (hc, .inl (cI, aI 72 fco))] sz)) (va_Qv (fun (u : (Int → Int) × (Int → Int) × (Int → Int) × (Int → Int)) => ANp gbe gct gwt gcu b (fco ((a * 6) + b)) (gst (a + 1)) (gbe ((gcu b * 6) + b)) total u.1 u.2.1 u.2.2.1 u.2.2.2 ∧ gcu b < u.1 b ∧ (u.1 b < gst (a + 1) → ¬ gbe ((u.1 b * 6) + b) = (gbe ((gcu b * 6) + b)))) (zPost (dC, dI) stCl [(cI, .int), (cJ, .long), (cZ, .boolean)] [(y0, .inr (2, [.ref t0, .int (iI total), .ref ys, .ref yk, .ref yc, .ref yd, .ref yw, .ref yx, .ref yb, .ref yu])), (ys, .inl (cI, aI 14 gst)), (yk, .inl (cI, aI cap gk)), (yc, .inl (cI, aI cap gct)), (yw, .inl (cJ, aL cap gwt)), (yb, .inl (cI, aI (6 * cap) gbe)), (yu, .inl (cI, aI 6 gcu)), (t0, .inr (1, [.int (iI steps), .int (iI choices), .int (iI bars), .ref hs, .ref hc, .ref hf, .ref hg, .ref hb, .ref he, .ref hm])), (hc, .inl (cI, aI 72 fco))] sz (fun u : (Int → Int) × (Int → Int) × (Int → Int) × (Int → Int) => [(y0, .inr (2, [.ref t0, .int (iI (total + 1)), .ref ys, .ref yk, .ref yc, .ref yd, .ref yw, .ref yx, .ref yb, .ref yu])), (ys, .inl (cI, aI 14 gst)), (yk, .inl (cI, aI cap (uZ gk total (gbe ((gcu b * 6) + b))))), (yc, .inl (cI, aI cap (u.2.2.1))), (yw, .inl (cJ, aL cap (u.2.2.2))), (yb, .inl (cI, aI (6 * cap) (u.2.1))), (yu, .inl (cI, aI 6 (u.1))), (t0, .inr (1, [.int (iI steps), .int (iI choices), .int (iI bars), .ref hs, .ref hc, .ref hf, .ref hg, .ref hb, .ref he, .ref hm])), (hc, .inl (cI, aI 72 fco))])) (va_A [(y0, .inr (2, [.ref t0, .int (iI total), .ref ys, .ref yk, .ref yc, .ref yd, .ref yw, .ref yx, .ref yb, .ref yu])), (ys, .inl (cI, aI 14 gst)), (yk, .inl (cI, aI cap gk)), (yc, .inl (cI, aI cap gct)), (yw, .inl (cJ, aL cap gwt)), (yb, .inl (cI, aI (6 * cap) gbe)), (yu, .inl (cI, aI 6 gcu)), (t0, .inr (1, [.int (iI steps), .int (iI choices), .int (iI bars), .ref hs, .ref hc, .ref hf, .ref hg, .ref hb, .ref he, .ref hm])), (hc, .inl (cI, aI 72 fco))] sz)) 0 0 (va_A [(y0, .inr (2, [.ref t0, .int (iI total), .ref ys, .ref yk, .ref yc, .ref yd, .ref yw, .ref yx, .ref yb, .ref yu])), (ys, .inl (cI, aI 14 gst)), (yk, .inl (cI, aI cap gk)), (yc, .inl (cI, aI cap gct)), (yw, .inl (cJ, aL cap gwt)), (yb, .inl (cI, aI (6 * cap) gbe)), (yu, .inl (cI, aI 6 gcu)), (t0, .inr (1, [.int (iI steps), .int (iI choices), .int (iI bars), .ref hs, .ref hc, .ref hf, .ref hg, .ref hb, .ref he, .ref hm])), (hc, .inl (cI, aI 72 fco))] sz) := by
  refine met_v (by decide) rfl (Nat.le_of_ble_eq_true rfl) ?_
  intro p e s m below meth c A Q C hmn hret
  have hq1 := kgst (a + 1) (by omega) (by omega)
  have hq2 := kbe (gcu b) (by omega) (by omega)
  have hq3 := kg (gcu b) (by omega) (by omega)
  have hq4 := kco ((a * 6) + b) (by omega) (by omega)
  refine g_aload_n C 0 std_Y_addNode_0 rfl ?_
  refine g_aload_n C 0 std_Y_addNode_1 rfl ?_
  refine g_get C (st_sub sti_Y) 0 rfl rfl 9 (by decide) (List.mem_cons_of_mem _ kw_1_100) rfl rfl std_Y_addNode_2 ?_
  refine g_iload_n C 2 std_Y_addNode_5 rfl ?_
  refine g_iald C 6 0 rfl rfl (by omega) (by omega) (by omega) std_Y_addNode_6 ?_
  refine g_iload_n C 2 std_Y_addNode_7 rfl ?_
  refine g_V_i (wc := [(y0, .inr (2, [.ref t0, .int (iI total), .ref ys, .ref yk, .ref yc, .ref yd, .ref yw, .ref yx, .ref yb, .ref yu])), (yb, .inl (cI, aI (6 * cap) gbe))]) (wr := [(ys, .inl (cI, aI 14 gst)), (yk, .inl (cI, aI cap gk)), (yc, .inl (cI, aI cap gct)), (yw, .inl (cJ, aL cap gwt)), (yu, .inl (cI, aI 6 gcu)), (t0, .inr (1, [.int (iI steps), .int (iI choices), .int (iI bars), .ref hs, .ref hc, .ref hf, .ref hg, .ref hb, .ref he, .ref hm])), (hc, .inl (cI, aI 72 fco))]) (rest := []) C (c_nodeBehind l dC dI cI cJ cZ y0 ys yk yc yd yw yx yb yu total t0 cap gbe (gcu b) b (kcap) (by omega)) (st_cV C kw_2_101 kw_2_98 kw_1_3 kw_2_99 kw_2_100 sth_Y_nodeBehind ⟨Nat.le_of_ble_eq_true rfl, Nat.le_of_ble_eq_true rfl⟩) 0 rfl rfl rfl rfl (Nat.le_of_ble_eq_true rfl) std_Y_addNode_8 ⟨Nat.le_of_ble_eq_true rfl, Nat.le_of_ble_eq_true rfl⟩ [0, 5] [1, 2, 3, 4, 6, 7, 8] rfl rfl rfl rfl (by decide) (fun r1 u2 h3 => ?_)
  subst h3
  refine g_ws (ws' := [(ys, .inl (cI, aI 14 gst)), (yk, .inl (cI, aI cap gk)), (yc, .inl (cI, aI cap gct)), (yw, .inl (cJ, aL cap gwt)), (yu, .inl (cI, aI 6 gcu)), (t0, .inr (1, [.int (iI steps), .int (iI choices), .int (iI bars), .ref hs, .ref hc, .ref hf, .ref hg, .ref hb, .ref he, .ref hm])), (hc, .inl (cI, aI 72 fco)), (y0, .inr (2, [.ref t0, .int (iI total), .ref ys, .ref yk, .ref yc, .ref yd, .ref yw, .ref yx, .ref yb, .ref yu])), (yb, .inl (cI, aI (6 * cap) gbe))]) rfl ?_
  refine g_istore_n C (lv' := [(3, .int (iI (gbe (((gcu b) * 6) + b)))), (0, .ref y0), (1, .int (iI a)), (2, .int (iI b))]) std_Y_addNode_11 (by decide) rfl ?_
  refine g_aload_n C 1 std_Y_addNode_12 rfl ?_
  refine g_get C (st_sub sti_Y) 7 rfl rfl 0 (by decide) (List.mem_cons_of_mem _ kw_1_83) rfl rfl std_Y_addNode_13 ?_
  refine g_get C (st_sub sti_T) 5 rfl rfl 4 (by decide) (List.mem_cons_of_mem _ kw_1_41) rfl rfl std_Y_addNode_16 ?_
  refine g_iload_n C 2 std_Y_addNode_19 rfl ?_
  refine g_iload_n C 3 std_Y_addNode_20 rfl ?_
  refine g_SN_i (wc := []) (wr := [(ys, .inl (cI, aI 14 gst)), (yk, .inl (cI, aI cap gk)), (yc, .inl (cI, aI cap gct)), (yw, .inl (cJ, aL cap gwt)), (yu, .inl (cI, aI 6 gcu)), (t0, .inr (1, [.int (iI steps), .int (iI choices), .int (iI bars), .ref hs, .ref hc, .ref hf, .ref hg, .ref hb, .ref he, .ref hm])), (hc, .inl (cI, aI 72 fco)), (y0, .inr (2, [.ref t0, .int (iI total), .ref ys, .ref yk, .ref yc, .ref yd, .ref yw, .ref yx, .ref yb, .ref yu])), (yb, .inl (cI, aI (6 * cap) gbe))]) (rest := [.ref hc]) C (c_placeOf l dC dI cI cJ cZ a b ) (st_cSN C kw_1_235 (List.mem_of_getElem? (i := 3) rfl) kw_1_1 kw_1_234 sth_S_placeOf ⟨Nat.le_of_ble_eq_true rfl, Nat.le_of_ble_eq_true rfl⟩) rfl rfl (Nat.le_of_ble_eq_true rfl) std_Y_addNode_21 ⟨Nat.le_of_ble_eq_true rfl, Nat.le_of_ble_eq_true rfl⟩ [] [0, 1, 2, 3, 4, 5, 6, 7, 8] rfl rfl rfl rfl (by decide) (fun r4 u5 h6 => ?_)
  subst h6
  refine g_ws (ws' := [(ys, .inl (cI, aI 14 gst)), (yk, .inl (cI, aI cap gk)), (yc, .inl (cI, aI cap gct)), (yw, .inl (cJ, aL cap gwt)), (yu, .inl (cI, aI 6 gcu)), (t0, .inr (1, [.int (iI steps), .int (iI choices), .int (iI bars), .ref hs, .ref hc, .ref hf, .ref hg, .ref hb, .ref he, .ref hm])), (hc, .inl (cI, aI 72 fco)), (y0, .inr (2, [.ref t0, .int (iI total), .ref ys, .ref yk, .ref yc, .ref yd, .ref yw, .ref yx, .ref yb, .ref yu])), (yb, .inl (cI, aI (6 * cap) gbe))]) rfl ?_
  refine g_iald C 6 0 rfl rfl (by omega) (by omega) (by omega) std_Y_addNode_24 ?_
  refine g_istore C (lv' := [(4, .int (iI (fco ((a * 6) + b)))), (3, .int (iI (gbe (((gcu b) * 6) + b)))), (0, .ref y0), (1, .int (iI a)), (2, .int (iI b))]) std_Y_addNode_25 (by decide) rfl ?_
  refine g_aload_n C 2 std_Y_addNode_27 rfl ?_
  refine g_get C (st_sub sti_Y) 7 rfl rfl 1 (by decide) (List.mem_cons_of_mem _ kw_1_85) rfl rfl std_Y_addNode_28 ?_
  refine g_istore C (lv' := [(5, .int (iI total)), (4, .int (iI (fco ((a * 6) + b)))), (3, .int (iI (gbe (((gcu b) * 6) + b)))), (0, .ref y0), (1, .int (iI a)), (2, .int (iI b))]) std_Y_addNode_31 (by decide) rfl ?_
  refine g_aload_n C 3 std_Y_addNode_33 rfl ?_
  refine g_dup C std_Y_addNode_34 rfl ?_
  refine g_get C (st_sub sti_Y) 7 rfl rfl 1 (by decide) (List.mem_cons_of_mem _ kw_1_85) rfl rfl std_Y_addNode_35 ?_
  refine g_iconst C std_Y_addNode_38 ?_
  refine g_iadd C std_Y_addNode_39 ?_
  refine g_put C (ws' := [(ys, .inl (cI, aI 14 gst)), (yk, .inl (cI, aI cap gk)), (yc, .inl (cI, aI cap gct)), (yw, .inl (cJ, aL cap gwt)), (yu, .inl (cI, aI 6 gcu)), (t0, .inr (1, [.int (iI steps), .int (iI choices), .int (iI bars), .ref hs, .ref hc, .ref hf, .ref hg, .ref hb, .ref he, .ref hm])), (hc, .inl (cI, aI 72 fco)), (y0, .inr (2, [.ref t0, .int (iI (total + 1)), .ref ys, .ref yk, .ref yc, .ref yd, .ref yw, .ref yx, .ref yb, .ref yu])), (yb, .inl (cI, aI (6 * cap) gbe))]) (st_sub sti_Y) stt_Y sto_Y stn_Y 7 rfl rfl 1 (by decide) (List.mem_cons_of_mem _ kw_1_85) rfl rfl rfl rfl (Nat.le_of_ble_eq_true rfl) std_Y_addNode_40 rfl ?_
  refine g_aload_n C 3 std_Y_addNode_43 rfl ?_
  refine g_get C (st_sub sti_Y) 7 rfl rfl 3 (by decide) (List.mem_cons_of_mem _ kw_1_88) rfl rfl std_Y_addNode_44 ?_
  refine g_iload C 0 std_Y_addNode_47 rfl ?_
  refine g_iload_n C 2 std_Y_addNode_49 rfl ?_
  refine g_iast C (ws' := [(ys, .inl (cI, aI 14 gst)), (yk, .inl (cI, aI cap (uZ gk total (gbe (((gcu b) * 6) + b))))), (yc, .inl (cI, aI cap gct)), (yw, .inl (cJ, aL cap gwt)), (yu, .inl (cI, aI 6 gcu)), (t0, .inr (1, [.int (iI steps), .int (iI choices), .int (iI bars), .ref hs, .ref hc, .ref hf, .ref hg, .ref hb, .ref he, .ref hm])), (hc, .inl (cI, aI 72 fco)), (y0, .inr (2, [.ref t0, .int (iI (total + 1)), .ref ys, .ref yk, .ref yc, .ref yd, .ref yw, .ref yx, .ref yb, .ref yu])), (yb, .inl (cI, aI (6 * cap) gbe))]) 1 0 rfl rfl (by omega) (by omega) (by omega) std_Y_addNode_50 rfl ?_
  refine g_aload_n C 3 std_Y_addNode_51 rfl ?_
  refine g_get C (st_sub sti_Y) 7 rfl rfl 4 (by decide) (List.mem_cons_of_mem _ kw_1_90) rfl rfl std_Y_addNode_52 ?_
  refine g_iload C 0 std_Y_addNode_55 rfl ?_
  refine g_aload_n C 3 std_Y_addNode_57 rfl ?_
  refine g_get C (st_sub sti_Y) 7 rfl rfl 4 (by decide) (List.mem_cons_of_mem _ kw_1_90) rfl rfl std_Y_addNode_58 ?_
  refine g_aload_n C 3 std_Y_addNode_61 rfl ?_
  refine g_get C (st_sub sti_Y) 7 rfl rfl 9 (by decide) (List.mem_cons_of_mem _ kw_1_100) rfl rfl std_Y_addNode_62 ?_
  refine g_iload_n C 5 std_Y_addNode_65 rfl ?_
  refine g_iald C 4 0 rfl rfl (by omega) (by omega) (by omega) std_Y_addNode_66 ?_
  refine g_iald C 2 0 rfl rfl (by omega) (by omega) (by omega) std_Y_addNode_67 ?_
  refine g_iload C 1 std_Y_addNode_68 rfl ?_
  refine g_iadd C std_Y_addNode_70 ?_
  refine g_iast C (ws' := [(ys, .inl (cI, aI 14 gst)), (yk, .inl (cI, aI cap (uZ gk total (gbe (((gcu b) * 6) + b))))), (yc, .inl (cI, aI cap (uZ gct total ((gct (gcu b)) + (fco ((a * 6) + b)))))), (yw, .inl (cJ, aL cap gwt)), (yu, .inl (cI, aI 6 gcu)), (t0, .inr (1, [.int (iI steps), .int (iI choices), .int (iI bars), .ref hs, .ref hc, .ref hf, .ref hg, .ref hb, .ref he, .ref hm])), (hc, .inl (cI, aI 72 fco)), (y0, .inr (2, [.ref t0, .int (iI (total + 1)), .ref ys, .ref yk, .ref yc, .ref yd, .ref yw, .ref yx, .ref yb, .ref yu])), (yb, .inl (cI, aI (6 * cap) gbe))]) 2 0 rfl rfl (by omega) (by omega) (by omega) std_Y_addNode_71 rfl ?_
  refine g_aload_n C 3 std_Y_addNode_72 rfl ?_
  refine g_get C (st_sub sti_Y) 7 rfl rfl 6 (by decide) (List.mem_cons_of_mem _ kw_1_94) rfl rfl std_Y_addNode_73 ?_
  refine g_iload C 0 std_Y_addNode_76 rfl ?_
  refine g_lconst C (z := 0) std_Y_addNode_78 (by decide) ?_
  refine g_last C (ws' := [(ys, .inl (cI, aI 14 gst)), (yk, .inl (cI, aI cap (uZ gk total (gbe (((gcu b) * 6) + b))))), (yc, .inl (cI, aI cap (uZ gct total ((gct (gcu b)) + (fco ((a * 6) + b)))))), (yw, .inl (cJ, aL cap (uZ gwt total 0))), (yu, .inl (cI, aI 6 gcu)), (t0, .inr (1, [.int (iI steps), .int (iI choices), .int (iI bars), .ref hs, .ref hc, .ref hf, .ref hg, .ref hb, .ref he, .ref hm])), (hc, .inl (cI, aI 72 fco)), (y0, .inr (2, [.ref t0, .int (iI (total + 1)), .ref ys, .ref yk, .ref yc, .ref yd, .ref yw, .ref yx, .ref yb, .ref yu])), (yb, .inl (cI, aI (6 * cap) gbe))]) 3 1 rfl rfl (by omega) (by omega) (by omega) std_Y_addNode_79 rfl ?_
  have L80 : ∀ (nn80 : Nat) (CU : Int → Int) (F : Int → Int) (GC : Int → Int) (GW : Int → Int), ANp gbe gct gwt gcu b (fco ((a * 6) + b)) (gst (a + 1)) (gbe ((gcu b * 6) + b)) total CU F GC GW → (gst (a + 1) - CU b) < (nn80 : Int) → G p l e ({ frames := 2, cells := 0, slots := 0, locals := 45 } : Room) s m ([.ref y0, .int (iI a), .int (iI b)] : List Value).toArray below meth c (dC, dI) stCl 7 A 0 0 Q [(y0, .inr (2, [.ref t0, .int (iI (total + 1)), .ref ys, .ref yk, .ref yc, .ref yd, .ref yw, .ref yx, .ref yb, .ref yu])), (ys, .inl (cI, aI 14 gst)), (yk, .inl (cI, aI cap (uZ gk total (gbe (((gcu b) * 6) + b))))), (yc, .inl (cI, aI cap GC)), (yw, .inl (cJ, aL cap GW)), (yb, .inl (cI, aI (6 * cap) F)), (yu, .inl (cI, aI 6 CU)), (t0, .inr (1, [.int (iI steps), .int (iI choices), .int (iI bars), .ref hs, .ref hc, .ref hf, .ref hg, .ref hb, .ref he, .ref hm])), (hc, .inl (cI, aI 72 fco))] 80 [(5, .int (iI total)), (4, .int (iI (fco ((a * 6) + b)))), (3, .int (iI (gbe (((gcu b) * 6) + b)))), (0, .ref y0), (1, .int (iI a)), (2, .int (iI b))] [] := by
    intro nn80
    induction nn80 with
    | zero =>
      intro CU F GC GW kA hnn80
      exact absurd hnn80 (by have h2 := kA.2.1; omega)
    | succ nn80 ih80 =>
      intro CU F GC GW kA hnn80
      have hA2 := kA.2.1
      have hA5 := kA.2.2.2.2.1 ((CU b * 6) + b) (fun i h1 h2 => by omega)
      have hA6 := kA.2.2.2.2.2.1.2.2
      refine g_aload_n C 3 std_Y_addNode_80 rfl ?_
      refine g_get C (st_sub sti_Y) 0 rfl rfl 9 (by decide) (List.mem_cons_of_mem _ kw_1_100) rfl rfl std_Y_addNode_81 ?_
      refine g_iload_n C 5 std_Y_addNode_84 rfl ?_
      refine g_iald C 6 0 rfl rfl (by omega) (by omega) (by omega) std_Y_addNode_85 ?_
      refine g_aload_n C 3 std_Y_addNode_86 rfl ?_
      refine g_get C (st_sub sti_Y) 0 rfl rfl 2 (by decide) (List.mem_cons_of_mem _ kw_1_86) rfl rfl std_Y_addNode_87 ?_
      refine g_iload_n C 4 std_Y_addNode_90 rfl ?_
      refine g_iconst C std_Y_addNode_91 ?_
      refine g_iadd C std_Y_addNode_92 ?_
      refine g_iald C 1 0 rfl rfl (by omega) (by omega) (by omega) std_Y_addNode_93 ?_
      refine g_icmp_ge (tgt := 197) C std_Y_addNode_94 (by decide) ⟨by omega, by omega⟩ ⟨by omega, by omega⟩ (fun c7 => ?_) (fun c7 => ?_)
      · exact hret _ _ (CU, F, GC, GW) (⟨kA, by show gcu b < CU b; omega, fun h => absurd h (by show ¬ CU b < _; omega)⟩) std_Y_addNode_197
      · have hq5 := kbe (CU b) (by omega) (by omega)
        refine g_aload_n C 3 std_Y_addNode_97 rfl ?_
        refine g_aload_n C 3 std_Y_addNode_98 rfl ?_
        refine g_get C (st_sub sti_Y) 0 rfl rfl 9 (by decide) (List.mem_cons_of_mem _ kw_1_100) rfl rfl std_Y_addNode_99 ?_
        refine g_iload_n C 5 std_Y_addNode_102 rfl ?_
        refine g_iald C 6 0 rfl rfl (by omega) (by omega) (by omega) std_Y_addNode_103 ?_
        refine g_iload_n C 5 std_Y_addNode_104 rfl ?_
        refine g_V_i (wc := [(y0, .inr (2, [.ref t0, .int (iI (total + 1)), .ref ys, .ref yk, .ref yc, .ref yd, .ref yw, .ref yx, .ref yb, .ref yu])), (yb, .inl (cI, aI (6 * cap) F))]) (wr := [(ys, .inl (cI, aI 14 gst)), (yk, .inl (cI, aI cap (uZ gk total (gbe (((gcu b) * 6) + b))))), (yc, .inl (cI, aI cap GC)), (yw, .inl (cJ, aL cap GW)), (yu, .inl (cI, aI 6 CU)), (t0, .inr (1, [.int (iI steps), .int (iI choices), .int (iI bars), .ref hs, .ref hc, .ref hf, .ref hg, .ref hb, .ref he, .ref hm])), (hc, .inl (cI, aI 72 fco))]) (rest := []) C (c_nodeBehind l dC dI cI cJ cZ y0 ys yk yc yd yw yx yb yu (total + 1) t0 cap F (CU b) b (kcap) (by omega)) (st_cV C kw_2_101 kw_2_98 kw_1_3 kw_2_99 kw_2_100 sth_Y_nodeBehind ⟨Nat.le_of_ble_eq_true rfl, Nat.le_of_ble_eq_true rfl⟩) 0 rfl rfl rfl rfl (Nat.le_of_ble_eq_true rfl) std_Y_addNode_105 ⟨Nat.le_of_ble_eq_true rfl, Nat.le_of_ble_eq_true rfl⟩ [0, 5] [1, 2, 3, 4, 6, 7, 8] rfl rfl rfl rfl (by decide) (fun r8 u9 h10 => ?_)
        subst h10
        refine g_ws (ws' := [(ys, .inl (cI, aI 14 gst)), (yk, .inl (cI, aI cap (uZ gk total (gbe (((gcu b) * 6) + b))))), (yc, .inl (cI, aI cap GC)), (yw, .inl (cJ, aL cap GW)), (yu, .inl (cI, aI 6 CU)), (t0, .inr (1, [.int (iI steps), .int (iI choices), .int (iI bars), .ref hs, .ref hc, .ref hf, .ref hg, .ref hb, .ref he, .ref hm])), (hc, .inl (cI, aI 72 fco)), (y0, .inr (2, [.ref t0, .int (iI (total + 1)), .ref ys, .ref yk, .ref yc, .ref yd, .ref yw, .ref yx, .ref yb, .ref yu])), (yb, .inl (cI, aI (6 * cap) F))]) rfl ?_
        refine g_iload_n C 2 std_Y_addNode_108 rfl ?_
        refine g_icmp_ne (tgt := 197) C std_Y_addNode_109 (by decide) ⟨by omega, by omega⟩ ⟨by omega, by omega⟩ (fun c11 => ?_) (fun c11 => ?_)
        · refine g_sub (ws' := [(y0, .inr (2, [.ref t0, .int (iI (total + 1)), .ref ys, .ref yk, .ref yc, .ref yd, .ref yw, .ref yx, .ref yb, .ref yu])), (ys, .inl (cI, aI 14 gst)), (yk, .inl (cI, aI cap (uZ gk total (gbe (((gcu b) * 6) + b))))), (yc, .inl (cI, aI cap GC)), (yw, .inl (cJ, aL cap GW)), (yb, .inl (cI, aI (6 * cap) F)), (yu, .inl (cI, aI 6 CU)), (t0, .inr (1, [.int (iI steps), .int (iI choices), .int (iI bars), .ref hs, .ref hc, .ref hf, .ref hg, .ref hb, .ref he, .ref hm])), (hc, .inl (cI, aI 72 fco))]) [7, 0, 1, 2, 3, 8, 4, 5, 6] rfl rfl ?_
          refine g_wide (k := 0) (n := 0) (Nat.le_of_ble_eq_true rfl) (Nat.le_of_ble_eq_true rfl) ?_
          exact hret _ _ (CU, F, GC, GW) (⟨kA, an_gt kA c11, fun _ h => c11 (hA5.trans h)⟩) std_Y_addNode_197
        · have hq6 := kg (CU b) (by omega) (by omega)
          have hq7 := kA.2.2.2.2.2.1.1 (CU b) (by omega)
          refine g_aload_n C 3 std_Y_addNode_112 rfl ?_
          refine g_get C (st_sub sti_Y) 7 rfl rfl 9 (by decide) (List.mem_cons_of_mem _ kw_1_100) rfl rfl std_Y_addNode_113 ?_
          refine g_iload_n C 5 std_Y_addNode_116 rfl ?_
          refine g_iald C 4 0 rfl rfl (by omega) (by omega) (by omega) std_Y_addNode_117 ?_
          refine g_istore C (lv' := [(6, .int (iI (CU b))), (5, .int (iI total)), (4, .int (iI (fco ((a * 6) + b)))), (3, .int (iI (gbe (((gcu b) * 6) + b)))), (0, .ref y0), (1, .int (iI a)), (2, .int (iI b))]) std_Y_addNode_118 (by decide) rfl ?_
          refine g_aload_n C 4 std_Y_addNode_120 rfl ?_
          refine g_get C (st_sub sti_Y) 7 rfl rfl 8 (by decide) (List.mem_cons_of_mem _ kw_1_99) rfl rfl std_Y_addNode_121 ?_
          refine g_iload C 0 std_Y_addNode_124 rfl ?_
          refine g_bipush C std_Y_addNode_126 (by decide) ?_
          refine g_imul C std_Y_addNode_128 ?_
          refine g_iload_n C 6 std_Y_addNode_129 rfl ?_
          refine g_iadd C std_Y_addNode_130 ?_
          refine g_iload C 1 std_Y_addNode_131 rfl ?_
          refine g_iast C (ws' := [(ys, .inl (cI, aI 14 gst)), (yk, .inl (cI, aI cap (uZ gk total (gbe (((gcu b) * 6) + b))))), (yc, .inl (cI, aI cap GC)), (yw, .inl (cJ, aL cap GW)), (yu, .inl (cI, aI 6 CU)), (t0, .inr (1, [.int (iI steps), .int (iI choices), .int (iI bars), .ref hs, .ref hc, .ref hf, .ref hg, .ref hb, .ref he, .ref hm])), (hc, .inl (cI, aI 72 fco)), (y0, .inr (2, [.ref t0, .int (iI (total + 1)), .ref ys, .ref yk, .ref yc, .ref yd, .ref yw, .ref yx, .ref yb, .ref yu])), (yb, .inl (cI, aI (6 * cap) (uZ F (((CU b) * 6) + b) total)))]) 8 0 rfl rfl (by omega) (by omega) (by omega) std_Y_addNode_133 rfl ?_
          refine g_aload_n C 4 std_Y_addNode_134 rfl ?_
          refine g_get C (st_sub sti_Y) 7 rfl rfl 4 (by decide) (List.mem_cons_of_mem _ kw_1_90) rfl rfl std_Y_addNode_135 ?_
          refine g_iload C 1 std_Y_addNode_138 rfl ?_
          refine g_aload_n C 4 std_Y_addNode_140 rfl ?_
          refine g_get C (st_sub sti_Y) 7 rfl rfl 4 (by decide) (List.mem_cons_of_mem _ kw_1_90) rfl rfl std_Y_addNode_141 ?_
          refine g_iload C 1 std_Y_addNode_144 rfl ?_
          refine g_iald C 2 0 rfl rfl (by omega) (by omega) (by omega) std_Y_addNode_146 ?_
          refine g_aload_n C 4 std_Y_addNode_147 rfl ?_
          refine g_get C (st_sub sti_Y) 7 rfl rfl 4 (by decide) (List.mem_cons_of_mem _ kw_1_90) rfl rfl std_Y_addNode_148 ?_
          refine g_iload C 0 std_Y_addNode_151 rfl ?_
          refine g_iald C 2 0 rfl rfl (by omega) (by omega) (by omega) std_Y_addNode_153 ?_
          refine g_iload C 2 std_Y_addNode_154 rfl ?_
          refine g_iadd C std_Y_addNode_156 ?_
          refine g_min C ⟨by omega, by omega⟩ ⟨by omega, by omega⟩ (List.mem_cons_of_mem _ kw_2_44) (List.mem_cons_of_mem _ kw_2_45) (List.mem_cons_of_mem _ kw_1_7) (List.mem_cons_of_mem _ kw_2_46) (Nat.le_of_ble_eq_true rfl) (Nat.le_of_ble_eq_true rfl) (Nat.le_of_ble_eq_true rfl) (Nat.le_of_ble_eq_true rfl) std_Y_addNode_157 ?_
          refine g_iast C (ws' := [(ys, .inl (cI, aI 14 gst)), (yk, .inl (cI, aI cap (uZ gk total (gbe (((gcu b) * 6) + b))))), (yc, .inl (cI, aI cap (uZ GC total (min (GC total) ((GC (CU b)) + (fco ((a * 6) + b))))))), (yw, .inl (cJ, aL cap GW)), (yu, .inl (cI, aI 6 CU)), (t0, .inr (1, [.int (iI steps), .int (iI choices), .int (iI bars), .ref hs, .ref hc, .ref hf, .ref hg, .ref hb, .ref he, .ref hm])), (hc, .inl (cI, aI 72 fco)), (y0, .inr (2, [.ref t0, .int (iI (total + 1)), .ref ys, .ref yk, .ref yc, .ref yd, .ref yw, .ref yx, .ref yb, .ref yu])), (yb, .inl (cI, aI (6 * cap) (uZ F (((CU b) * 6) + b) total)))]) 2 0 rfl rfl (by omega) (by omega) (by omega) std_Y_addNode_160 rfl ?_
          refine g_aload_n C 4 std_Y_addNode_161 rfl ?_
          refine g_get C (st_sub sti_Y) 7 rfl rfl 6 (by decide) (List.mem_cons_of_mem _ kw_1_94) rfl rfl std_Y_addNode_162 ?_
          refine g_iload C 1 std_Y_addNode_165 rfl ?_
          refine g_dup2 C std_Y_addNode_167 rfl rfl ?_
          refine g_lald C 3 1 rfl rfl (by omega) (by omega) (by omega) std_Y_addNode_168 ?_
          refine g_aload_n C 4 std_Y_addNode_169 rfl ?_
          refine g_get C (st_sub sti_Y) 7 rfl rfl 6 (by decide) (List.mem_cons_of_mem _ kw_1_94) rfl rfl std_Y_addNode_170 ?_
          refine g_iload C 0 std_Y_addNode_173 rfl ?_
          refine g_lald C 3 1 rfl rfl (by omega) (by omega) (by omega) std_Y_addNode_175 ?_
          refine g_ladd C std_Y_addNode_176 ?_
          refine g_last C (ws' := [(ys, .inl (cI, aI 14 gst)), (yk, .inl (cI, aI cap (uZ gk total (gbe (((gcu b) * 6) + b))))), (yc, .inl (cI, aI cap (uZ GC total (min (GC total) ((GC (CU b)) + (fco ((a * 6) + b))))))), (yw, .inl (cJ, aL cap (uZ GW total ((GW total) + (GW (CU b)))))), (yu, .inl (cI, aI 6 CU)), (t0, .inr (1, [.int (iI steps), .int (iI choices), .int (iI bars), .ref hs, .ref hc, .ref hf, .ref hg, .ref hb, .ref he, .ref hm])), (hc, .inl (cI, aI 72 fco)), (y0, .inr (2, [.ref t0, .int (iI (total + 1)), .ref ys, .ref yk, .ref yc, .ref yd, .ref yw, .ref yx, .ref yb, .ref yu])), (yb, .inl (cI, aI (6 * cap) (uZ F (((CU b) * 6) + b) total)))]) 3 1 rfl rfl (by omega) (by omega) (by omega) std_Y_addNode_177 rfl ?_
          refine g_aload_n C 4 std_Y_addNode_178 rfl ?_
          refine g_get C (st_sub sti_Y) 7 rfl rfl 9 (by decide) (List.mem_cons_of_mem _ kw_1_100) rfl rfl std_Y_addNode_179 ?_
          refine g_iload_n C 6 std_Y_addNode_182 rfl ?_
          refine g_iload C 0 std_Y_addNode_183 rfl ?_
          refine g_iconst C std_Y_addNode_185 ?_
          refine g_iadd C std_Y_addNode_186 ?_
          refine g_iast C (ws' := [(ys, .inl (cI, aI 14 gst)), (yk, .inl (cI, aI cap (uZ gk total (gbe (((gcu b) * 6) + b))))), (yc, .inl (cI, aI cap (uZ GC total (min (GC total) ((GC (CU b)) + (fco ((a * 6) + b))))))), (yw, .inl (cJ, aL cap (uZ GW total ((GW total) + (GW (CU b)))))), (yu, .inl (cI, aI 6 (uZ CU b ((CU b) + 1)))), (t0, .inr (1, [.int (iI steps), .int (iI choices), .int (iI bars), .ref hs, .ref hc, .ref hf, .ref hg, .ref hb, .ref he, .ref hm])), (hc, .inl (cI, aI 72 fco)), (y0, .inr (2, [.ref t0, .int (iI (total + 1)), .ref ys, .ref yk, .ref yc, .ref yd, .ref yw, .ref yx, .ref yb, .ref yu])), (yb, .inl (cI, aI (6 * cap) (uZ F (((CU b) * 6) + b) total)))]) 4 0 rfl rfl (by omega) (by omega) (by omega) std_Y_addNode_187 rfl ?_
          refine g_aload_n C 4 std_Y_addNode_188 rfl ?_
          refine g_iload_n C 5 std_Y_addNode_189 rfl ?_
          refine g_iload_n C 6 std_Y_addNode_190 rfl ?_
          refine g_V_v (wc := [(y0, .inr (2, [.ref t0, .int (iI (total + 1)), .ref ys, .ref yk, .ref yc, .ref yd, .ref yw, .ref yx, .ref yb, .ref yu])), (ys, .inl (cI, aI 14 gst)), (yb, .inl (cI, aI (6 * cap) (uZ F (((CU b) * 6) + b) total))), (yu, .inl (cI, aI 6 (uZ CU b ((CU b) + 1))))]) (wr := [(yk, .inl (cI, aI cap (uZ gk total (gbe (((gcu b) * 6) + b))))), (yc, .inl (cI, aI cap (uZ GC total (min (GC total) ((GC (CU b)) + (fco ((a * 6) + b))))))), (yw, .inl (cJ, aL cap (uZ GW total ((GW total) + (GW (CU b)))))), (t0, .inr (1, [.int (iI steps), .int (iI choices), .int (iI bars), .ref hs, .ref hc, .ref hf, .ref hg, .ref hb, .ref he, .ref hm])), (hc, .inl (cI, aI 72 fco))]) (rest := []) C (c_skipUnfollowed l dC dI cI cJ cZ y0 ys yk yc yd yw yx yb yu (total + 1) t0 cap gst (uZ F (((CU b) * 6) + b) total) (uZ CU b ((CU b) + 1)) a b (kcap) (kgst) (by omega) (by omega) (by rw [uZ_s]; omega) (an_be kA kbe)) (st_cV C kw_2_97 kw_2_94 kw_1_3 kw_2_96 kw_0_3 sth_Y_skipUnfollowed ⟨Nat.le_of_ble_eq_true rfl, Nat.le_of_ble_eq_true rfl⟩) 0 rfl rfl rfl rfl (Nat.le_of_ble_eq_true rfl) std_Y_addNode_191 ⟨Nat.le_of_ble_eq_true rfl, Nat.le_of_ble_eq_true rfl⟩ [7, 0, 8, 4] [1, 2, 3, 5, 6] rfl rfl rfl rfl (by decide) (fun u13 h14 => ?_)
          refine g_ws (ws' := [(yk, .inl (cI, aI cap (uZ gk total (gbe (((gcu b) * 6) + b))))), (yc, .inl (cI, aI cap (uZ GC total (min (GC total) ((GC (CU b)) + (fco ((a * 6) + b))))))), (yw, .inl (cJ, aL cap (uZ GW total ((GW total) + (GW (CU b)))))), (t0, .inr (1, [.int (iI steps), .int (iI choices), .int (iI bars), .ref hs, .ref hc, .ref hf, .ref hg, .ref hb, .ref he, .ref hm])), (hc, .inl (cI, aI 72 fco)), (y0, .inr (2, [.ref t0, .int (iI (total + 1)), .ref ys, .ref yk, .ref yc, .ref yd, .ref yw, .ref yx, .ref yb, .ref yu])), (ys, .inl (cI, aI 14 gst)), (yb, .inl (cI, aI (6 * cap) (uZ F (((CU b) * 6) + b) total))), (yu, .inl (cI, aI 6 u13))]) rfl ?_
          refine g_goto (tgt := 80) C std_Y_addNode_194 (by decide) ?_
          refine g_sub (ws' := [(y0, .inr (2, [.ref t0, .int (iI (total + 1)), .ref ys, .ref yk, .ref yc, .ref yd, .ref yw, .ref yx, .ref yb, .ref yu])), (ys, .inl (cI, aI 14 gst)), (yk, .inl (cI, aI cap (uZ gk total (gbe (((gcu b) * 6) + b))))), (yc, .inl (cI, aI cap (uZ GC total (min (GC total) ((GC (CU b)) + (fco ((a * 6) + b))))))), (yw, .inl (cJ, aL cap (uZ GW total ((GW total) + (GW (CU b)))))), (yb, .inl (cI, aI (6 * cap) (uZ F (((CU b) * 6) + b) total))), (yu, .inl (cI, aI 6 u13)), (t0, .inr (1, [.int (iI steps), .int (iI choices), .int (iI bars), .ref hs, .ref hc, .ref hf, .ref hg, .ref hb, .ref he, .ref hm])), (hc, .inl (cI, aI 72 fco))]) [5, 6, 0, 1, 2, 7, 8, 3, 4] rfl rfl ?_
          refine g_lv (lv' := [(5, .int (iI total)), (4, .int (iI (fco ((a * 6) + b)))), (3, .int (iI (gbe (((gcu b) * 6) + b)))), (0, .ref y0), (1, .int (iI a)), (2, .int (iI b))]) [1, 2, 3, 4, 5, 6] rfl ?_
          refine g_wide (k := 0) (n := 0) (Nat.le_of_ble_eq_true rfl) (Nat.le_of_ble_eq_true rfl) ?_
          exact ih80 u13 (uZ F (((CU b) * 6) + b) total) (uZ GC total (min (GC total) ((GC (CU b)) + (fco ((a * 6) + b))))) (uZ GW total ((GW total) + (GW (CU b)))) (an_step kA (by omega) (by omega) (by omega) (by omega) (by omega) h14.1 h14.2.1 h14.2.2.1 h14.2.2.2) (by have hz := h14.2.1; rw [uZ_s] at hz; omega)
  refine g_sub (ws' := [(y0, .inr (2, [.ref t0, .int (iI (total + 1)), .ref ys, .ref yk, .ref yc, .ref yd, .ref yw, .ref yx, .ref yb, .ref yu])), (ys, .inl (cI, aI 14 gst)), (yk, .inl (cI, aI cap (uZ gk total (gbe (((gcu b) * 6) + b))))), (yc, .inl (cI, aI cap (uZ gct total ((gct (gcu b)) + (fco ((a * 6) + b)))))), (yw, .inl (cJ, aL cap (uZ gwt total 0))), (yb, .inl (cI, aI (6 * cap) gbe)), (yu, .inl (cI, aI 6 gcu)), (t0, .inr (1, [.int (iI steps), .int (iI choices), .int (iI bars), .ref hs, .ref hc, .ref hf, .ref hg, .ref hb, .ref he, .ref hm])), (hc, .inl (cI, aI 72 fco))]) [7, 0, 1, 2, 3, 8, 4, 5, 6] rfl rfl ?_
  refine g_wide (k := 0) (n := 0) (Nat.le_of_ble_eq_true rfl) (Nat.le_of_ble_eq_true rfl) ?_
  obtain ⟨nn0, hnn0⟩ : ∃ nn0 : Nat, (gst (a + 1) - gcu b) < (nn0 : Int) := z_nat _
  exact L80 nn0 gcu gbe (uZ gct total ((gct (gcu b)) + (fco ((a * 6) + b)))) (uZ gwt total 0) (an_0 (by omega) (by omega) (by omega)) hnn0

