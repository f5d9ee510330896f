/-! Layers: loops -/
abbrev sty_Y_findKeysBehind : MethodName := ⟨"StateTables$Layers", "findKeysBehind", "(II)V"⟩
abbrev stc_Y_findKeysBehind : ByteArray := prog_3_method_10_code
theorem sth_Y_findKeysBehind : (sty_Y_findKeysBehind).cls ≠ "java/lang/invoke/MethodHandle" ∧ (sty_Y_findKeysBehind).cls ≠ "java/lang/invoke/VarHandle" ∧ (parseMethodDescriptor (sty_Y_findKeysBehind).desc).map (fun d => d.parameters.length) = some 2 := by decide +kernel
theorem std_Y_findKeysBehind_0 : decode stc_Y_findKeysBehind 0 = .ok (.iload_n 1, 1) := by decide +kernel
theorem std_Y_findKeysBehind_1 : decode stc_Y_findKeysBehind 1 = .ok (.iload_n 2, 1) := by decide +kernel
theorem std_Y_findKeysBehind_2 : decode stc_Y_findKeysBehind 2 = .ok (.invokestatic 104, 3) := by decide +kernel
theorem std_Y_findKeysBehind_5 : decode stc_Y_findKeysBehind 5 = .ok (.istore_n 3, 1) := by decide +kernel
theorem std_Y_findKeysBehind_6 : decode stc_Y_findKeysBehind 6 = .ok (.aload_n 0, 1) := by decide +kernel
theorem std_Y_findKeysBehind_7 : decode stc_Y_findKeysBehind 7 = .ok (.getfield 9, 3) := by decide +kernel
theorem std_Y_findKeysBehind_10 : decode stc_Y_findKeysBehind 10 = .ok (.iload_n 1, 1) := by decide +kernel
theorem std_Y_findKeysBehind_11 : decode stc_Y_findKeysBehind 11 = .ok (.iaload, 1) := by decide +kernel
theorem std_Y_findKeysBehind_12 : decode stc_Y_findKeysBehind 12 = .ok (.istore 4, 2) := by decide +kernel
theorem std_Y_findKeysBehind_14 : decode stc_Y_findKeysBehind 14 = .ok (.iload 4, 2) := by decide +kernel
theorem std_Y_findKeysBehind_16 : decode stc_Y_findKeysBehind 16 = .ok (.aload_n 0, 1) := by decide +kernel
theorem std_Y_findKeysBehind_17 : decode stc_Y_findKeysBehind 17 = .ok (.getfield 9, 3) := by decide +kernel
theorem std_Y_findKeysBehind_20 : decode stc_Y_findKeysBehind 20 = .ok (.iload_n 1, 1) := by decide +kernel
theorem std_Y_findKeysBehind_21 : decode stc_Y_findKeysBehind 21 = .ok (.iconst 1, 1) := by decide +kernel
theorem std_Y_findKeysBehind_22 : decode stc_Y_findKeysBehind 22 = .ok (.iadd, 1) := by decide +kernel
theorem std_Y_findKeysBehind_23 : decode stc_Y_findKeysBehind 23 = .ok (.iaload, 1) := by decide +kernel
theorem std_Y_findKeysBehind_24 : decode stc_Y_findKeysBehind 24 = .ok (.if_icmp .ge 150, 3) := by decide +kernel
theorem std_Y_findKeysBehind_174 : decode stc_Y_findKeysBehind 174 = .ok (.return_, 1) := by decide +kernel
theorem std_Y_findKeysBehind_27 : decode stc_Y_findKeysBehind 27 = .ok (.aload_n 0, 1) := by decide +kernel
theorem std_Y_findKeysBehind_28 : decode stc_Y_findKeysBehind 28 = .ok (.getfield 15, 3) := by decide +kernel
theorem std_Y_findKeysBehind_31 : decode stc_Y_findKeysBehind 31 = .ok (.iload 4, 2) := by decide +kernel
theorem std_Y_findKeysBehind_33 : decode stc_Y_findKeysBehind 33 = .ok (.iaload, 1) := by decide +kernel
theorem std_Y_findKeysBehind_34 : decode stc_Y_findKeysBehind 34 = .ok (.invokestatic 107, 3) := by decide +kernel
theorem std_Y_findKeysBehind_37 : decode stc_Y_findKeysBehind 37 = .ok (.istore 5, 2) := by decide +kernel
theorem std_Y_findKeysBehind_39 : decode stc_Y_findKeysBehind 39 = .ok (.aload_n 0, 1) := by decide +kernel
theorem std_Y_findKeysBehind_40 : decode stc_Y_findKeysBehind 40 = .ok (.getfield 15, 3) := by decide +kernel
theorem std_Y_findKeysBehind_43 : decode stc_Y_findKeysBehind 43 = .ok (.iload 4, 2) := by decide +kernel
theorem std_Y_findKeysBehind_45 : decode stc_Y_findKeysBehind 45 = .ok (.iaload, 1) := by decide +kernel
theorem std_Y_findKeysBehind_46 : decode stc_Y_findKeysBehind 46 = .ok (.invokestatic 110, 3) := by decide +kernel
theorem std_Y_findKeysBehind_49 : decode stc_Y_findKeysBehind 49 = .ok (.aload_n 0, 1) := by decide +kernel
theorem std_Y_findKeysBehind_50 : decode stc_Y_findKeysBehind 50 = .ok (.getfield 37, 3) := by decide +kernel
theorem std_Y_findKeysBehind_53 : decode stc_Y_findKeysBehind 53 = .ok (.getfield 113, 3) := by decide +kernel
theorem kw_1_43 : Cond.fieldLink "StateTables$Layers" 113 "StateTables$Told" "firstUses" "[I" ∈ stGW := st_t1 (List.mem_of_getElem? (i := 43) (by decide +kernel)) (by decide +kernel)
theorem std_Y_findKeysBehind_56 : decode stc_Y_findKeysBehind 56 = .ok (.iload_n 3, 1) := by decide +kernel
theorem std_Y_findKeysBehind_57 : decode stc_Y_findKeysBehind 57 = .ok (.iaload, 1) := by decide +kernel
theorem std_Y_findKeysBehind_58 : decode stc_Y_findKeysBehind 58 = .ok (.iadd, 1) := by decide +kernel
theorem std_Y_findKeysBehind_59 : decode stc_Y_findKeysBehind 59 = .ok (.istore 6, 2) := by decide +kernel
theorem std_Y_findKeysBehind_61 : decode stc_Y_findKeysBehind 61 = .ok (.aload_n 0, 1) := by decide +kernel
theorem std_Y_findKeysBehind_62 : decode stc_Y_findKeysBehind 62 = .ok (.getfield 15, 3) := by decide +kernel
theorem std_Y_findKeysBehind_65 : decode stc_Y_findKeysBehind 65 = .ok (.iload 4, 2) := by decide +kernel
theorem std_Y_findKeysBehind_67 : decode stc_Y_findKeysBehind 67 = .ok (.iaload, 1) := by decide +kernel
theorem std_Y_findKeysBehind_68 : decode stc_Y_findKeysBehind 68 = .ok (.invokestatic 116, 3) := by decide +kernel
theorem std_Y_findKeysBehind_71 : decode stc_Y_findKeysBehind 71 = .ok (.aload_n 0, 1) := by decide +kernel
theorem std_Y_findKeysBehind_72 : decode stc_Y_findKeysBehind 72 = .ok (.getfield 37, 3) := by decide +kernel
theorem std_Y_findKeysBehind_75 : decode stc_Y_findKeysBehind 75 = .ok (.getfield 119, 3) := by decide +kernel
theorem kw_1_46 : Cond.fieldLink "StateTables$Layers" 119 "StateTables$Told" "secondUses" "[I" ∈ stGW := st_t1 (List.mem_of_getElem? (i := 46) (by decide +kernel)) (by decide +kernel)
theorem std_Y_findKeysBehind_78 : decode stc_Y_findKeysBehind 78 = .ok (.iload_n 3, 1) := by decide +kernel
theorem std_Y_findKeysBehind_79 : decode stc_Y_findKeysBehind 79 = .ok (.iaload, 1) := by decide +kernel
theorem std_Y_findKeysBehind_80 : decode stc_Y_findKeysBehind 80 = .ok (.iadd, 1) := by decide +kernel
theorem std_Y_findKeysBehind_81 : decode stc_Y_findKeysBehind 81 = .ok (.istore 7, 2) := by decide +kernel
theorem std_Y_findKeysBehind_83 : decode stc_Y_findKeysBehind 83 = .ok (.iload 5, 2) := by decide +kernel
theorem std_Y_findKeysBehind_85 : decode stc_Y_findKeysBehind 85 = .ok (.ifCond .lt 25, 3) := by decide +kernel
theorem std_Y_findKeysBehind_110 : decode stc_Y_findKeysBehind 110 = .ok (.iconst 0, 1) := by decide +kernel
theorem std_Y_findKeysBehind_111 : decode stc_Y_findKeysBehind 111 = .ok (.istore 8, 2) := by decide +kernel
theorem std_Y_findKeysBehind_113 : decode stc_Y_findKeysBehind 113 = .ok (.iload 8, 2) := by decide +kernel
theorem std_Y_findKeysBehind_115 : decode stc_Y_findKeysBehind 115 = .ok (.ifCond .ne 21, 3) := by decide +kernel
theorem std_Y_findKeysBehind_118 : decode stc_Y_findKeysBehind 118 = .ok (.aload_n 0, 1) := by decide +kernel
theorem std_Y_findKeysBehind_119 : decode stc_Y_findKeysBehind 119 = .ok (.getfield 37, 3) := by decide +kernel
theorem std_Y_findKeysBehind_122 : decode stc_Y_findKeysBehind 122 = .ok (.iload 6, 2) := by decide +kernel
theorem std_Y_findKeysBehind_124 : decode stc_Y_findKeysBehind 124 = .ok (.iload 7, 2) := by decide +kernel
theorem std_Y_findKeysBehind_126 : decode stc_Y_findKeysBehind 126 = .ok (.invokevirtual 125, 3) := by decide +kernel
theorem kw_2_93 : Cond.code sty_T_isWithinMost stc_T_isWithinMost 3 (some .boolean) ∈ stGW := st_t2 (List.mem_of_getElem? (i := 93) (by decide +kernel)) (by decide +kernel)
theorem kw_2_90 : Cond.methodLink "StateTables$Layers" 125 (sty_T_isWithinMost) ∈ stGW := st_t2 (List.mem_of_getElem? (i := 90) (by decide +kernel)) (by decide +kernel)
theorem kw_2_91 : Cond.instanceMethod (sty_T_isWithinMost) ∈ stGW := st_t2 (List.mem_of_getElem? (i := 91) (by decide +kernel)) (by decide +kernel)
theorem kw_2_92 : Cond.selects "StateTables$Told" (sty_T_isWithinMost) (sty_T_isWithinMost) ∈ stGW := st_t2 (List.mem_of_getElem? (i := 92) (by decide +kernel)) (by decide +kernel)
theorem std_Y_findKeysBehind_129 : decode stc_Y_findKeysBehind 129 = .ok (.ifCond .eq 7, 3) := by decide +kernel
theorem std_Y_findKeysBehind_136 : decode stc_Y_findKeysBehind 136 = .ok (.iconst 0, 1) := by decide +kernel
theorem std_Y_findKeysBehind_137 : decode stc_Y_findKeysBehind 137 = .ok (.istore 9, 2) := by decide +kernel
theorem std_Y_findKeysBehind_139 : decode stc_Y_findKeysBehind 139 = .ok (.aload_n 0, 1) := by decide +kernel
theorem std_Y_findKeysBehind_140 : decode stc_Y_findKeysBehind 140 = .ok (.getfield 31, 3) := by decide +kernel
theorem std_Y_findKeysBehind_143 : decode stc_Y_findKeysBehind 143 = .ok (.iload 4, 2) := by decide +kernel
theorem std_Y_findKeysBehind_145 : decode stc_Y_findKeysBehind 145 = .ok (.bipush 6, 2) := by decide +kernel
theorem std_Y_findKeysBehind_147 : decode stc_Y_findKeysBehind 147 = .ok (.imul, 1) := by decide +kernel
theorem std_Y_findKeysBehind_148 : decode stc_Y_findKeysBehind 148 = .ok (.iload_n 2, 1) := by decide +kernel
theorem std_Y_findKeysBehind_149 : decode stc_Y_findKeysBehind 149 = .ok (.iadd, 1) := by decide +kernel
theorem std_Y_findKeysBehind_150 : decode stc_Y_findKeysBehind 150 = .ok (.iload 9, 2) := by decide +kernel
theorem std_Y_findKeysBehind_152 : decode stc_Y_findKeysBehind 152 = .ok (.ifCond .eq 14, 3) := by decide +kernel
theorem std_Y_findKeysBehind_166 : decode stc_Y_findKeysBehind 166 = .ok (.iconst (-1), 1) := by decide +kernel
theorem std_Y_findKeysBehind_167 : decode stc_Y_findKeysBehind 167 = .ok (.iastore, 1) := by decide +kernel
theorem std_Y_findKeysBehind_168 : decode stc_Y_findKeysBehind 168 = .ok (.iinc 4 1, 3) := by decide +kernel
theorem std_Y_findKeysBehind_171 : decode stc_Y_findKeysBehind 171 = .ok (.goto (-157), 3) := by decide +kernel
theorem std_Y_findKeysBehind_132 : decode stc_Y_findKeysBehind 132 = .ok (.iconst 1, 1) := by decide +kernel
theorem std_Y_findKeysBehind_133 : decode stc_Y_findKeysBehind 133 = .ok (.goto 4, 3) := by decide +kernel
theorem std_Y_findKeysBehind_155 : decode stc_Y_findKeysBehind 155 = .ok (.iload 6, 2) := by decide +kernel
theorem std_Y_findKeysBehind_157 : decode stc_Y_findKeysBehind 157 = .ok (.iload 7, 2) := by decide +kernel
theorem std_Y_findKeysBehind_159 : decode stc_Y_findKeysBehind 159 = .ok (.iload_n 2, 1) := by decide +kernel
theorem std_Y_findKeysBehind_160 : decode stc_Y_findKeysBehind 160 = .ok (.invokestatic 56, 3) := by decide +kernel
theorem kw_2_35 : Cond.code sty_S_keyOf stc_S_keyOf 3 (some .int) ∈ stGW := st_t2 (List.mem_of_getElem? (i := 35) (by decide +kernel)) (by decide +kernel)
theorem kw_2_34 : Cond.static (sty_S_keyOf) ∈ stGW := st_t2 (List.mem_of_getElem? (i := 34) (by decide +kernel)) (by decide +kernel)
theorem std_Y_findKeysBehind_163 : decode stc_Y_findKeysBehind 163 = .ok (.goto 4, 3) := by decide +kernel
theorem std_Y_findKeysBehind_88 : decode stc_Y_findKeysBehind 88 = .ok (.aload_n 0, 1) := by decide +kernel
theorem std_Y_findKeysBehind_89 : decode stc_Y_findKeysBehind 89 = .ok (.getfield 37, 3) := by decide +kernel
theorem std_Y_findKeysBehind_92 : decode stc_Y_findKeysBehind 92 = .ok (.getfield 122, 3) := by decide +kernel
theorem kw_1_49 : Cond.fieldLink "StateTables$Layers" 122 "StateTables$Told" "barredBehind" "[I" ∈ stGW := st_t1 (List.mem_of_getElem? (i := 49) (by decide +kernel)) (by decide +kernel)
theorem std_Y_findKeysBehind_95 : decode stc_Y_findKeysBehind 95 = .ok (.iload_n 3, 1) := by decide +kernel
theorem std_Y_findKeysBehind_96 : decode stc_Y_findKeysBehind 96 = .ok (.iaload, 1) := by decide +kernel
theorem std_Y_findKeysBehind_97 : decode stc_Y_findKeysBehind 97 = .ok (.iload 5, 2) := by decide +kernel
theorem std_Y_findKeysBehind_99 : decode stc_Y_findKeysBehind 99 = .ok (.ishr, 1) := by decide +kernel
theorem std_Y_findKeysBehind_100 : decode stc_Y_findKeysBehind 100 = .ok (.iconst 1, 1) := by decide +kernel
theorem std_Y_findKeysBehind_101 : decode stc_Y_findKeysBehind 101 = .ok (.iand, 1) := by decide +kernel
theorem std_Y_findKeysBehind_102 : decode stc_Y_findKeysBehind 102 = .ok (.iconst 1, 1) := by decide +kernel
theorem std_Y_findKeysBehind_103 : decode stc_Y_findKeysBehind 103 = .ok (.if_icmp .ne 7, 3) := by decide +kernel
theorem std_Y_findKeysBehind_106 : decode stc_Y_findKeysBehind 106 = .ok (.iconst 1, 1) := by decide +kernel
theorem std_Y_findKeysBehind_107 : decode stc_Y_findKeysBehind 107 = .ok (.goto 4, 3) := by decide +kernel
set_option maxHeartbeats 4000000 in
set_option maxRecDepth 100000 in
theorem c_findKeysBehind (l : Launch) (dC : Nat → ClassId) (dI : Nat → Nat → Nat) (cI cJ cZ : ClassId) (y0 : Nat) (ys : Nat) (yk : Nat) (yc : Nat) (yd : Nat) (yw : Nat) (yx : Nat) (yb : Nat) (yu : Nat) (total : Int) (t0 : Nat) (hs : Nat) (hc : Nat) (hf : Nat) (hg : Nat) (hb : Nat) (he : Nat) (hm : Nat) (steps : Int) (choices : Int) (bars : Int) (cap : Nat) (gst : Int → Int) (gk : Int → Int) (gbe : Int → Int) (ffu : Int → Int) (fsu : Int → Int) (fbb : Int → Int) (fmo : Int → Int) (a : Int) (b : Int) (kcap : cap ≤ 4801) (kgst : ∀ j, 0 ≤ j → j < 14 → 0 ≤ gst j ∧ gst j ≤ cap) (kmo : ∀ j, 0 ≤ j → j < 2 → 0 ≤ fmo j ∧ fmo j ≤ 40) (ka : 0 ≤ a ∧ a < 12) (kb : 0 ≤ b ∧ b < 6) (ks : gst a ≤ gst (a + 1)) (kk : ∀ i, gst a ≤ i → i < gst (a + 1) → 0 ≤ gk i ∧ gk i < 32768 ∧ gk i / 512 ≤ 40 ∧ gk i / 8 % 64 ≤ 40 ∧ gk i % 8 ≤ 6) (ku : ∀ j, 0 ≤ j → j < 72 → (0 ≤ ffu j ∧ ffu j ≤ 20) ∧ (0 ≤ fsu j ∧ fsu j ≤ 20) ∧ 0 ≤ fbb j ∧ fbb j < 64) : ∀ sz, Met l sty_Y_findKeysBehind (Cond.code sty_Y_findKeysBehind stc_Y_findKeysBehind 10 none :: stGW) ({ frames := 1, cells := 0, slots := 0, locals := 22 } : Room) (va_Pc [.ref y0, .int (iI a), .int (iI b)] (zPre (dC, dI) stCl [(cI, .int), (cJ, .long), (cZ, .boolean)] st_nw [(y0, .inr (2, [.ref t0, .int (iI total), .ref ys, .ref yk, .ref yc, .ref yd, .ref yw, .ref yx, .ref yb, .ref yu])), (ys, .inl (cI, aI 14 gst)), (yk, .inl (cI, aI cap gk)), (yb, .inl (cI, aI (6 * cap) gbe)), (t0, .inr (1, [.int (iI steps), .int (iI choices), .int (iI bars), .ref hs, .ref hc, .ref hf, .ref hg, .ref hb, .ref he, .ref hm])), (hf, .inl (cI, aI 72 ffu)), (hg, .inl (cI, aI 72 fsu)), (hb, .inl (cI, aI 72 fbb)), (hm, .inl (cI, aI 2 fmo))] sz)) (va_Qv (fun (F : Int → Int) => (∀ i, gst a ≤ i → i < gst (a + 1) → F ((i * 6) + b) = kn fbb ffu fsu fmo ((a * 6) + b) b (gk i)) ∧ (∀ j, (∀ i, gst a ≤ i → i < gst (a + 1) → ¬ j = (i * 6) + b) → F j = gbe j)) (zPost (dC, dI) stCl [(cI, .int), (cJ, .long), (cZ, .boolean)] [(y0, .inr (2, [.ref t0, .int (iI total), .ref ys, .ref yk, .ref yc, .ref yd, .ref yw, .ref yx, .ref yb, .ref yu])), (ys, .inl (cI, aI 14 gst)), (yk, .inl (cI, aI cap gk)), (yb, .inl (cI, aI (6 * cap) gbe)), (t0, .inr (1, [.int (iI steps), .int (iI choices), .int (iI bars), .ref hs, .ref hc, .ref hf, .ref hg, .ref hb, .ref he, .ref hm])), (hf, .inl (cI, aI 72 ffu)), (hg, .inl (cI, aI 72 fsu)), (hb, .inl (cI, aI 72 fbb)), (hm, .inl (cI, aI 2 fmo))] sz (fun F : Int → Int => [(y0, .inr (2, [.ref t0, .int (iI total), .ref ys, .ref yk, .ref yc, .ref yd, .ref yw, .ref yx, .ref yb, .ref yu])), (ys, .inl (cI, aI 14 gst)), (yk, .inl (cI, aI cap gk)), (yb, .inl (cI, aI (6 * cap) F)), (t0, .inr (1, [.int (iI steps), .int (iI choices), .int (iI bars), .ref hs, .ref hc, .ref hf, .ref hg, .ref hb, .ref he, .ref hm])), (hf, .inl (cI, aI 72 ffu)), (hg, .inl (cI, aI 72 fsu)), (hb, .inl (cI, aI 72 fbb)), (hm, .inl (cI, aI 2 fmo))])) (va_A [(y0, .inr (2, [.ref t0, .int (iI total), .ref ys, .ref yk, .ref yc, .ref yd, .ref yw, .ref yx, .ref yb, .ref yu])), (ys, .inl (cI, aI 14 gst)), (yk, .inl (cI, aI cap gk)), (yb, .inl (cI, aI (6 * cap) gbe)), (t0, .inr (1, [.int (iI steps), .int (iI choices), .int (iI bars), .ref hs, .ref hc, .ref hf, .ref hg, .ref hb, .ref he, .ref hm])), (hf, .inl (cI, aI 72 ffu)), (hg, .inl (cI, aI 72 fsu)), (hb, .inl (cI, aI 72 fbb)), (hm, .inl (cI, aI 2 fmo))] sz)) 0 0 (va_A [(y0, .inr (2, [.ref t0, .int (iI total), .ref ys, .ref yk, .ref yc, .ref yd, .ref yw, .ref yx, .ref yb, .ref yu])), (ys, .inl (cI, aI 14 gst)), (yk, .inl (cI, aI cap gk)), (yb, .inl (cI, aI (6 * cap) gbe)), (t0, .inr (1, [.int (iI steps), .int (iI choices), .int (iI bars), .ref hs, .ref hc, .ref hf, .ref hg, .ref hb, .ref he, .ref hm])), (hf, .inl (cI, aI 72 ffu)), (hg, .inl (cI, aI 72 fsu)), (hb, .inl (cI, aI 72 fbb)), (hm, .inl (cI, aI 2 fmo))] sz) := by
  refine met_v (by decide) rfl (Nat.le_of_ble_eq_true rfl) ?_
  intro p e s m below meth c A Q C hmn hret
  have hq0 := kgst a (by omega) (by omega)
  have hq1 := kgst (a + 1) (by omega) (by omega)
  have hq2 := ku ((a * 6) + b) (by omega) (by omega)
  have hq3 := kmo 0 (by omega) (by omega)
  have hq4 := kmo 1 (by omega) (by omega)
  refine g_iload_n C 1 std_Y_findKeysBehind_0 rfl ?_
  refine g_iload_n C 2 std_Y_findKeysBehind_1 rfl ?_
  refine g_SN_i (wc := []) (wr := [(y0, .inr (2, [.ref t0, .int (iI total), .ref ys, .ref yk, .ref yc, .ref yd, .ref yw, .ref yx, .ref yb, .ref yu])), (ys, .inl (cI, aI 14 gst)), (yk, .inl (cI, aI cap gk)), (yb, .inl (cI, aI (6 * cap) gbe)), (t0, .inr (1, [.int (iI steps), .int (iI choices), .int (iI bars), .ref hs, .ref hc, .ref hf, .ref hg, .ref hb, .ref he, .ref hm])), (hf, .inl (cI, aI 72 ffu)), (hg, .inl (cI, aI 72 fsu)), (hb, .inl (cI, aI 72 fbb)), (hm, .inl (cI, aI 2 fmo))]) (rest := []) C (c_placeOf l dC dI cI cJ cZ a b ) (st_cSN C kw_1_235 (List.mem_of_getElem? (i := 3) rfl) kw_1_1 kw_1_234 sth_S_placeOf ⟨Nat.le_of_ble_eq_true rfl, Nat.le_of_ble_eq_true rfl⟩) rfl rfl (Nat.le_of_ble_eq_true rfl) std_Y_findKeysBehind_2 ⟨Nat.le_of_ble_eq_true rfl, Nat.le_of_ble_eq_true rfl⟩ [] [0, 1, 2, 3, 4, 5, 6, 7, 8] rfl rfl rfl rfl (by decide) (fun r1 u2 h3 => ?_)
  subst h3
  refine g_ws (ws' := [(y0, .inr (2, [.ref t0, .int (iI total), .ref ys, .ref yk, .ref yc, .ref yd, .ref yw, .ref yx, .ref yb, .ref yu])), (ys, .inl (cI, aI 14 gst)), (yk, .inl (cI, aI cap gk)), (yb, .inl (cI, aI (6 * cap) gbe)), (t0, .inr (1, [.int (iI steps), .int (iI choices), .int (iI bars), .ref hs, .ref hc, .ref hf, .ref hg, .ref hb, .ref he, .ref hm])), (hf, .inl (cI, aI 72 ffu)), (hg, .inl (cI, aI 72 fsu)), (hb, .inl (cI, aI 72 fbb)), (hm, .inl (cI, aI 2 fmo))]) rfl ?_
  refine g_istore_n C (lv' := [(3, .int (iI ((a * 6) + b))), (0, .ref y0), (1, .int (iI a)), (2, .int (iI b))]) std_Y_findKeysBehind_5 (by decide) rfl ?_
  refine g_aload_n C 1 std_Y_findKeysBehind_6 rfl ?_
  refine g_get C (st_sub sti_Y) 0 rfl rfl 2 (by decide) (List.mem_cons_of_mem _ kw_1_86) rfl rfl std_Y_findKeysBehind_7 ?_
  refine g_iload_n C 2 std_Y_findKeysBehind_10 rfl ?_
  refine g_iald C 1 0 rfl rfl (by omega) (by omega) (by omega) std_Y_findKeysBehind_11 ?_
  refine g_istore C (lv' := [(4, .int (iI (gst a))), (3, .int (iI ((a * 6) + b))), (0, .ref y0), (1, .int (iI a)), (2, .int (iI b))]) std_Y_findKeysBehind_12 (by decide) rfl ?_
  have L14 : ∀ (nn14 : Nat) (x : Int) (F : Int → Int), (gst a ≤ x ∧ x ≤ gst (a + 1)) → (∀ i, gst a ≤ i → i < x → F ((i * 6) + b) = kn fbb ffu fsu fmo ((a * 6) + b) b (gk i)) → (∀ j, (∀ i, gst a ≤ i → i < x → ¬ j = (i * 6) + b) → F j = gbe j) → (gst (a + 1) - x) < (nn14 : Int) → G p l e ({ frames := 1, cells := 0, slots := 0, locals := 22 } : Room) s m ([.ref y0, .int (iI a), .int (iI b)] : List Value).toArray below meth c (dC, dI) stCl 10 A 0 0 Q [(y0, .inr (2, [.ref t0, .int (iI total), .ref ys, .ref yk, .ref yc, .ref yd, .ref yw, .ref yx, .ref yb, .ref yu])), (ys, .inl (cI, aI 14 gst)), (yk, .inl (cI, aI cap gk)), (yb, .inl (cI, aI (6 * cap) F)), (t0, .inr (1, [.int (iI steps), .int (iI choices), .int (iI bars), .ref hs, .ref hc, .ref hf, .ref hg, .ref hb, .ref he, .ref hm])), (hf, .inl (cI, aI 72 ffu)), (hg, .inl (cI, aI 72 fsu)), (hb, .inl (cI, aI 72 fbb)), (hm, .inl (cI, aI 2 fmo))] 14 [(4, .int (iI x)), (3, .int (iI ((a * 6) + b))), (0, .ref y0), (1, .int (iI a)), (2, .int (iI b))] [] := by
    intro nn14
    induction nn14 with
    | zero =>
      intro x F kx kF1 kF2 hnn14
      exact absurd hnn14 (by omega)
    | succ nn14 ih14 =>
      intro x F kx kF1 kF2 hnn14
      refine g_iload C 0 std_Y_findKeysBehind_14 rfl ?_
      refine g_aload_n C 2 std_Y_findKeysBehind_16 rfl ?_
      refine g_get C (st_sub sti_Y) 0 rfl rfl 2 (by decide) (List.mem_cons_of_mem _ kw_1_86) rfl rfl std_Y_findKeysBehind_17 ?_
      refine g_iload_n C 3 std_Y_findKeysBehind_20 rfl ?_
      refine g_iconst C std_Y_findKeysBehind_21 ?_
      refine g_iadd C std_Y_findKeysBehind_22 ?_
      refine g_iald C 1 0 rfl rfl (by omega) (by omega) (by omega) std_Y_findKeysBehind_23 ?_
      refine g_icmp_ge (tgt := 174) C std_Y_findKeysBehind_24 (by decide) ⟨by omega, by omega⟩ ⟨by omega, by omega⟩ (fun c4 => ?_) (fun c4 => ?_)
      · exact hret _ _ F (⟨fun i h1 h2 => kF1 i h1 (by omega), fun j hj => kF2 j (fun i h1 h2 => hj i h1 (by omega))⟩) std_Y_findKeysBehind_174
      · have hq5 := kk x (by omega) (by omega)
        refine g_aload_n C 2 std_Y_findKeysBehind_27 rfl ?_
        refine g_get C (st_sub sti_Y) 0 rfl rfl 3 (by decide) (List.mem_cons_of_mem _ kw_1_88) rfl rfl std_Y_findKeysBehind_28 ?_
        refine g_iload C 0 std_Y_findKeysBehind_31 rfl ?_
        refine g_iald C 2 0 rfl rfl (by omega) (by omega) (by omega) std_Y_findKeysBehind_33 ?_
        refine g_SN_i (wc := []) (wr := [(y0, .inr (2, [.ref t0, .int (iI total), .ref ys, .ref yk, .ref yc, .ref yd, .ref yw, .ref yx, .ref yb, .ref yu])), (ys, .inl (cI, aI 14 gst)), (yk, .inl (cI, aI cap gk)), (yb, .inl (cI, aI (6 * cap) F)), (t0, .inr (1, [.int (iI steps), .int (iI choices), .int (iI bars), .ref hs, .ref hc, .ref hf, .ref hg, .ref hb, .ref he, .ref hm])), (hf, .inl (cI, aI 72 ffu)), (hg, .inl (cI, aI 72 fsu)), (hb, .inl (cI, aI 72 fbb)), (hm, .inl (cI, aI 2 fmo))]) (rest := []) C (c_lastChoice l dC dI cI cJ cZ (gk x) ) (st_cSN C kw_2_83 (List.mem_of_getElem? (i := 4) rfl) kw_1_1 kw_2_82 sth_S_lastChoice ⟨Nat.le_of_ble_eq_true rfl, Nat.le_of_ble_eq_true rfl⟩) rfl rfl (Nat.le_of_ble_eq_true rfl) std_Y_findKeysBehind_34 ⟨Nat.le_of_ble_eq_true rfl, Nat.le_of_ble_eq_true rfl⟩ [] [0, 1, 2, 3, 4, 5, 6, 7, 8] rfl rfl rfl rfl (by decide) (fun r5 u6 h7 => ?_)
        subst h7
        refine g_ws (ws' := [(y0, .inr (2, [.ref t0, .int (iI total), .ref ys, .ref yk, .ref yc, .ref yd, .ref yw, .ref yx, .ref yb, .ref yu])), (ys, .inl (cI, aI 14 gst)), (yk, .inl (cI, aI cap gk)), (yb, .inl (cI, aI (6 * cap) F)), (t0, .inr (1, [.int (iI steps), .int (iI choices), .int (iI bars), .ref hs, .ref hc, .ref hf, .ref hg, .ref hb, .ref he, .ref hm])), (hf, .inl (cI, aI 72 ffu)), (hg, .inl (cI, aI 72 fsu)), (hb, .inl (cI, aI 72 fbb)), (hm, .inl (cI, aI 2 fmo))]) rfl ?_
        refine g_istore C (lv' := [(5, .int (iI (((gk x) % 8) - 1))), (4, .int (iI x)), (3, .int (iI ((a * 6) + b))), (0, .ref y0), (1, .int (iI a)), (2, .int (iI b))]) std_Y_findKeysBehind_37 (by decide) rfl ?_
        refine g_aload_n C 3 std_Y_findKeysBehind_39 rfl ?_
        refine g_get C (st_sub sti_Y) 0 rfl rfl 3 (by decide) (List.mem_cons_of_mem _ kw_1_88) rfl rfl std_Y_findKeysBehind_40 ?_
        refine g_iload C 1 std_Y_findKeysBehind_43 rfl ?_
        refine g_iald C 2 0 rfl rfl (by omega) (by omega) (by omega) std_Y_findKeysBehind_45 ?_
        refine g_SN_i (wc := []) (wr := [(y0, .inr (2, [.ref t0, .int (iI total), .ref ys, .ref yk, .ref yc, .ref yd, .ref yw, .ref yx, .ref yb, .ref yu])), (ys, .inl (cI, aI 14 gst)), (yk, .inl (cI, aI cap gk)), (yb, .inl (cI, aI (6 * cap) F)), (t0, .inr (1, [.int (iI steps), .int (iI choices), .int (iI bars), .ref hs, .ref hc, .ref hf, .ref hg, .ref hb, .ref he, .ref hm])), (hf, .inl (cI, aI 72 ffu)), (hg, .inl (cI, aI 72 fsu)), (hb, .inl (cI, aI 72 fbb)), (hm, .inl (cI, aI 2 fmo))]) (rest := []) C (c_usedOfFirst l dC dI cI cJ cZ (gk x) (by omega)) (st_cSN C kw_2_86 (List.mem_of_getElem? (i := 5) rfl) kw_1_1 kw_2_85 sth_S_usedOfFirst ⟨Nat.le_of_ble_eq_true rfl, Nat.le_of_ble_eq_true rfl⟩) rfl rfl (Nat.le_of_ble_eq_true rfl) std_Y_findKeysBehind_46 ⟨Nat.le_of_ble_eq_true rfl, Nat.le_of_ble_eq_true rfl⟩ [] [0, 1, 2, 3, 4, 5, 6, 7, 8] rfl rfl rfl rfl (by decide) (fun r8 u9 h10 => ?_)
        subst h10
        refine g_ws (ws' := [(y0, .inr (2, [.ref t0, .int (iI total), .ref ys, .ref yk, .ref yc, .ref yd, .ref yw, .ref yx, .ref yb, .ref yu])), (ys, .inl (cI, aI 14 gst)), (yk, .inl (cI, aI cap gk)), (yb, .inl (cI, aI (6 * cap) F)), (t0, .inr (1, [.int (iI steps), .int (iI choices), .int (iI bars), .ref hs, .ref hc, .ref hf, .ref hg, .ref hb, .ref he, .ref hm])), (hf, .inl (cI, aI 72 ffu)), (hg, .inl (cI, aI 72 fsu)), (hb, .inl (cI, aI 72 fbb)), (hm, .inl (cI, aI 2 fmo))]) rfl ?_
        refine g_aload_n C 3 std_Y_findKeysBehind_49 rfl ?_
        refine g_get C (st_sub sti_Y) 0 rfl rfl 0 (by decide) (List.mem_cons_of_mem _ kw_1_83) rfl rfl std_Y_findKeysBehind_50 ?_
        refine g_get C (st_sub sti_T) 4 rfl rfl 5 (by decide) (List.mem_cons_of_mem _ kw_1_43) rfl rfl std_Y_findKeysBehind_53 ?_
        refine g_iload_n C 2 std_Y_findKeysBehind_56 rfl ?_
        refine g_iald C 5 0 rfl rfl (by omega) (by omega) (by omega) std_Y_findKeysBehind_57 ?_
        refine g_iadd C std_Y_findKeysBehind_58 ?_
        refine g_istore C (lv' := [(6, .int (iI (((gk x) / 512) + (ffu ((a * 6) + b))))), (5, .int (iI (((gk x) % 8) - 1))), (4, .int (iI x)), (3, .int (iI ((a * 6) + b))), (0, .ref y0), (1, .int (iI a)), (2, .int (iI b))]) std_Y_findKeysBehind_59 (by decide) rfl ?_
        refine g_aload_n C 4 std_Y_findKeysBehind_61 rfl ?_
        refine g_get C (st_sub sti_Y) 0 rfl rfl 3 (by decide) (List.mem_cons_of_mem _ kw_1_88) rfl rfl std_Y_findKeysBehind_62 ?_
        refine g_iload C 2 std_Y_findKeysBehind_65 rfl ?_
        refine g_iald C 2 0 rfl rfl (by omega) (by omega) (by omega) std_Y_findKeysBehind_67 ?_
        refine g_SN_i (wc := []) (wr := [(y0, .inr (2, [.ref t0, .int (iI total), .ref ys, .ref yk, .ref yc, .ref yd, .ref yw, .ref yx, .ref yb, .ref yu])), (ys, .inl (cI, aI 14 gst)), (yk, .inl (cI, aI cap gk)), (yb, .inl (cI, aI (6 * cap) F)), (t0, .inr (1, [.int (iI steps), .int (iI choices), .int (iI bars), .ref hs, .ref hc, .ref hf, .ref hg, .ref hb, .ref he, .ref hm])), (hf, .inl (cI, aI 72 ffu)), (hg, .inl (cI, aI 72 fsu)), (hb, .inl (cI, aI 72 fbb)), (hm, .inl (cI, aI 2 fmo))]) (rest := []) C (c_usedOfSecond l dC dI cI cJ cZ (gk x) (by omega)) (st_cSN C kw_2_89 (List.mem_of_getElem? (i := 6) rfl) kw_1_1 kw_2_88 sth_S_usedOfSecond ⟨Nat.le_of_ble_eq_true rfl, Nat.le_of_ble_eq_true rfl⟩) rfl rfl (Nat.le_of_ble_eq_true rfl) std_Y_findKeysBehind_68 ⟨Nat.le_of_ble_eq_true rfl, Nat.le_of_ble_eq_true rfl⟩ [] [0, 1, 2, 3, 4, 5, 6, 7, 8] rfl rfl rfl rfl (by decide) (fun r11 u12 h13 => ?_)
        subst h13
        refine g_ws (ws' := [(y0, .inr (2, [.ref t0, .int (iI total), .ref ys, .ref yk, .ref yc, .ref yd, .ref yw, .ref yx, .ref yb, .ref yu])), (ys, .inl (cI, aI 14 gst)), (yk, .inl (cI, aI cap gk)), (yb, .inl (cI, aI (6 * cap) F)), (t0, .inr (1, [.int (iI steps), .int (iI choices), .int (iI bars), .ref hs, .ref hc, .ref hf, .ref hg, .ref hb, .ref he, .ref hm])), (hf, .inl (cI, aI 72 ffu)), (hg, .inl (cI, aI 72 fsu)), (hb, .inl (cI, aI 72 fbb)), (hm, .inl (cI, aI 2 fmo))]) rfl ?_
        refine g_aload_n C 4 std_Y_findKeysBehind_71 rfl ?_
        refine g_get C (st_sub sti_Y) 0 rfl rfl 0 (by decide) (List.mem_cons_of_mem _ kw_1_83) rfl rfl std_Y_findKeysBehind_72 ?_
        refine g_get C (st_sub sti_T) 4 rfl rfl 6 (by decide) (List.mem_cons_of_mem _ kw_1_46) rfl rfl std_Y_findKeysBehind_75 ?_
        refine g_iload_n C 3 std_Y_findKeysBehind_78 rfl ?_
        refine g_iald C 6 0 rfl rfl (by omega) (by omega) (by omega) std_Y_findKeysBehind_79 ?_
        refine g_iadd C std_Y_findKeysBehind_80 ?_
        refine g_istore C (lv' := [(7, .int (iI ((((gk x) / 8) % 64) + (fsu ((a * 6) + b))))), (6, .int (iI (((gk x) / 512) + (ffu ((a * 6) + b))))), (5, .int (iI (((gk x) % 8) - 1))), (4, .int (iI x)), (3, .int (iI ((a * 6) + b))), (0, .ref y0), (1, .int (iI a)), (2, .int (iI b))]) std_Y_findKeysBehind_81 (by decide) rfl ?_
        refine g_iload C 2 std_Y_findKeysBehind_83 rfl ?_
        refine g_if_lt (tgt := 110) C std_Y_findKeysBehind_85 (by decide) ⟨by omega, by omega⟩ (fun c14 => ?_) (fun c14 => ?_)
        · refine g_iconst C std_Y_findKeysBehind_110 ?_
          refine g_istore C (lv' := [(8, .int (iI 0)), (7, .int (iI ((((gk x) / 8) % 64) + (fsu ((a * 6) + b))))), (6, .int (iI (((gk x) / 512) + (ffu ((a * 6) + b))))), (5, .int (iI (((gk x) % 8) - 1))), (4, .int (iI x)), (3, .int (iI ((a * 6) + b))), (0, .ref y0), (1, .int (iI a)), (2, .int (iI b))]) std_Y_findKeysBehind_111 (by decide) rfl ?_
          refine g_iload C 0 std_Y_findKeysBehind_113 rfl ?_
          refine g_if_ne (tgt := 136) C std_Y_findKeysBehind_115 (by decide) (by decide) (fun c15 => ?_) (fun c15 => ?_)
          · exfalso; omega
          · refine g_aload_n C 6 std_Y_findKeysBehind_118 rfl ?_
            refine g_get C (st_sub sti_Y) 0 rfl rfl 0 (by decide) (List.mem_cons_of_mem _ kw_1_83) rfl rfl std_Y_findKeysBehind_119 ?_
            refine g_iload C 2 std_Y_findKeysBehind_122 rfl ?_
            refine g_iload C 1 std_Y_findKeysBehind_124 rfl ?_
            refine g_V_i (wc := [(t0, .inr (1, [.int (iI steps), .int (iI choices), .int (iI bars), .ref hs, .ref hc, .ref hf, .ref hg, .ref hb, .ref he, .ref hm])), (hm, .inl (cI, aI 2 fmo))]) (wr := [(y0, .inr (2, [.ref t0, .int (iI total), .ref ys, .ref yk, .ref yc, .ref yd, .ref yw, .ref yx, .ref yb, .ref yu])), (ys, .inl (cI, aI 14 gst)), (yk, .inl (cI, aI cap gk)), (yb, .inl (cI, aI (6 * cap) F)), (hf, .inl (cI, aI 72 ffu)), (hg, .inl (cI, aI 72 fsu)), (hb, .inl (cI, aI 72 fbb))]) (rest := []) C (c_isWithinMost l dC dI cI cJ cZ t0 hs hc hf hg hb he hm steps choices bars fmo (((gk x) / 512) + (ffu ((a * 6) + b))) ((((gk x) / 8) % 64) + (fsu ((a * 6) + b))) (kmo) (by omega) (by omega)) (st_cV C kw_2_93 kw_2_90 kw_1_2 kw_2_91 kw_2_92 sth_T_isWithinMost ⟨Nat.le_of_ble_eq_true rfl, Nat.le_of_ble_eq_true rfl⟩) 0 rfl rfl rfl rfl (Nat.le_of_ble_eq_true rfl) std_Y_findKeysBehind_126 ⟨Nat.le_of_ble_eq_true rfl, Nat.le_of_ble_eq_true rfl⟩ [4, 8] [0, 1, 2, 3, 5, 6, 7] rfl rfl rfl rfl (by decide) (fun r16 u17 h18 => ?_)
            subst h18
            refine g_ws (ws' := [(y0, .inr (2, [.ref t0, .int (iI total), .ref ys, .ref yk, .ref yc, .ref yd, .ref yw, .ref yx, .ref yb, .ref yu])), (ys, .inl (cI, aI 14 gst)), (yk, .inl (cI, aI cap gk)), (yb, .inl (cI, aI (6 * cap) F)), (hf, .inl (cI, aI 72 ffu)), (hg, .inl (cI, aI 72 fsu)), (hb, .inl (cI, aI 72 fbb)), (t0, .inr (1, [.int (iI steps), .int (iI choices), .int (iI bars), .ref hs, .ref hc, .ref hf, .ref hg, .ref hb, .ref he, .ref hm])), (hm, .inl (cI, aI 2 fmo))]) rfl ?_
            refine g_ifeq_b (tgt := 136) C std_Y_findKeysBehind_129 (by decide) (fun c19 => ?_) (fun c19 => ?_)
            · refine g_iconst C std_Y_findKeysBehind_136 ?_
              refine g_istore C (lv' := [(9, .int (iI 0)), (8, .int (iI 0)), (7, .int (iI ((((gk x) / 8) % 64) + (fsu ((a * 6) + b))))), (6, .int (iI (((gk x) / 512) + (ffu ((a * 6) + b))))), (5, .int (iI (((gk x) % 8) - 1))), (4, .int (iI x)), (3, .int (iI ((a * 6) + b))), (0, .ref y0), (1, .int (iI a)), (2, .int (iI b))]) std_Y_findKeysBehind_137 (by decide) rfl ?_
              refine g_aload_n C 7 std_Y_findKeysBehind_139 rfl ?_
              refine g_get C (st_sub sti_Y) 0 rfl rfl 8 (by decide) (List.mem_cons_of_mem _ kw_1_99) rfl rfl std_Y_findKeysBehind_140 ?_
              refine g_iload C 5 std_Y_findKeysBehind_143 rfl ?_
              refine g_bipush C std_Y_findKeysBehind_145 (by decide) ?_
              refine g_imul C std_Y_findKeysBehind_147 ?_
              refine g_iload_n C 9 std_Y_findKeysBehind_148 rfl ?_
              refine g_iadd C std_Y_findKeysBehind_149 ?_
              refine g_iload C 0 std_Y_findKeysBehind_150 rfl ?_
              refine g_if_eq (tgt := 166) C std_Y_findKeysBehind_152 (by decide) (by decide) (fun c20 => ?_) (fun c20 => ?_)
              · refine g_iconst C std_Y_findKeysBehind_166 ?_
                refine g_iast C (ws' := [(y0, .inr (2, [.ref t0, .int (iI total), .ref ys, .ref yk, .ref yc, .ref yd, .ref yw, .ref yx, .ref yb, .ref yu])), (ys, .inl (cI, aI 14 gst)), (yk, .inl (cI, aI cap gk)), (yb, .inl (cI, aI (6 * cap) (uZ F ((x * 6) + b) (-1)))), (hf, .inl (cI, aI 72 ffu)), (hg, .inl (cI, aI 72 fsu)), (hb, .inl (cI, aI 72 fbb)), (t0, .inr (1, [.int (iI steps), .int (iI choices), .int (iI bars), .ref hs, .ref hc, .ref hf, .ref hg, .ref hb, .ref he, .ref hm])), (hm, .inl (cI, aI 2 fmo))]) 3 0 rfl rfl (by omega) (by omega) (by omega) std_Y_findKeysBehind_167 rfl ?_
                refine g_iinc C (lv' := [(4, .int (iI (x + 1))), (9, .int (iI 0)), (8, .int (iI 0)), (7, .int (iI ((((gk x) / 8) % 64) + (fsu ((a * 6) + b))))), (6, .int (iI (((gk x) / 512) + (ffu ((a * 6) + b))))), (5, .int (iI (((gk x) % 8) - 1))), (3, .int (iI ((a * 6) + b))), (0, .ref y0), (1, .int (iI a)), (2, .int (iI b))]) 5 std_Y_findKeysBehind_168 rfl (by decide) rfl ?_
                refine g_goto (tgt := 14) C std_Y_findKeysBehind_171 (by decide) ?_
                refine g_sub (ws' := [(y0, .inr (2, [.ref t0, .int (iI total), .ref ys, .ref yk, .ref yc, .ref yd, .ref yw, .ref yx, .ref yb, .ref yu])), (ys, .inl (cI, aI 14 gst)), (yk, .inl (cI, aI cap gk)), (yb, .inl (cI, aI (6 * cap) (uZ F ((x * 6) + b) (-1)))), (t0, .inr (1, [.int (iI steps), .int (iI choices), .int (iI bars), .ref hs, .ref hc, .ref hf, .ref hg, .ref hb, .ref he, .ref hm])), (hf, .inl (cI, aI 72 ffu)), (hg, .inl (cI, aI 72 fsu)), (hb, .inl (cI, aI 72 fbb)), (hm, .inl (cI, aI 2 fmo))]) [0, 1, 2, 3, 7, 4, 5, 6, 8] rfl rfl ?_
                refine g_lv (lv' := [(4, .int (iI (x + 1))), (3, .int (iI ((a * 6) + b))), (0, .ref y0), (1, .int (iI a)), (2, .int (iI b))]) [0, 6, 7, 8, 9] rfl ?_
                refine g_wide (k := 0) (n := 0) (Nat.le_of_ble_eq_true rfl) (Nat.le_of_ble_eq_true rfl) ?_
                exact ih14 (x + 1) (uZ F ((x * 6) + b) (-1)) (by omega) (fk_1 kF1 (by omega) ((kn_shut (fun h => by have h1 := h.1; have h2 := h.2; omega)).symm)) (fk_2 kF2 (by omega)) (by omega)
              · exfalso; omega
            · refine g_iconst C std_Y_findKeysBehind_132 ?_
              refine g_goto (tgt := 137) C std_Y_findKeysBehind_133 (by decide) ?_
              refine g_istore C (lv' := [(9, .int (iI 1)), (8, .int (iI 0)), (7, .int (iI ((((gk x) / 8) % 64) + (fsu ((a * 6) + b))))), (6, .int (iI (((gk x) / 512) + (ffu ((a * 6) + b))))), (5, .int (iI (((gk x) % 8) - 1))), (4, .int (iI x)), (3, .int (iI ((a * 6) + b))), (0, .ref y0), (1, .int (iI a)), (2, .int (iI b))]) std_Y_findKeysBehind_137 (by decide) rfl ?_
              refine g_aload_n C 7 std_Y_findKeysBehind_139 rfl ?_
              refine g_get C (st_sub sti_Y) 0 rfl rfl 8 (by decide) (List.mem_cons_of_mem _ kw_1_99) rfl rfl std_Y_findKeysBehind_140 ?_
              refine g_iload C 5 std_Y_findKeysBehind_143 rfl ?_
              refine g_bipush C std_Y_findKeysBehind_145 (by decide) ?_
              refine g_imul C std_Y_findKeysBehind_147 ?_
              refine g_iload_n C 9 std_Y_findKeysBehind_148 rfl ?_
              refine g_iadd C std_Y_findKeysBehind_149 ?_
              refine g_iload C 0 std_Y_findKeysBehind_150 rfl ?_
              refine g_if_eq (tgt := 166) C std_Y_findKeysBehind_152 (by decide) (by decide) (fun c21 => ?_) (fun c21 => ?_)
              · exfalso; omega
              · refine g_iload C 3 std_Y_findKeysBehind_155 rfl ?_
                refine g_iload C 2 std_Y_findKeysBehind_157 rfl ?_
                refine g_iload_n C 9 std_Y_findKeysBehind_159 rfl ?_
                refine g_SN_i (wc := []) (wr := [(y0, .inr (2, [.ref t0, .int (iI total), .ref ys, .ref yk, .ref yc, .ref yd, .ref yw, .ref yx, .ref yb, .ref yu])), (ys, .inl (cI, aI 14 gst)), (yk, .inl (cI, aI cap gk)), (yb, .inl (cI, aI (6 * cap) F)), (hf, .inl (cI, aI 72 ffu)), (hg, .inl (cI, aI 72 fsu)), (hb, .inl (cI, aI 72 fbb)), (t0, .inr (1, [.int (iI steps), .int (iI choices), .int (iI bars), .ref hs, .ref hc, .ref hf, .ref hg, .ref hb, .ref he, .ref hm])), (hm, .inl (cI, aI 2 fmo))]) (rest := [.int (iI ((x * 6) + b)), .ref yb]) C (c_keyOf l dC dI cI cJ cZ (((gk x) / 512) + (ffu ((a * 6) + b))) ((((gk x) / 8) % 64) + (fsu ((a * 6) + b))) b (by omega) (by omega) (by omega)) (st_cSN C kw_2_35 (List.mem_of_getElem? (i := 2) rfl) kw_1_1 kw_2_34 sth_S_keyOf ⟨Nat.le_of_ble_eq_true rfl, Nat.le_of_ble_eq_true rfl⟩) rfl rfl (Nat.le_of_ble_eq_true rfl) std_Y_findKeysBehind_160 ⟨Nat.le_of_ble_eq_true rfl, Nat.le_of_ble_eq_true rfl⟩ [] [0, 1, 2, 3, 4, 5, 6, 7, 8] rfl rfl rfl rfl (by decide) (fun r22 u23 h24 => ?_)
                subst h24
                refine g_ws (ws' := [(y0, .inr (2, [.ref t0, .int (iI total), .ref ys, .ref yk, .ref yc, .ref yd, .ref yw, .ref yx, .ref yb, .ref yu])), (ys, .inl (cI, aI 14 gst)), (yk, .inl (cI, aI cap gk)), (yb, .inl (cI, aI (6 * cap) F)), (hf, .inl (cI, aI 72 ffu)), (hg, .inl (cI, aI 72 fsu)), (hb, .inl (cI, aI 72 fbb)), (t0, .inr (1, [.int (iI steps), .int (iI choices), .int (iI bars), .ref hs, .ref hc, .ref hf, .ref hg, .ref hb, .ref he, .ref hm])), (hm, .inl (cI, aI 2 fmo))]) rfl ?_
                refine g_goto (tgt := 167) C std_Y_findKeysBehind_163 (by decide) ?_
                refine g_iast C (ws' := [(y0, .inr (2, [.ref t0, .int (iI total), .ref ys, .ref yk, .ref yc, .ref yd, .ref yw, .ref yx, .ref yb, .ref yu])), (ys, .inl (cI, aI 14 gst)), (yk, .inl (cI, aI cap gk)), (yb, .inl (cI, aI (6 * cap) (uZ F ((x * 6) + b) ((((((gk x) / 512) + (ffu ((a * 6) + b))) * 512) + (((((gk x) / 8) % 64) + (fsu ((a * 6) + b))) * 8)) + (b + 1))))), (hf, .inl (cI, aI 72 ffu)), (hg, .inl (cI, aI 72 fsu)), (hb, .inl (cI, aI 72 fbb)), (t0, .inr (1, [.int (iI steps), .int (iI choices), .int (iI bars), .ref hs, .ref hc, .ref hf, .ref hg, .ref hb, .ref he, .ref hm])), (hm, .inl (cI, aI 2 fmo))]) 3 0 rfl rfl (by omega) (by omega) (by omega) std_Y_findKeysBehind_167 rfl ?_
                refine g_iinc C (lv' := [(4, .int (iI (x + 1))), (9, .int (iI 1)), (8, .int (iI 0)), (7, .int (iI ((((gk x) / 8) % 64) + (fsu ((a * 6) + b))))), (6, .int (iI (((gk x) / 512) + (ffu ((a * 6) + b))))), (5, .int (iI (((gk x) % 8) - 1))), (3, .int (iI ((a * 6) + b))), (0, .ref y0), (1, .int (iI a)), (2, .int (iI b))]) 5 std_Y_findKeysBehind_168 rfl (by decide) rfl ?_
                refine g_goto (tgt := 14) C std_Y_findKeysBehind_171 (by decide) ?_
                refine g_sub (ws' := [(y0, .inr (2, [.ref t0, .int (iI total), .ref ys, .ref yk, .ref yc, .ref yd, .ref yw, .ref yx, .ref yb, .ref yu])), (ys, .inl (cI, aI 14 gst)), (yk, .inl (cI, aI cap gk)), (yb, .inl (cI, aI (6 * cap) (uZ F ((x * 6) + b) ((((((gk x) / 512) + (ffu ((a * 6) + b))) * 512) + (((((gk x) / 8) % 64) + (fsu ((a * 6) + b))) * 8)) + (b + 1))))), (t0, .inr (1, [.int (iI steps), .int (iI choices), .int (iI bars), .ref hs, .ref hc, .ref hf, .ref hg, .ref hb, .ref he, .ref hm])), (hf, .inl (cI, aI 72 ffu)), (hg, .inl (cI, aI 72 fsu)), (hb, .inl (cI, aI 72 fbb)), (hm, .inl (cI, aI 2 fmo))]) [0, 1, 2, 3, 7, 4, 5, 6, 8] rfl rfl ?_
                refine g_lv (lv' := [(4, .int (iI (x + 1))), (3, .int (iI ((a * 6) + b))), (0, .ref y0), (1, .int (iI a)), (2, .int (iI b))]) [0, 6, 7, 8, 9] rfl ?_
                refine g_wide (k := 0) (n := 0) (Nat.le_of_ble_eq_true rfl) (Nat.le_of_ble_eq_true rfl) ?_
                exact ih14 (x + 1) (uZ F ((x * 6) + b) ((((((gk x) / 512) + (ffu ((a * 6) + b))) * 512) + (((((gk x) / 8) % 64) + (fsu ((a * 6) + b))) * 8)) + (b + 1))) (by omega) (fk_1 kF1 (by omega) ((kn_open ⟨fun h => by omega, by omega, by omega⟩).symm)) (fk_2 kF2 (by omega)) (by omega)
        · refine g_aload_n C 5 std_Y_findKeysBehind_88 rfl ?_
          refine g_get C (st_sub sti_Y) 0 rfl rfl 0 (by decide) (List.mem_cons_of_mem _ kw_1_83) rfl rfl std_Y_findKeysBehind_89 ?_
          refine g_get C (st_sub sti_T) 4 rfl rfl 7 (by decide) (List.mem_cons_of_mem _ kw_1_49) rfl rfl std_Y_findKeysBehind_92 ?_
          refine g_iload_n C 4 std_Y_findKeysBehind_95 rfl ?_
          refine g_iald C 7 0 rfl rfl (by omega) (by omega) (by omega) std_Y_findKeysBehind_96 ?_
          refine g_iload C 2 std_Y_findKeysBehind_97 rfl ?_
          refine g_ishr C (d := (2 ^ ((((gk x) % 8) - 1)).toNat)) std_Y_findKeysBehind_99 ⟨by omega, by omega⟩ (by omega) (by omega) rfl ?_
          refine g_iconst C std_Y_findKeysBehind_100 ?_
          refine g_iand C std_Y_findKeysBehind_101 (iI_andK (d := 2) 1 (by decide) (by decide) (by decide)) ?_
          refine g_iconst C std_Y_findKeysBehind_102 ?_
          refine g_icmp_ne (tgt := 110) C std_Y_findKeysBehind_103 (by decide) ⟨by omega, by omega⟩ ⟨by omega, by omega⟩ (fun c25 => ?_) (fun c25 => ?_)
          · refine g_iconst C std_Y_findKeysBehind_110 ?_
            refine g_istore C (lv' := [(8, .int (iI 0)), (7, .int (iI ((((gk x) / 8) % 64) + (fsu ((a * 6) + b))))), (6, .int (iI (((gk x) / 512) + (ffu ((a * 6) + b))))), (5, .int (iI (((gk x) % 8) - 1))), (4, .int (iI x)), (3, .int (iI ((a * 6) + b))), (0, .ref y0), (1, .int (iI a)), (2, .int (iI b))]) std_Y_findKeysBehind_111 (by decide) rfl ?_
            refine g_iload C 0 std_Y_findKeysBehind_113 rfl ?_
            refine g_if_ne (tgt := 136) C std_Y_findKeysBehind_115 (by decide) (by decide) (fun c26 => ?_) (fun c26 => ?_)
            · exfalso; omega
            · refine g_aload_n C 6 std_Y_findKeysBehind_118 rfl ?_
              refine g_get C (st_sub sti_Y) 0 rfl rfl 0 (by decide) (List.mem_cons_of_mem _ kw_1_83) rfl rfl std_Y_findKeysBehind_119 ?_
              refine g_iload C 2 std_Y_findKeysBehind_122 rfl ?_
              refine g_iload C 1 std_Y_findKeysBehind_124 rfl ?_
              refine g_V_i (wc := [(t0, .inr (1, [.int (iI steps), .int (iI choices), .int (iI bars), .ref hs, .ref hc, .ref hf, .ref hg, .ref hb, .ref he, .ref hm])), (hm, .inl (cI, aI 2 fmo))]) (wr := [(y0, .inr (2, [.ref t0, .int (iI total), .ref ys, .ref yk, .ref yc, .ref yd, .ref yw, .ref yx, .ref yb, .ref yu])), (ys, .inl (cI, aI 14 gst)), (yk, .inl (cI, aI cap gk)), (yb, .inl (cI, aI (6 * cap) F)), (hf, .inl (cI, aI 72 ffu)), (hg, .inl (cI, aI 72 fsu)), (hb, .inl (cI, aI 72 fbb))]) (rest := []) C (c_isWithinMost l dC dI cI cJ cZ t0 hs hc hf hg hb he hm steps choices bars fmo (((gk x) / 512) + (ffu ((a * 6) + b))) ((((gk x) / 8) % 64) + (fsu ((a * 6) + b))) (kmo) (by omega) (by omega)) (st_cV C kw_2_93 kw_2_90 kw_1_2 kw_2_91 kw_2_92 sth_T_isWithinMost ⟨Nat.le_of_ble_eq_true rfl, Nat.le_of_ble_eq_true rfl⟩) 0 rfl rfl rfl rfl (Nat.le_of_ble_eq_true rfl) std_Y_findKeysBehind_126 ⟨Nat.le_of_ble_eq_true rfl, Nat.le_of_ble_eq_true rfl⟩ [4, 8] [0, 1, 2, 3, 5, 6, 7] rfl rfl rfl rfl (by decide) (fun r27 u28 h29 => ?_)
              subst h29
              refine g_ws (ws' := [(y0, .inr (2, [.ref t0, .int (iI total), .ref ys, .ref yk, .ref yc, .ref yd, .ref yw, .ref yx, .ref yb, .ref yu])), (ys, .inl (cI, aI 14 gst)), (yk, .inl (cI, aI cap gk)), (yb, .inl (cI, aI (6 * cap) F)), (hf, .inl (cI, aI 72 ffu)), (hg, .inl (cI, aI 72 fsu)), (hb, .inl (cI, aI 72 fbb)), (t0, .inr (1, [.int (iI steps), .int (iI choices), .int (iI bars), .ref hs, .ref hc, .ref hf, .ref hg, .ref hb, .ref he, .ref hm])), (hm, .inl (cI, aI 2 fmo))]) rfl ?_
              refine g_ifeq_b (tgt := 136) C std_Y_findKeysBehind_129 (by decide) (fun c30 => ?_) (fun c30 => ?_)
              · refine g_iconst C std_Y_findKeysBehind_136 ?_
                refine g_istore C (lv' := [(9, .int (iI 0)), (8, .int (iI 0)), (7, .int (iI ((((gk x) / 8) % 64) + (fsu ((a * 6) + b))))), (6, .int (iI (((gk x) / 512) + (ffu ((a * 6) + b))))), (5, .int (iI (((gk x) % 8) - 1))), (4, .int (iI x)), (3, .int (iI ((a * 6) + b))), (0, .ref y0), (1, .int (iI a)), (2, .int (iI b))]) std_Y_findKeysBehind_137 (by decide) rfl ?_
                refine g_aload_n C 7 std_Y_findKeysBehind_139 rfl ?_
                refine g_get C (st_sub sti_Y) 0 rfl rfl 8 (by decide) (List.mem_cons_of_mem _ kw_1_99) rfl rfl std_Y_findKeysBehind_140 ?_
                refine g_iload C 5 std_Y_findKeysBehind_143 rfl ?_
                refine g_bipush C std_Y_findKeysBehind_145 (by decide) ?_
                refine g_imul C std_Y_findKeysBehind_147 ?_
                refine g_iload_n C 9 std_Y_findKeysBehind_148 rfl ?_
                refine g_iadd C std_Y_findKeysBehind_149 ?_
                refine g_iload C 0 std_Y_findKeysBehind_150 rfl ?_
                refine g_if_eq (tgt := 166) C std_Y_findKeysBehind_152 (by decide) (by decide) (fun c31 => ?_) (fun c31 => ?_)
                · refine g_iconst C std_Y_findKeysBehind_166 ?_
                  refine g_iast C (ws' := [(y0, .inr (2, [.ref t0, .int (iI total), .ref ys, .ref yk, .ref yc, .ref yd, .ref yw, .ref yx, .ref yb, .ref yu])), (ys, .inl (cI, aI 14 gst)), (yk, .inl (cI, aI cap gk)), (yb, .inl (cI, aI (6 * cap) (uZ F ((x * 6) + b) (-1)))), (hf, .inl (cI, aI 72 ffu)), (hg, .inl (cI, aI 72 fsu)), (hb, .inl (cI, aI 72 fbb)), (t0, .inr (1, [.int (iI steps), .int (iI choices), .int (iI bars), .ref hs, .ref hc, .ref hf, .ref hg, .ref hb, .ref he, .ref hm])), (hm, .inl (cI, aI 2 fmo))]) 3 0 rfl rfl (by omega) (by omega) (by omega) std_Y_findKeysBehind_167 rfl ?_
                  refine g_iinc C (lv' := [(4, .int (iI (x + 1))), (9, .int (iI 0)), (8, .int (iI 0)), (7, .int (iI ((((gk x) / 8) % 64) + (fsu ((a * 6) + b))))), (6, .int (iI (((gk x) / 512) + (ffu ((a * 6) + b))))), (5, .int (iI (((gk x) % 8) - 1))), (3, .int (iI ((a * 6) + b))), (0, .ref y0), (1, .int (iI a)), (2, .int (iI b))]) 5 std_Y_findKeysBehind_168 rfl (by decide) rfl ?_
                  refine g_goto (tgt := 14) C std_Y_findKeysBehind_171 (by decide) ?_
                  refine g_sub (ws' := [(y0, .inr (2, [.ref t0, .int (iI total), .ref ys, .ref yk, .ref yc, .ref yd, .ref yw, .ref yx, .ref yb, .ref yu])), (ys, .inl (cI, aI 14 gst)), (yk, .inl (cI, aI cap gk)), (yb, .inl (cI, aI (6 * cap) (uZ F ((x * 6) + b) (-1)))), (t0, .inr (1, [.int (iI steps), .int (iI choices), .int (iI bars), .ref hs, .ref hc, .ref hf, .ref hg, .ref hb, .ref he, .ref hm])), (hf, .inl (cI, aI 72 ffu)), (hg, .inl (cI, aI 72 fsu)), (hb, .inl (cI, aI 72 fbb)), (hm, .inl (cI, aI 2 fmo))]) [0, 1, 2, 3, 7, 4, 5, 6, 8] rfl rfl ?_
                  refine g_lv (lv' := [(4, .int (iI (x + 1))), (3, .int (iI ((a * 6) + b))), (0, .ref y0), (1, .int (iI a)), (2, .int (iI b))]) [0, 6, 7, 8, 9] rfl ?_
                  refine g_wide (k := 0) (n := 0) (Nat.le_of_ble_eq_true rfl) (Nat.le_of_ble_eq_true rfl) ?_
                  exact ih14 (x + 1) (uZ F ((x * 6) + b) (-1)) (by omega) (fk_1 kF1 (by omega) ((kn_shut (fun h => by have h1 := h.1; have h2 := h.2; omega)).symm)) (fk_2 kF2 (by omega)) (by omega)
                · exfalso; omega
              · refine g_iconst C std_Y_findKeysBehind_132 ?_
                refine g_goto (tgt := 137) C std_Y_findKeysBehind_133 (by decide) ?_
                refine g_istore C (lv' := [(9, .int (iI 1)), (8, .int (iI 0)), (7, .int (iI ((((gk x) / 8) % 64) + (fsu ((a * 6) + b))))), (6, .int (iI (((gk x) / 512) + (ffu ((a * 6) + b))))), (5, .int (iI (((gk x) % 8) - 1))), (4, .int (iI x)), (3, .int (iI ((a * 6) + b))), (0, .ref y0), (1, .int (iI a)), (2, .int (iI b))]) std_Y_findKeysBehind_137 (by decide) rfl ?_
                refine g_aload_n C 7 std_Y_findKeysBehind_139 rfl ?_
                refine g_get C (st_sub sti_Y) 0 rfl rfl 8 (by decide) (List.mem_cons_of_mem _ kw_1_99) rfl rfl std_Y_findKeysBehind_140 ?_
                refine g_iload C 5 std_Y_findKeysBehind_143 rfl ?_
                refine g_bipush C std_Y_findKeysBehind_145 (by decide) ?_
                refine g_imul C std_Y_findKeysBehind_147 ?_
                refine g_iload_n C 9 std_Y_findKeysBehind_148 rfl ?_
                refine g_iadd C std_Y_findKeysBehind_149 ?_
                refine g_iload C 0 std_Y_findKeysBehind_150 rfl ?_
                refine g_if_eq (tgt := 166) C std_Y_findKeysBehind_152 (by decide) (by decide) (fun c32 => ?_) (fun c32 => ?_)
                · exfalso; omega
                · refine g_iload C 3 std_Y_findKeysBehind_155 rfl ?_
                  refine g_iload C 2 std_Y_findKeysBehind_157 rfl ?_
                  refine g_iload_n C 9 std_Y_findKeysBehind_159 rfl ?_
                  refine g_SN_i (wc := []) (wr := [(y0, .inr (2, [.ref t0, .int (iI total), .ref ys, .ref yk, .ref yc, .ref yd, .ref yw, .ref yx, .ref yb, .ref yu])), (ys, .inl (cI, aI 14 gst)), (yk, .inl (cI, aI cap gk)), (yb, .inl (cI, aI (6 * cap) F)), (hf, .inl (cI, aI 72 ffu)), (hg, .inl (cI, aI 72 fsu)), (hb, .inl (cI, aI 72 fbb)), (t0, .inr (1, [.int (iI steps), .int (iI choices), .int (iI bars), .ref hs, .ref hc, .ref hf, .ref hg, .ref hb, .ref he, .ref hm])), (hm, .inl (cI, aI 2 fmo))]) (rest := [.int (iI ((x * 6) + b)), .ref yb]) C (c_keyOf l dC dI cI cJ cZ (((gk x) / 512) + (ffu ((a * 6) + b))) ((((gk x) / 8) % 64) + (fsu ((a * 6) + b))) b (by omega) (by omega) (by omega)) (st_cSN C kw_2_35 (List.mem_of_getElem? (i := 2) rfl) kw_1_1 kw_2_34 sth_S_keyOf ⟨Nat.le_of_ble_eq_true rfl, Nat.le_of_ble_eq_true rfl⟩) rfl rfl (Nat.le_of_ble_eq_true rfl) std_Y_findKeysBehind_160 ⟨Nat.le_of_ble_eq_true rfl, Nat.le_of_ble_eq_true rfl⟩ [] [0, 1, 2, 3, 4, 5, 6, 7, 8] rfl rfl rfl rfl (by decide) (fun r33 u34 h35 => ?_)
                  subst h35
                  refine g_ws (ws' := [(y0, .inr (2, [.ref t0, .int (iI total), .ref ys, .ref yk, .ref yc, .ref yd, .ref yw, .ref yx, .ref yb, .ref yu])), (ys, .inl (cI, aI 14 gst)), (yk, .inl (cI, aI cap gk)), (yb, .inl (cI, aI (6 * cap) F)), (hf, .inl (cI, aI 72 ffu)), (hg, .inl (cI, aI 72 fsu)), (hb, .inl (cI, aI 72 fbb)), (t0, .inr (1, [.int (iI steps), .int (iI choices), .int (iI bars), .ref hs, .ref hc, .ref hf, .ref hg, .ref hb, .ref he, .ref hm])), (hm, .inl (cI, aI 2 fmo))]) rfl ?_
                  refine g_goto (tgt := 167) C std_Y_findKeysBehind_163 (by decide) ?_
                  refine g_iast C (ws' := [(y0, .inr (2, [.ref t0, .int (iI total), .ref ys, .ref yk, .ref yc, .ref yd, .ref yw, .ref yx, .ref yb, .ref yu])), (ys, .inl (cI, aI 14 gst)), (yk, .inl (cI, aI cap gk)), (yb, .inl (cI, aI (6 * cap) (uZ F ((x * 6) + b) ((((((gk x) / 512) + (ffu ((a * 6) + b))) * 512) + (((((gk x) / 8) % 64) + (fsu ((a * 6) + b))) * 8)) + (b + 1))))), (hf, .inl (cI, aI 72 ffu)), (hg, .inl (cI, aI 72 fsu)), (hb, .inl (cI, aI 72 fbb)), (t0, .inr (1, [.int (iI steps), .int (iI choices), .int (iI bars), .ref hs, .ref hc, .ref hf, .ref hg, .ref hb, .ref he, .ref hm])), (hm, .inl (cI, aI 2 fmo))]) 3 0 rfl rfl (by omega) (by omega) (by omega) std_Y_findKeysBehind_167 rfl ?_
                  refine g_iinc C (lv' := [(4, .int (iI (x + 1))), (9, .int (iI 1)), (8, .int (iI 0)), (7, .int (iI ((((gk x) / 8) % 64) + (fsu ((a * 6) + b))))), (6, .int (iI (((gk x) / 512) + (ffu ((a * 6) + b))))), (5, .int (iI (((gk x) % 8) - 1))), (3, .int (iI ((a * 6) + b))), (0, .ref y0), (1, .int (iI a)), (2, .int (iI b))]) 5 std_Y_findKeysBehind_168 rfl (by decide) rfl ?_
                  refine g_goto (tgt := 14) C std_Y_findKeysBehind_171 (by decide) ?_
                  refine g_sub (ws' := [(y0, .inr (2, [.ref t0, .int (iI total), .ref ys, .ref yk, .ref yc, .ref yd, .ref yw, .ref yx, .ref yb, .ref yu])), (ys, .inl (cI, aI 14 gst)), (yk, .inl (cI, aI cap gk)), (yb, .inl (cI, aI (6 * cap) (uZ F ((x * 6) + b) ((((((gk x) / 512) + (ffu ((a * 6) + b))) * 512) + (((((gk x) / 8) % 64) + (fsu ((a * 6) + b))) * 8)) + (b + 1))))), (t0, .inr (1, [.int (iI steps), .int (iI choices), .int (iI bars), .ref hs, .ref hc, .ref hf, .ref hg, .ref hb, .ref he, .ref hm])), (hf, .inl (cI, aI 72 ffu)), (hg, .inl (cI, aI 72 fsu)), (hb, .inl (cI, aI 72 fbb)), (hm, .inl (cI, aI 2 fmo))]) [0, 1, 2, 3, 7, 4, 5, 6, 8] rfl rfl ?_
                  refine g_lv (lv' := [(4, .int (iI (x + 1))), (3, .int (iI ((a * 6) + b))), (0, .ref y0), (1, .int (iI a)), (2, .int (iI b))]) [0, 6, 7, 8, 9] rfl ?_
                  refine g_wide (k := 0) (n := 0) (Nat.le_of_ble_eq_true rfl) (Nat.le_of_ble_eq_true rfl) ?_
                  exact ih14 (x + 1) (uZ F ((x * 6) + b) ((((((gk x) / 512) + (ffu ((a * 6) + b))) * 512) + (((((gk x) / 8) % 64) + (fsu ((a * 6) + b))) * 8)) + (b + 1))) (by omega) (fk_1 kF1 (by omega) ((kn_open ⟨fun h => by omega, by omega, by omega⟩).symm)) (fk_2 kF2 (by omega)) (by omega)
          · refine g_iconst C std_Y_findKeysBehind_106 ?_
            refine g_goto (tgt := 111) C std_Y_findKeysBehind_107 (by decide) ?_
            refine g_istore C (lv' := [(8, .int (iI 1)), (7, .int (iI ((((gk x) / 8) % 64) + (fsu ((a * 6) + b))))), (6, .int (iI (((gk x) / 512) + (ffu ((a * 6) + b))))), (5, .int (iI (((gk x) % 8) - 1))), (4, .int (iI x)), (3, .int (iI ((a * 6) + b))), (0, .ref y0), (1, .int (iI a)), (2, .int (iI b))]) std_Y_findKeysBehind_111 (by decide) rfl ?_
            refine g_iload C 0 std_Y_findKeysBehind_113 rfl ?_
            refine g_if_ne (tgt := 136) C std_Y_findKeysBehind_115 (by decide) (by decide) (fun c36 => ?_) (fun c36 => ?_)
            · refine g_iconst C std_Y_findKeysBehind_136 ?_
              refine g_istore C (lv' := [(9, .int (iI 0)), (8, .int (iI 1)), (7, .int (iI ((((gk x) / 8) % 64) + (fsu ((a * 6) + b))))), (6, .int (iI (((gk x) / 512) + (ffu ((a * 6) + b))))), (5, .int (iI (((gk x) % 8) - 1))), (4, .int (iI x)), (3, .int (iI ((a * 6) + b))), (0, .ref y0), (1, .int (iI a)), (2, .int (iI b))]) std_Y_findKeysBehind_137 (by decide) rfl ?_
              refine g_aload_n C 7 std_Y_findKeysBehind_139 rfl ?_
              refine g_get C (st_sub sti_Y) 0 rfl rfl 8 (by decide) (List.mem_cons_of_mem _ kw_1_99) rfl rfl std_Y_findKeysBehind_140 ?_
              refine g_iload C 5 std_Y_findKeysBehind_143 rfl ?_
              refine g_bipush C std_Y_findKeysBehind_145 (by decide) ?_
              refine g_imul C std_Y_findKeysBehind_147 ?_
              refine g_iload_n C 9 std_Y_findKeysBehind_148 rfl ?_
              refine g_iadd C std_Y_findKeysBehind_149 ?_
              refine g_iload C 0 std_Y_findKeysBehind_150 rfl ?_
              refine g_if_eq (tgt := 166) C std_Y_findKeysBehind_152 (by decide) (by decide) (fun c37 => ?_) (fun c37 => ?_)
              · refine g_iconst C std_Y_findKeysBehind_166 ?_
                refine g_iast C (ws' := [(y0, .inr (2, [.ref t0, .int (iI total), .ref ys, .ref yk, .ref yc, .ref yd, .ref yw, .ref yx, .ref yb, .ref yu])), (ys, .inl (cI, aI 14 gst)), (yk, .inl (cI, aI cap gk)), (yb, .inl (cI, aI (6 * cap) (uZ F ((x * 6) + b) (-1)))), (t0, .inr (1, [.int (iI steps), .int (iI choices), .int (iI bars), .ref hs, .ref hc, .ref hf, .ref hg, .ref hb, .ref he, .ref hm])), (hf, .inl (cI, aI 72 ffu)), (hg, .inl (cI, aI 72 fsu)), (hb, .inl (cI, aI 72 fbb)), (hm, .inl (cI, aI 2 fmo))]) 3 0 rfl rfl (by omega) (by omega) (by omega) std_Y_findKeysBehind_167 rfl ?_
                refine g_iinc C (lv' := [(4, .int (iI (x + 1))), (9, .int (iI 0)), (8, .int (iI 1)), (7, .int (iI ((((gk x) / 8) % 64) + (fsu ((a * 6) + b))))), (6, .int (iI (((gk x) / 512) + (ffu ((a * 6) + b))))), (5, .int (iI (((gk x) % 8) - 1))), (3, .int (iI ((a * 6) + b))), (0, .ref y0), (1, .int (iI a)), (2, .int (iI b))]) 5 std_Y_findKeysBehind_168 rfl (by decide) rfl ?_
                refine g_goto (tgt := 14) C std_Y_findKeysBehind_171 (by decide) ?_
                refine g_lv (lv' := [(4, .int (iI (x + 1))), (3, .int (iI ((a * 6) + b))), (0, .ref y0), (1, .int (iI a)), (2, .int (iI b))]) [0, 6, 7, 8, 9] rfl ?_
                refine g_wide (k := 0) (n := 0) (Nat.le_of_ble_eq_true rfl) (Nat.le_of_ble_eq_true rfl) ?_
                exact ih14 (x + 1) (uZ F ((x * 6) + b) (-1)) (by omega) (fk_1 kF1 (by omega) ((kn_shut (fun h => by have h1 := h.1; have h2 := h.2; omega)).symm)) (fk_2 kF2 (by omega)) (by omega)
              · exfalso; omega
            · exfalso; omega
  refine g_wide (k := 0) (n := 0) (Nat.le_of_ble_eq_true rfl) (Nat.le_of_ble_eq_true rfl) ?_
  obtain ⟨nn0, hnn0⟩ : ∃ nn0 : Nat, (gst (a + 1) - (gst a)) < (nn0 : Int) := z_nat _
  exact L14 nn0 (gst a) gbe (by omega) (fun i h1 h2 => absurd h1 (by omega)) (fun j _ => rfl) hnn0

abbrev sty_Y_skipUnfollowed : MethodName := ⟨"StateTables$Layers", "skipUnfollowed", "(II)V"⟩
abbrev stc_Y_skipUnfollowed : ByteArray := prog_3_method_11_code
theorem sth_Y_skipUnfollowed : (sty_Y_skipUnfollowed).cls ≠ "java/lang/invoke/MethodHandle" ∧ (sty_Y_skipUnfollowed).cls ≠ "java/lang/invoke/VarHandle" ∧ (parseMethodDescriptor (sty_Y_skipUnfollowed).desc).map (fun d => d.parameters.length) = some 2 := by decide +kernel
theorem std_Y_skipUnfollowed_0 : decode stc_Y_skipUnfollowed 0 = .ok (.aload_n 0, 1) := by decide +kernel
theorem std_Y_skipUnfollowed_1 : decode stc_Y_skipUnfollowed 1 = .ok (.getfield 34, 3) := by decide +kernel
theorem kw_1_100 : Cond.fieldLink "StateTables$Layers" 34 "StateTables$Layers" "cursors" "[I" ∈ stGW := st_t1 (List.mem_of_getElem? (i := 100) (by decide +kernel)) (by decide +kernel)
theorem std_Y_skipUnfollowed_4 : decode stc_Y_skipUnfollowed 4 = .ok (.iload_n 2, 1) := by decide +kernel
theorem std_Y_skipUnfollowed_5 : decode stc_Y_skipUnfollowed 5 = .ok (.iaload, 1) := by decide +kernel
theorem std_Y_skipUnfollowed_6 : decode stc_Y_skipUnfollowed 6 = .ok (.istore_n 3, 1) := by decide +kernel
theorem std_Y_skipUnfollowed_7 : decode stc_Y_skipUnfollowed 7 = .ok (.iload_n 3, 1) := by decide +kernel
theorem std_Y_skipUnfollowed_8 : decode stc_Y_skipUnfollowed 8 = .ok (.aload_n 0, 1) := by decide +kernel
theorem std_Y_skipUnfollowed_9 : decode stc_Y_skipUnfollowed 9 = .ok (.getfield 9, 3) := by decide +kernel
theorem std_Y_skipUnfollowed_12 : decode stc_Y_skipUnfollowed 12 = .ok (.iload_n 1, 1) := by decide +kernel
theorem std_Y_skipUnfollowed_13 : decode stc_Y_skipUnfollowed 13 = .ok (.iconst 1, 1) := by decide +kernel
theorem std_Y_skipUnfollowed_14 : decode stc_Y_skipUnfollowed 14 = .ok (.iadd, 1) := by decide +kernel
theorem std_Y_skipUnfollowed_15 : decode stc_Y_skipUnfollowed 15 = .ok (.iaload, 1) := by decide +kernel
theorem std_Y_skipUnfollowed_16 : decode stc_Y_skipUnfollowed 16 = .ok (.if_icmp .ge 19, 3) := by decide +kernel
theorem std_Y_skipUnfollowed_35 : decode stc_Y_skipUnfollowed 35 = .ok (.aload_n 0, 1) := by decide +kernel
theorem std_Y_skipUnfollowed_36 : decode stc_Y_skipUnfollowed 36 = .ok (.getfield 34, 3) := by decide +kernel
theorem std_Y_skipUnfollowed_39 : decode stc_Y_skipUnfollowed 39 = .ok (.iload_n 2, 1) := by decide +kernel
theorem std_Y_skipUnfollowed_40 : decode stc_Y_skipUnfollowed 40 = .ok (.iload_n 3, 1) := by decide +kernel
theorem std_Y_skipUnfollowed_41 : decode stc_Y_skipUnfollowed 41 = .ok (.iastore, 1) := by decide +kernel
theorem std_Y_skipUnfollowed_42 : decode stc_Y_skipUnfollowed 42 = .ok (.return_, 1) := by decide +kernel
theorem std_Y_skipUnfollowed_19 : decode stc_Y_skipUnfollowed 19 = .ok (.aload_n 0, 1) := by decide +kernel
theorem std_Y_skipUnfollowed_20 : decode stc_Y_skipUnfollowed 20 = .ok (.iload_n 3, 1) := by decide +kernel
theorem std_Y_skipUnfollowed_21 : decode stc_Y_skipUnfollowed 21 = .ok (.iload_n 2, 1) := by decide +kernel
theorem std_Y_skipUnfollowed_22 : decode stc_Y_skipUnfollowed 22 = .ok (.invokevirtual 129, 3) := by decide +kernel
theorem kw_2_101 : Cond.code sty_Y_nodeBehind stc_Y_nodeBehind 3 (some .int) ∈ stGW := st_t2 (List.mem_of_getElem? (i := 101) (by decide +kernel)) (by decide +kernel)
theorem kw_2_98 : Cond.methodLink "StateTables$Layers" 129 (sty_Y_nodeBehind) ∈ stGW := st_t2 (List.mem_of_getElem? (i := 98) (by decide +kernel)) (by decide +kernel)
theorem kw_2_99 : Cond.instanceMethod (sty_Y_nodeBehind) ∈ stGW := st_t2 (List.mem_of_getElem? (i := 99) (by decide +kernel)) (by decide +kernel)
theorem kw_2_100 : Cond.selects "StateTables$Layers" (sty_Y_nodeBehind) (sty_Y_nodeBehind) ∈ stGW := st_t2 (List.mem_of_getElem? (i := 100) (by decide +kernel)) (by decide +kernel)
theorem std_Y_skipUnfollowed_25 : decode stc_Y_skipUnfollowed 25 = .ok (.iconst (-1), 1) := by decide +kernel
theorem std_Y_skipUnfollowed_26 : decode stc_Y_skipUnfollowed 26 = .ok (.if_icmp .ne 9, 3) := by decide +kernel
theorem std_Y_skipUnfollowed_29 : decode stc_Y_skipUnfollowed 29 = .ok (.iinc 3 1, 3) := by decide +kernel
theorem std_Y_skipUnfollowed_32 : decode stc_Y_skipUnfollowed 32 = .ok (.goto (-25), 3) := by decide +kernel
set_option maxHeartbeats 4000000 in
set_option maxRecDepth 100000 in
theorem c_skipUnfollowed (l : Launch) (dC : Nat → ClassId) (dI : Nat → Nat → Nat) (cI cJ cZ : ClassId) (y0 : Nat) (ys : Nat) (yk : Nat) (yc : Nat) (yd : Nat) (yw : Nat) (yx : Nat) (yb : Nat) (yu : Nat) (total : Int) (t0 : Nat) (cap : Nat) (gst : Int → Int) (gbe : Int → Int) (gcu : Int → Int) (a : Int) (b : Int) (kcap : cap ≤ 4801) (kgst : ∀ j, 0 ≤ j → j < 14 → 0 ≤ gst j ∧ gst j ≤ cap) (ka : 0 ≤ a ∧ a < 13) (kb : 0 ≤ b ∧ b < 6) (kc : 0 ≤ gcu b ∧ gcu b ≤ gst (a + 1)) (kbe : ∀ i, gcu b ≤ i → i < gst (a + 1) → rI (gbe ((i * 6) + b))) : ∀ sz, Met l sty_Y_skipUnfollowed (Cond.code sty_Y_skipUnfollowed stc_Y_skipUnfollowed 4 none :: stGW) ({ frames := 1, cells := 0, slots := 0, locals := 22 } : Room) (va_Pc [.ref y0, .int (iI a), .int (iI b)] (zPre (dC, dI) stCl [(cI, .int), (cJ, .long), (cZ, .boolean)] st_nw [(y0, .inr (2, [.ref t0, .int (iI total), .ref ys, .ref yk, .ref yc, .ref yd, .ref yw, .ref yx, .ref yb, .ref yu])), (ys, .inl (cI, aI 14 gst)), (yb, .inl (cI, aI (6 * cap) gbe)), (yu, .inl (cI, aI 6 gcu))] sz)) (va_Qv (fun (CU : Int → Int) => (∀ j, ¬ j = b → CU j = gcu j) ∧ (gcu b ≤ CU b ∧ CU b ≤ gst (a + 1)) ∧ (∀ i, gcu b ≤ i → i < CU b → gbe ((i * 6) + b) = -1) ∧ (CU b < gst (a + 1) → ¬ gbe ((CU b * 6) + b) = -1)) (zPost (dC, dI) stCl [(cI, .int), (cJ, .long), (cZ, .boolean)] [(y0, .inr (2, [.ref t0, .int (iI total), .ref ys, .ref yk, .ref yc, .ref yd, .ref yw, .ref yx, .ref yb, .ref yu])), (ys, .inl (cI, aI 14 gst)), (yb, .inl (cI, aI (6 * cap) gbe)), (yu, .inl (cI, aI 6 gcu))] sz (fun CU : Int → Int => [(y0, .inr (2, [.ref t0, .int (iI total), .ref ys, .ref yk, .ref yc, .ref yd, .ref yw, .ref yx, .ref yb, .ref yu])), (ys, .inl (cI, aI 14 gst)), (yb, .inl (cI, aI (6 * cap) gbe)), (yu, .inl (cI, aI 6 CU))])) (va_A [(y0, .inr (2, [.ref t0, .int (iI total), .ref ys, .ref yk, .ref yc, .ref yd, .ref yw, .ref yx, .ref yb, .ref yu])), (ys, .inl (cI, aI 14 gst)), (yb, .inl (cI, aI (6 * cap) gbe)), (yu, .inl (cI, aI 6 gcu))] sz)) 0 0 (va_A [(y0, .inr (2, [.ref t0, .int (iI total), .ref ys, .ref yk, .ref yc, .ref yd, .ref yw, .ref yx, .ref yb, .ref yu])), (ys, .inl (cI, aI 14 gst)), (yb, .inl (cI, aI (6 * cap) gbe)), (yu, .inl (cI, aI 6 gcu))] sz) := by
  refine met_v (by decide) rfl (Nat.le_of_ble_eq_true rfl) ?_
  intro p e s m below meth c A Q C hmn hret
  have hq1 := kgst (a + 1) (by omega) (by omega)
  refine g_aload_n C 0 std_Y_skipUnfollowed_0 rfl ?_
  refine g_get C (st_sub sti_Y) 0 rfl rfl 9 (by decide) (List.mem_cons_of_mem _ kw_1_100) rfl rfl std_Y_skipUnfollowed_1 ?_
  refine g_iload_n C 2 std_Y_skipUnfollowed_4 rfl ?_
  refine g_iald C 3 0 rfl rfl (by omega) (by omega) (by omega) std_Y_skipUnfollowed_5 ?_
  refine g_istore_n C (lv' := [(3, .int (iI (gcu b))), (0, .ref y0), (1, .int (iI a)), (2, .int (iI b))]) std_Y_skipUnfollowed_6 (by decide) rfl ?_
  have L7 : ∀ (nn7 : Nat) (x : Int), (gcu b ≤ x ∧ x ≤ gst (a + 1)) → (∀ i, gcu b ≤ i → i < x → gbe ((i * 6) + b) = -1) → (gst (a + 1) - x) < (nn7 : Int) → G p l e ({ frames := 1, cells := 0, slots := 0, locals := 22 } : Room) s m ([.ref y0, .int (iI a), .int (iI b)] : List Value).toArray below meth c (dC, dI) stCl 4 A 0 0 Q [(y0, .inr (2, [.ref t0, .int (iI total), .ref ys, .ref yk, .ref yc, .ref yd, .ref yw, .ref yx, .ref yb, .ref yu])), (ys, .inl (cI, aI 14 gst)), (yb, .inl (cI, aI (6 * cap) gbe)), (yu, .inl (cI, aI 6 gcu))] 7 [(3, .int (iI x)), (0, .ref y0), (1, .int (iI a)), (2, .int (iI b))] [] := by
    intro nn7
    induction nn7 with
    | zero =>
      intro x kx kS hnn7
      exact absurd hnn7 (by omega)
    | succ nn7 ih7 =>
      intro x kx kS hnn7
      refine g_iload_n C 0 std_Y_skipUnfollowed_7 rfl ?_
      refine g_aload_n C 1 std_Y_skipUnfollowed_8 rfl ?_
      refine g_get C (st_sub sti_Y) 0 rfl rfl 2 (by decide) (List.mem_cons_of_mem _ kw_1_86) rfl rfl std_Y_skipUnfollowed_9 ?_
      refine g_iload_n C 2 std_Y_skipUnfollowed_12 rfl ?_
      refine g_iconst C std_Y_skipUnfollowed_13 ?_
      refine g_iadd C std_Y_skipUnfollowed_14 ?_
      refine g_iald C 1 0 rfl rfl (by omega) (by omega) (by omega) std_Y_skipUnfollowed_15 ?_
      refine g_icmp_ge (tgt := 35) C std_Y_skipUnfollowed_16 (by decide) ⟨by omega, by omega⟩ ⟨by omega, by omega⟩ (fun c1 => ?_) (fun c1 => ?_)
      · refine g_aload_n C 1 std_Y_skipUnfollowed_35 rfl ?_
        refine g_get C (st_sub sti_Y) 0 rfl rfl 9 (by decide) (List.mem_cons_of_mem _ kw_1_100) rfl rfl std_Y_skipUnfollowed_36 ?_
        refine g_iload_n C 3 std_Y_skipUnfollowed_39 rfl ?_
        refine g_iload_n C 0 std_Y_skipUnfollowed_40 rfl ?_
        refine g_iast C (ws' := [(y0, .inr (2, [.ref t0, .int (iI total), .ref ys, .ref yk, .ref yc, .ref yd, .ref yw, .ref yx, .ref yb, .ref yu])), (ys, .inl (cI, aI 14 gst)), (yb, .inl (cI, aI (6 * cap) gbe)), (yu, .inl (cI, aI 6 (uZ gcu b x)))]) 3 0 rfl rfl (by omega) (by omega) (by omega) std_Y_skipUnfollowed_41 rfl ?_
        exact hret _ _ (uZ gcu b x) (⟨fun j h => uZ_n h, by rw [uZ_s]; exact kx, by rw [uZ_s]; exact kS, by rw [uZ_s]; exact fun h => by omega⟩) std_Y_skipUnfollowed_42
      · have hq2 := kbe x (by omega) (by omega)
        refine g_aload_n C 1 std_Y_skipUnfollowed_19 rfl ?_
        refine g_iload_n C 0 std_Y_skipUnfollowed_20 rfl ?_
        refine g_iload_n C 3 std_Y_skipUnfollowed_21 rfl ?_
        refine g_V_i (wc := [(y0, .inr (2, [.ref t0, .int (iI total), .ref ys, .ref yk, .ref yc, .ref yd, .ref yw, .ref yx, .ref yb, .ref yu])), (yb, .inl (cI, aI (6 * cap) gbe))]) (wr := [(ys, .inl (cI, aI 14 gst)), (yu, .inl (cI, aI 6 gcu))]) (rest := []) C (c_nodeBehind l dC dI cI cJ cZ y0 ys yk yc yd yw yx yb yu total t0 cap gbe x b (kcap) (by omega)) (st_cV C kw_2_101 kw_2_98 kw_1_3 kw_2_99 kw_2_100 sth_Y_nodeBehind ⟨Nat.le_of_ble_eq_true rfl, Nat.le_of_ble_eq_true rfl⟩) 0 rfl rfl rfl rfl (Nat.le_of_ble_eq_true rfl) std_Y_skipUnfollowed_22 ⟨Nat.le_of_ble_eq_true rfl, Nat.le_of_ble_eq_true rfl⟩ [0, 2] [1, 3] rfl rfl rfl rfl (by decide) (fun r2 u3 h4 => ?_)
        subst h4
        refine g_ws (ws' := [(ys, .inl (cI, aI 14 gst)), (yu, .inl (cI, aI 6 gcu)), (y0, .inr (2, [.ref t0, .int (iI total), .ref ys, .ref yk, .ref yc, .ref yd, .ref yw, .ref yx, .ref yb, .ref yu])), (yb, .inl (cI, aI (6 * cap) gbe))]) rfl ?_
        refine g_iconst C std_Y_skipUnfollowed_25 ?_
        refine g_icmp_ne (tgt := 35) C std_Y_skipUnfollowed_26 (by decide) ⟨by omega, by omega⟩ ⟨by omega, by omega⟩ (fun c5 => ?_) (fun c5 => ?_)
        · refine g_aload_n C 1 std_Y_skipUnfollowed_35 rfl ?_
          refine g_get C (st_sub sti_Y) 2 rfl rfl 9 (by decide) (List.mem_cons_of_mem _ kw_1_100) rfl rfl std_Y_skipUnfollowed_36 ?_
          refine g_iload_n C 3 std_Y_skipUnfollowed_39 rfl ?_
          refine g_iload_n C 0 std_Y_skipUnfollowed_40 rfl ?_
          refine g_iast C (ws' := [(ys, .inl (cI, aI 14 gst)), (yu, .inl (cI, aI 6 (uZ gcu b x))), (y0, .inr (2, [.ref t0, .int (iI total), .ref ys, .ref yk, .ref yc, .ref yd, .ref yw, .ref yx, .ref yb, .ref yu])), (yb, .inl (cI, aI (6 * cap) gbe))]) 1 0 rfl rfl (by omega) (by omega) (by omega) std_Y_skipUnfollowed_41 rfl ?_
          refine g_sub (ws' := [(y0, .inr (2, [.ref t0, .int (iI total), .ref ys, .ref yk, .ref yc, .ref yd, .ref yw, .ref yx, .ref yb, .ref yu])), (ys, .inl (cI, aI 14 gst)), (yb, .inl (cI, aI (6 * cap) gbe)), (yu, .inl (cI, aI 6 (uZ gcu b x)))]) [2, 0, 3, 1] rfl rfl ?_
          refine g_wide (k := 0) (n := 0) (Nat.le_of_ble_eq_true rfl) (Nat.le_of_ble_eq_true rfl) ?_
          exact hret _ _ (uZ gcu b x) (⟨fun j h => uZ_n h, by rw [uZ_s]; exact kx, by rw [uZ_s]; exact kS, by rw [uZ_s]; exact fun h => by omega⟩) std_Y_skipUnfollowed_42
        · refine g_iinc C (lv' := [(3, .int (iI (x + 1))), (0, .ref y0), (1, .int (iI a)), (2, .int (iI b))]) 0 std_Y_skipUnfollowed_29 rfl (by decide) rfl ?_
          refine g_goto (tgt := 7) C std_Y_skipUnfollowed_32 (by decide) ?_
          refine g_sub (ws' := [(y0, .inr (2, [.ref t0, .int (iI total), .ref ys, .ref yk, .ref yc, .ref yd, .ref yw, .ref yx, .ref yb, .ref yu])), (ys, .inl (cI, aI 14 gst)), (yb, .inl (cI, aI (6 * cap) gbe)), (yu, .inl (cI, aI 6 gcu))]) [2, 0, 3, 1] rfl rfl ?_
          refine g_wide (k := 0) (n := 0) (Nat.le_of_ble_eq_true rfl) (Nat.le_of_ble_eq_true rfl) ?_
          exact ih7 (x + 1) (by omega) (sk_1 kS (by omega)) (by omega)
  obtain ⟨nn0, hnn0⟩ : ∃ nn0 : Nat, (gst (a + 1) - (gcu b)) < (nn0 : Int) := z_nat _
  exact L7 nn0 (gcu b) (by omega) (fun i h1 h2 => absurd h1 (by omega)) hnn0

abbrev sty_Y_choiceWithLeastKey : MethodName := ⟨"StateTables$Layers", "choiceWithLeastKey", "(I)I"⟩
abbrev stc_Y_choiceWithLeastKey : ByteArray := prog_3_method_12_code
theorem sth_Y_choiceWithLeastKey : (sty_Y_choiceWithLeastKey).cls ≠ "java/lang/invoke/MethodHandle" ∧ (sty_Y_choiceWithLeastKey).cls ≠ "java/lang/invoke/VarHandle" ∧ (parseMethodDescriptor (sty_Y_choiceWithLeastKey).desc).map (fun d => d.parameters.length) = some 1 := by decide +kernel
theorem std_Y_choiceWithLeastKey_0 : decode stc_Y_choiceWithLeastKey 0 = .ok (.iconst (-1), 1) := by decide +kernel
theorem std_Y_choiceWithLeastKey_1 : decode stc_Y_choiceWithLeastKey 1 = .ok (.istore_n 2, 1) := by decide +kernel
theorem std_Y_choiceWithLeastKey_2 : decode stc_Y_choiceWithLeastKey 2 = .ok (.iconst 0, 1) := by decide +kernel
theorem std_Y_choiceWithLeastKey_3 : decode stc_Y_choiceWithLeastKey 3 = .ok (.istore_n 3, 1) := by decide +kernel
theorem std_Y_choiceWithLeastKey_4 : decode stc_Y_choiceWithLeastKey 4 = .ok (.iconst 0, 1) := by decide +kernel
theorem std_Y_choiceWithLeastKey_5 : decode stc_Y_choiceWithLeastKey 5 = .ok (.istore 4, 2) := by decide +kernel
theorem std_Y_choiceWithLeastKey_7 : decode stc_Y_choiceWithLeastKey 7 = .ok (.iload 4, 2) := by decide +kernel
theorem std_Y_choiceWithLeastKey_9 : decode stc_Y_choiceWithLeastKey 9 = .ok (.aload_n 0, 1) := by decide +kernel
theorem std_Y_choiceWithLeastKey_10 : decode stc_Y_choiceWithLeastKey 10 = .ok (.getfield 37, 3) := by decide +kernel
theorem std_Y_choiceWithLeastKey_13 : decode stc_Y_choiceWithLeastKey 13 = .ok (.getfield 66, 3) := by decide +kernel
theorem kw_1_36 : Cond.fieldLink "StateTables$Layers" 66 "StateTables$Told" "sizes" "[I" ∈ stGW := st_t1 (List.mem_of_getElem? (i := 36) (by decide +kernel)) (by decide +kernel)
theorem std_Y_choiceWithLeastKey_16 : decode stc_Y_choiceWithLeastKey 16 = .ok (.iload_n 1, 1) := by decide +kernel
theorem std_Y_choiceWithLeastKey_17 : decode stc_Y_choiceWithLeastKey 17 = .ok (.iaload, 1) := by decide +kernel
theorem std_Y_choiceWithLeastKey_18 : decode stc_Y_choiceWithLeastKey 18 = .ok (.if_icmp .ge 58, 3) := by decide +kernel
theorem std_Y_choiceWithLeastKey_76 : decode stc_Y_choiceWithLeastKey 76 = .ok (.iload_n 2, 1) := by decide +kernel
theorem std_Y_choiceWithLeastKey_77 : decode stc_Y_choiceWithLeastKey 77 = .ok (.ireturn, 1) := by decide +kernel
theorem std_Y_choiceWithLeastKey_21 : decode stc_Y_choiceWithLeastKey 21 = .ok (.aload_n 0, 1) := by decide +kernel
theorem std_Y_choiceWithLeastKey_22 : decode stc_Y_choiceWithLeastKey 22 = .ok (.getfield 34, 3) := by decide +kernel
theorem std_Y_choiceWithLeastKey_25 : decode stc_Y_choiceWithLeastKey 25 = .ok (.iload 4, 2) := by decide +kernel
theorem std_Y_choiceWithLeastKey_27 : decode stc_Y_choiceWithLeastKey 27 = .ok (.iaload, 1) := by decide +kernel
theorem std_Y_choiceWithLeastKey_28 : decode stc_Y_choiceWithLeastKey 28 = .ok (.aload_n 0, 1) := by decide +kernel
theorem std_Y_choiceWithLeastKey_29 : decode stc_Y_choiceWithLeastKey 29 = .ok (.getfield 9, 3) := by decide +kernel
theorem std_Y_choiceWithLeastKey_32 : decode stc_Y_choiceWithLeastKey 32 = .ok (.iload_n 1, 1) := by decide +kernel
theorem std_Y_choiceWithLeastKey_33 : decode stc_Y_choiceWithLeastKey 33 = .ok (.iconst 1, 1) := by decide +kernel
theorem std_Y_choiceWithLeastKey_34 : decode stc_Y_choiceWithLeastKey 34 = .ok (.iadd, 1) := by decide +kernel
theorem std_Y_choiceWithLeastKey_35 : decode stc_Y_choiceWithLeastKey 35 = .ok (.iaload, 1) := by decide +kernel
theorem std_Y_choiceWithLeastKey_36 : decode stc_Y_choiceWithLeastKey 36 = .ok (.if_icmp .ge 34, 3) := by decide +kernel
theorem std_Y_choiceWithLeastKey_70 : decode stc_Y_choiceWithLeastKey 70 = .ok (.iinc 4 1, 3) := by decide +kernel
theorem std_Y_choiceWithLeastKey_73 : decode stc_Y_choiceWithLeastKey 73 = .ok (.goto (-66), 3) := by decide +kernel
theorem std_Y_choiceWithLeastKey_39 : decode stc_Y_choiceWithLeastKey 39 = .ok (.aload_n 0, 1) := by decide +kernel
theorem std_Y_choiceWithLeastKey_40 : decode stc_Y_choiceWithLeastKey 40 = .ok (.aload_n 0, 1) := by decide +kernel
theorem std_Y_choiceWithLeastKey_41 : decode stc_Y_choiceWithLeastKey 41 = .ok (.getfield 34, 3) := by decide +kernel
theorem std_Y_choiceWithLeastKey_44 : decode stc_Y_choiceWithLeastKey 44 = .ok (.iload 4, 2) := by decide +kernel
theorem std_Y_choiceWithLeastKey_46 : decode stc_Y_choiceWithLeastKey 46 = .ok (.iaload, 1) := by decide +kernel
theorem std_Y_choiceWithLeastKey_47 : decode stc_Y_choiceWithLeastKey 47 = .ok (.iload 4, 2) := by decide +kernel
theorem std_Y_choiceWithLeastKey_49 : decode stc_Y_choiceWithLeastKey 49 = .ok (.invokevirtual 129, 3) := by decide +kernel
theorem std_Y_choiceWithLeastKey_52 : decode stc_Y_choiceWithLeastKey 52 = .ok (.istore 5, 2) := by decide +kernel
theorem std_Y_choiceWithLeastKey_54 : decode stc_Y_choiceWithLeastKey 54 = .ok (.iload_n 2, 1) := by decide +kernel
theorem std_Y_choiceWithLeastKey_55 : decode stc_Y_choiceWithLeastKey 55 = .ok (.ifCond .lt 9, 3) := by decide +kernel
theorem std_Y_choiceWithLeastKey_64 : decode stc_Y_choiceWithLeastKey 64 = .ok (.iload 4, 2) := by decide +kernel
theorem std_Y_choiceWithLeastKey_66 : decode stc_Y_choiceWithLeastKey 66 = .ok (.istore_n 2, 1) := by decide +kernel
theorem std_Y_choiceWithLeastKey_67 : decode stc_Y_choiceWithLeastKey 67 = .ok (.iload 5, 2) := by decide +kernel
theorem std_Y_choiceWithLeastKey_69 : decode stc_Y_choiceWithLeastKey 69 = .ok (.istore_n 3, 1) := by decide +kernel
theorem std_Y_choiceWithLeastKey_58 : decode stc_Y_choiceWithLeastKey 58 = .ok (.iload 5, 2) := by decide +kernel
theorem std_Y_choiceWithLeastKey_60 : decode stc_Y_choiceWithLeastKey 60 = .ok (.iload_n 3, 1) := by decide +kernel
theorem std_Y_choiceWithLeastKey_61 : decode stc_Y_choiceWithLeastKey 61 = .ok (.if_icmp .ge 9, 3) := by decide +kernel
set_option maxHeartbeats 4000000 in
set_option maxRecDepth 100000 in
theorem c_choiceWithLeastKey (l : Launch) (dC : Nat → ClassId) (dI : Nat → Nat → Nat) (cI cJ cZ : ClassId) (y0 : Nat) (ys : Nat) (yk : Nat) (yc : Nat) (yd : Nat) (yw : Nat) (yx : Nat) (yb : Nat) (yu : Nat) (total : Int) (t0 : Nat) (hs : Nat) (hc : Nat) (hf : Nat) (hg : Nat) (hb : Nat) (he : Nat) (hm : Nat) (steps : Int) (choices : Int) (bars : Int) (cap : Nat) (gst : Int → Int) (gbe : Int → Int) (gcu : Int → Int) (fsz : Int → Int) (a : Int) (kcap : cap ≤ 4801) (kgst : ∀ j, 0 ≤ j → j < 14 → 0 ≤ gst j ∧ gst j ≤ cap) (ksz : ∀ j, 0 ≤ j → j < 12 → 0 ≤ fsz j ∧ fsz j ≤ 6) (ka : 0 ≤ a ∧ a < 12) (kcu : ∀ i, 0 ≤ i → i < fsz a → 0 ≤ gcu i ∧ gcu i ≤ gst (a + 1)) (kbe : ∀ c, 0 ≤ c → c < fsz a → gcu c < gst (a + 1) → rI (gbe ((gcu c * 6) + c))) : ∀ sz, Met l sty_Y_choiceWithLeastKey (Cond.code sty_Y_choiceWithLeastKey stc_Y_choiceWithLeastKey 6 (some .int) :: stGW) ({ frames := 1, cells := 0, slots := 0, locals := 22 } : Room) (va_Pc [.ref y0, .int (iI a)] (zPre (dC, dI) stCl [(cI, .int), (cJ, .long), (cZ, .boolean)] st_nw [(y0, .inr (2, [.ref t0, .int (iI total), .ref ys, .ref yk, .ref yc, .ref yd, .ref yw, .ref yx, .ref yb, .ref yu])), (ys, .inl (cI, aI 14 gst)), (yb, .inl (cI, aI (6 * cap) gbe)), (yu, .inl (cI, aI 6 gcu)), (t0, .inr (1, [.int (iI steps), .int (iI choices), .int (iI bars), .ref hs, .ref hc, .ref hf, .ref hg, .ref hb, .ref he, .ref hm])), (hs, .inl (cI, aI 12 fsz))] sz)) (va_Qi (fun (r : Int32) (u : Int × Int) => r = iI u.1 ∧ CWp gcu gbe (gst (a + 1)) (fsz a) u.1 u.2) (zPost (dC, dI) stCl [(cI, .int), (cJ, .long), (cZ, .boolean)] [(y0, .inr (2, [.ref t0, .int (iI total), .ref ys, .ref yk, .ref yc, .ref yd, .ref yw, .ref yx, .ref yb, .ref yu])), (ys, .inl (cI, aI 14 gst)), (yb, .inl (cI, aI (6 * cap) gbe)), (yu, .inl (cI, aI 6 gcu)), (t0, .inr (1, [.int (iI steps), .int (iI choices), .int (iI bars), .ref hs, .ref hc, .ref hf, .ref hg, .ref hb, .ref he, .ref hm])), (hs, .inl (cI, aI 12 fsz))] sz (fun _ : Int × Int => [(y0, .inr (2, [.ref t0, .int (iI total), .ref ys, .ref yk, .ref yc, .ref yd, .ref yw, .ref yx, .ref yb, .ref yu])), (ys, .inl (cI, aI 14 gst)), (yb, .inl (cI, aI (6 * cap) gbe)), (yu, .inl (cI, aI 6 gcu)), (t0, .inr (1, [.int (iI steps), .int (iI choices), .int (iI bars), .ref hs, .ref hc, .ref hf, .ref hg, .ref hb, .ref he, .ref hm])), (hs, .inl (cI, aI 12 fsz))])) (va_A [(y0, .inr (2, [.ref t0, .int (iI total), .ref ys, .ref yk, .ref yc, .ref yd, .ref yw, .ref yx, .ref yb, .ref yu])), (ys, .inl (cI, aI 14 gst)), (yb, .inl (cI, aI (6 * cap) gbe)), (yu, .inl (cI, aI 6 gcu)), (t0, .inr (1, [.int (iI steps), .int (iI choices), .int (iI bars), .ref hs, .ref hc, .ref hf, .ref hg, .ref hb, .ref he, .ref hm])), (hs, .inl (cI, aI 12 fsz))] sz)) 0 0 (va_A [(y0, .inr (2, [.ref t0, .int (iI total), .ref ys, .ref yk, .ref yc, .ref yd, .ref yw, .ref yx, .ref yb, .ref yu])), (ys, .inl (cI, aI 14 gst)), (yb, .inl (cI, aI (6 * cap) gbe)), (yu, .inl (cI, aI 6 gcu)), (t0, .inr (1, [.int (iI steps), .int (iI choices), .int (iI bars), .ref hs, .ref hc, .ref hf, .ref hg, .ref hb, .ref he, .ref hm])), (hs, .inl (cI, aI 12 fsz))] sz) := by
  refine met_i (by decide) rfl (Nat.le_of_ble_eq_true rfl) ?_
  intro p e s m below meth c A Q C hmn hret
  have hq1 := kgst (a + 1) (by omega) (by omega)
  have hq0 := ksz a (by omega) (by omega)
  refine g_iconst C std_Y_choiceWithLeastKey_0 ?_
  refine g_istore_n C (lv' := [(2, .int (iI (-1))), (0, .ref y0), (1, .int (iI a))]) std_Y_choiceWithLeastKey_1 (by decide) rfl ?_
  refine g_iconst C std_Y_choiceWithLeastKey_2 ?_
  refine g_istore_n C (lv' := [(3, .int (iI 0)), (2, .int (iI (-1))), (0, .ref y0), (1, .int (iI a))]) std_Y_choiceWithLeastKey_3 (by decide) rfl ?_
  refine g_iconst C std_Y_choiceWithLeastKey_4 ?_
  refine g_istore C (lv' := [(4, .int (iI 0)), (3, .int (iI 0)), (2, .int (iI (-1))), (0, .ref y0), (1, .int (iI a))]) std_Y_choiceWithLeastKey_5 (by decide) rfl ?_
  have L7 : ∀ (nn7 : Nat) (x : Int) (lk : Int) (fo : Int), (0 ≤ x ∧ x ≤ fsz a) → (-1 ≤ fo ∧ fo < 6) → rI lk → CWp gcu gbe (gst (a + 1)) x fo lk → (fsz a - x) < (nn7 : Int) → G p l e ({ frames := 1, cells := 0, slots := 0, locals := 22 } : Room) s m ([.ref y0, .int (iI a)] : List Value).toArray below meth c (dC, dI) stCl 6 A 0 0 Q [(y0, .inr (2, [.ref t0, .int (iI total), .ref ys, .ref yk, .ref yc, .ref yd, .ref yw, .ref yx, .ref yb, .ref yu])), (ys, .inl (cI, aI 14 gst)), (yb, .inl (cI, aI (6 * cap) gbe)), (yu, .inl (cI, aI 6 gcu)), (t0, .inr (1, [.int (iI steps), .int (iI choices), .int (iI bars), .ref hs, .ref hc, .ref hf, .ref hg, .ref hb, .ref he, .ref hm])), (hs, .inl (cI, aI 12 fsz))] 7 [(4, .int (iI x)), (3, .int (iI lk)), (2, .int (iI fo)), (0, .ref y0), (1, .int (iI a))] [] := by
    intro nn7
    induction nn7 with
    | zero =>
      intro x lk fo kx kf kl kC hnn7
      exact absurd hnn7 (by omega)
    | succ nn7 ih7 =>
      intro x lk fo kx kf kl kC hnn7
      refine g_iload C 0 std_Y_choiceWithLeastKey_7 rfl ?_
      refine g_aload_n C 3 std_Y_choiceWithLeastKey_9 rfl ?_
      refine g_get C (st_sub sti_Y) 0 rfl rfl 0 (by decide) (List.mem_cons_of_mem _ kw_1_83) rfl rfl std_Y_choiceWithLeastKey_10 ?_
      refine g_get C (st_sub sti_T) 4 rfl rfl 3 (by decide) (List.mem_cons_of_mem _ kw_1_36) rfl rfl std_Y_choiceWithLeastKey_13 ?_
      refine g_iload_n C 4 std_Y_choiceWithLeastKey_16 rfl ?_
      refine g_iald C 5 0 rfl rfl (by omega) (by omega) (by omega) std_Y_choiceWithLeastKey_17 ?_
      refine g_icmp_ge (tgt := 76) C std_Y_choiceWithLeastKey_18 (by decide) ⟨by omega, by omega⟩ ⟨by omega, by omega⟩ (fun c1 => ?_) (fun c1 => ?_)
      · refine g_iload_n C 2 std_Y_choiceWithLeastKey_76 rfl ?_
        exact hret _ _ _ (fo, lk) (⟨rfl, (show x = fsz a by omega) ▸ kC⟩) std_Y_choiceWithLeastKey_77
      · have hq2 := kcu x (by omega) (by omega)
        refine g_aload_n C 3 std_Y_choiceWithLeastKey_21 rfl ?_
        refine g_get C (st_sub sti_Y) 0 rfl rfl 9 (by decide) (List.mem_cons_of_mem _ kw_1_100) rfl rfl std_Y_choiceWithLeastKey_22 ?_
        refine g_iload C 0 std_Y_choiceWithLeastKey_25 rfl ?_
        refine g_iald C 3 0 rfl rfl (by omega) (by omega) (by omega) std_Y_choiceWithLeastKey_27 ?_
        refine g_aload_n C 3 std_Y_choiceWithLeastKey_28 rfl ?_
        refine g_get C (st_sub sti_Y) 0 rfl rfl 2 (by decide) (List.mem_cons_of_mem _ kw_1_86) rfl rfl std_Y_choiceWithLeastKey_29 ?_
        refine g_iload_n C 4 std_Y_choiceWithLeastKey_32 rfl ?_
        refine g_iconst C std_Y_choiceWithLeastKey_33 ?_
        refine g_iadd C std_Y_choiceWithLeastKey_34 ?_
        refine g_iald C 1 0 rfl rfl (by omega) (by omega) (by omega) std_Y_choiceWithLeastKey_35 ?_
        refine g_icmp_ge (tgt := 70) C std_Y_choiceWithLeastKey_36 (by decide) ⟨by omega, by omega⟩ ⟨by omega, by omega⟩ (fun c2 => ?_) (fun c2 => ?_)
        · refine g_iinc C (lv' := [(4, .int (iI (x + 1))), (3, .int (iI lk)), (2, .int (iI fo)), (0, .ref y0), (1, .int (iI a))]) 0 std_Y_choiceWithLeastKey_70 rfl (by decide) rfl ?_
          refine g_goto (tgt := 7) C std_Y_choiceWithLeastKey_73 (by decide) ?_
          exact ih7 (x + 1) lk fo (by omega) (by omega) (by constructor <;> omega) (by first | exact cw_0 | exact cw_1 kC (by omega) | exact cw_2 kC (by omega) (by omega) (by omega) | exact cw_3 kC (by omega) (by omega) | exact cw_4 kC (by omega) (by omega) (by omega) (by omega)) (by omega)
        · refine g_aload_n C 3 std_Y_choiceWithLeastKey_39 rfl ?_
          refine g_aload_n C 3 std_Y_choiceWithLeastKey_40 rfl ?_
          refine g_get C (st_sub sti_Y) 0 rfl rfl 9 (by decide) (List.mem_cons_of_mem _ kw_1_100) rfl rfl std_Y_choiceWithLeastKey_41 ?_
          refine g_iload C 0 std_Y_choiceWithLeastKey_44 rfl ?_
          refine g_iald C 3 0 rfl rfl (by omega) (by omega) (by omega) std_Y_choiceWithLeastKey_46 ?_
          refine g_iload C 0 std_Y_choiceWithLeastKey_47 rfl ?_
          refine g_V_i (wc := [(y0, .inr (2, [.ref t0, .int (iI total), .ref ys, .ref yk, .ref yc, .ref yd, .ref yw, .ref yx, .ref yb, .ref yu])), (yb, .inl (cI, aI (6 * cap) gbe))]) (wr := [(ys, .inl (cI, aI 14 gst)), (yu, .inl (cI, aI 6 gcu)), (t0, .inr (1, [.int (iI steps), .int (iI choices), .int (iI bars), .ref hs, .ref hc, .ref hf, .ref hg, .ref hb, .ref he, .ref hm])), (hs, .inl (cI, aI 12 fsz))]) (rest := []) C (c_nodeBehind l dC dI cI cJ cZ y0 ys yk yc yd yw yx yb yu total t0 cap gbe (gcu x) x (kcap) (by omega)) (st_cV C kw_2_101 kw_2_98 kw_1_3 kw_2_99 kw_2_100 sth_Y_nodeBehind ⟨Nat.le_of_ble_eq_true rfl, Nat.le_of_ble_eq_true rfl⟩) 0 rfl rfl rfl rfl (Nat.le_of_ble_eq_true rfl) std_Y_choiceWithLeastKey_49 ⟨Nat.le_of_ble_eq_true rfl, Nat.le_of_ble_eq_true rfl⟩ [0, 2] [1, 3, 4, 5] rfl rfl rfl rfl (by decide) (fun r3 u4 h5 => ?_)
          subst h5
          refine g_ws (ws' := [(ys, .inl (cI, aI 14 gst)), (yu, .inl (cI, aI 6 gcu)), (t0, .inr (1, [.int (iI steps), .int (iI choices), .int (iI bars), .ref hs, .ref hc, .ref hf, .ref hg, .ref hb, .ref he, .ref hm])), (hs, .inl (cI, aI 12 fsz)), (y0, .inr (2, [.ref t0, .int (iI total), .ref ys, .ref yk, .ref yc, .ref yd, .ref yw, .ref yx, .ref yb, .ref yu])), (yb, .inl (cI, aI (6 * cap) gbe))]) rfl ?_
          refine g_istore C (lv' := [(5, .int (iI (gbe (((gcu x) * 6) + x)))), (4, .int (iI x)), (3, .int (iI lk)), (2, .int (iI fo)), (0, .ref y0), (1, .int (iI a))]) std_Y_choiceWithLeastKey_52 (by decide) rfl ?_
          have hq3 := kbe x (by omega) (by omega) (by omega)
          refine g_iload_n C 3 std_Y_choiceWithLeastKey_54 rfl ?_
          refine g_if_lt (tgt := 64) C std_Y_choiceWithLeastKey_55 (by decide) ⟨by omega, by omega⟩ (fun c6 => ?_) (fun c6 => ?_)
          · refine g_iload C 1 std_Y_choiceWithLeastKey_64 rfl ?_
            refine g_istore_n C (lv' := [(2, .int (iI x)), (5, .int (iI (gbe (((gcu x) * 6) + x)))), (4, .int (iI x)), (3, .int (iI lk)), (0, .ref y0), (1, .int (iI a))]) std_Y_choiceWithLeastKey_66 (by decide) rfl ?_
            refine g_iload C 1 std_Y_choiceWithLeastKey_67 rfl ?_
            refine g_istore_n C (lv' := [(3, .int (iI (gbe (((gcu x) * 6) + x)))), (2, .int (iI x)), (5, .int (iI (gbe (((gcu x) * 6) + x)))), (4, .int (iI x)), (0, .ref y0), (1, .int (iI a))]) std_Y_choiceWithLeastKey_69 (by decide) rfl ?_
            refine g_iinc C (lv' := [(4, .int (iI (x + 1))), (3, .int (iI (gbe (((gcu x) * 6) + x)))), (2, .int (iI x)), (5, .int (iI (gbe (((gcu x) * 6) + x)))), (0, .ref y0), (1, .int (iI a))]) 3 std_Y_choiceWithLeastKey_70 rfl (by decide) rfl ?_
            refine g_goto (tgt := 7) C std_Y_choiceWithLeastKey_73 (by decide) ?_
            refine g_sub (ws' := [(y0, .inr (2, [.ref t0, .int (iI total), .ref ys, .ref yk, .ref yc, .ref yd, .ref yw, .ref yx, .ref yb, .ref yu])), (ys, .inl (cI, aI 14 gst)), (yb, .inl (cI, aI (6 * cap) gbe)), (yu, .inl (cI, aI 6 gcu)), (t0, .inr (1, [.int (iI steps), .int (iI choices), .int (iI bars), .ref hs, .ref hc, .ref hf, .ref hg, .ref hb, .ref he, .ref hm])), (hs, .inl (cI, aI 12 fsz))]) [4, 0, 5, 1, 2, 3] rfl rfl ?_
            refine g_lv (lv' := [(4, .int (iI (x + 1))), (3, .int (iI (gbe (((gcu x) * 6) + x)))), (2, .int (iI x)), (0, .ref y0), (1, .int (iI a))]) [0, 1, 2, 4, 5] rfl ?_
            refine g_wide (k := 0) (n := 0) (Nat.le_of_ble_eq_true rfl) (Nat.le_of_ble_eq_true rfl) ?_
            exact ih7 (x + 1) (gbe (((gcu x) * 6) + x)) x (by omega) (by omega) (by constructor <;> omega) (by first | exact cw_0 | exact cw_1 kC (by omega) | exact cw_2 kC (by omega) (by omega) (by omega) | exact cw_3 kC (by omega) (by omega) | exact cw_4 kC (by omega) (by omega) (by omega) (by omega)) (by omega)
          · refine g_iload C 0 std_Y_choiceWithLeastKey_58 rfl ?_
            refine g_iload_n C 2 std_Y_choiceWithLeastKey_60 rfl ?_
            refine g_icmp_ge (tgt := 70) C std_Y_choiceWithLeastKey_61 (by decide) ⟨by omega, by omega⟩ ⟨by omega, by omega⟩ (fun c7 => ?_) (fun c7 => ?_)
            · refine g_iinc C (lv' := [(4, .int (iI (x + 1))), (5, .int (iI (gbe (((gcu x) * 6) + x)))), (3, .int (iI lk)), (2, .int (iI fo)), (0, .ref y0), (1, .int (iI a))]) 1 std_Y_choiceWithLeastKey_70 rfl (by decide) rfl ?_
              refine g_goto (tgt := 7) C std_Y_choiceWithLeastKey_73 (by decide) ?_
              refine g_sub (ws' := [(y0, .inr (2, [.ref t0, .int (iI total), .ref ys, .ref yk, .ref yc, .ref yd, .ref yw, .ref yx, .ref yb, .ref yu])), (ys, .inl (cI, aI 14 gst)), (yb, .inl (cI, aI (6 * cap) gbe)), (yu, .inl (cI, aI 6 gcu)), (t0, .inr (1, [.int (iI steps), .int (iI choices), .int (iI bars), .ref hs, .ref hc, .ref hf, .ref hg, .ref hb, .ref he, .ref hm])), (hs, .inl (cI, aI 12 fsz))]) [4, 0, 5, 1, 2, 3] rfl rfl ?_
              refine g_lv (lv' := [(4, .int (iI (x + 1))), (3, .int (iI lk)), (2, .int (iI fo)), (0, .ref y0), (1, .int (iI a))]) [0, 2, 3, 4, 5] rfl ?_
              refine g_wide (k := 0) (n := 0) (Nat.le_of_ble_eq_true rfl) (Nat.le_of_ble_eq_true rfl) ?_
              exact ih7 (x + 1) lk fo (by omega) (by omega) (by constructor <;> omega) (by first | exact cw_0 | exact cw_1 kC (by omega) | exact cw_2 kC (by omega) (by omega) (by omega) | exact cw_3 kC (by omega) (by omega) | exact cw_4 kC (by omega) (by omega) (by omega) (by omega)) (by omega)
            · refine g_iload C 1 std_Y_choiceWithLeastKey_64 rfl ?_
              refine g_istore_n C (lv' := [(2, .int (iI x)), (5, .int (iI (gbe (((gcu x) * 6) + x)))), (4, .int (iI x)), (3, .int (iI lk)), (0, .ref y0), (1, .int (iI a))]) std_Y_choiceWithLeastKey_66 (by decide) rfl ?_
              refine g_iload C 1 std_Y_choiceWithLeastKey_67 rfl ?_
              refine g_istore_n C (lv' := [(3, .int (iI (gbe (((gcu x) * 6) + x)))), (2, .int (iI x)), (5, .int (iI (gbe (((gcu x) * 6) + x)))), (4, .int (iI x)), (0, .ref y0), (1, .int (iI a))]) std_Y_choiceWithLeastKey_69 (by decide) rfl ?_
              refine g_iinc C (lv' := [(4, .int (iI (x + 1))), (3, .int (iI (gbe (((gcu x) * 6) + x)))), (2, .int (iI x)), (5, .int (iI (gbe (((gcu x) * 6) + x)))), (0, .ref y0), (1, .int (iI a))]) 3 std_Y_choiceWithLeastKey_70 rfl (by decide) rfl ?_
              refine g_goto (tgt := 7) C std_Y_choiceWithLeastKey_73 (by decide) ?_
              refine g_sub (ws' := [(y0, .inr (2, [.ref t0, .int (iI total), .ref ys, .ref yk, .ref yc, .ref yd, .ref yw, .ref yx, .ref yb, .ref yu])), (ys, .inl (cI, aI 14 gst)), (yb, .inl (cI, aI (6 * cap) gbe)), (yu, .inl (cI, aI 6 gcu)), (t0, .inr (1, [.int (iI steps), .int (iI choices), .int (iI bars), .ref hs, .ref hc, .ref hf, .ref hg, .ref hb, .ref he, .ref hm])), (hs, .inl (cI, aI 12 fsz))]) [4, 0, 5, 1, 2, 3] rfl rfl ?_
              refine g_lv (lv' := [(4, .int (iI (x + 1))), (3, .int (iI (gbe (((gcu x) * 6) + x)))), (2, .int (iI x)), (0, .ref y0), (1, .int (iI a))]) [0, 1, 2, 4, 5] rfl ?_
              refine g_wide (k := 0) (n := 0) (Nat.le_of_ble_eq_true rfl) (Nat.le_of_ble_eq_true rfl) ?_
              exact ih7 (x + 1) (gbe (((gcu x) * 6) + x)) x (by omega) (by omega) (by constructor <;> omega) (by first | exact cw_0 | exact cw_1 kC (by omega) | exact cw_2 kC (by omega) (by omega) (by omega) | exact cw_3 kC (by omega) (by omega) | exact cw_4 kC (by omega) (by omega) (by omega) (by omega)) (by omega)
  obtain ⟨nn0, hnn0⟩ : ∃ nn0 : Nat, (fsz a - 0) < (nn0 : Int) := z_nat _
  exact L7 nn0 0 0 (-1) (by omega) (by omega) (by constructor <;> omega) (by first | exact cw_0 | exact cw_1 kC (by omega) | exact cw_2 kC (by omega) (by omega) (by omega) | exact cw_3 kC (by omega) (by omega) | exact cw_4 kC (by omega) (by omega) (by omega) (by omega)) hnn0

abbrev sty_Y_lookBackFrom : MethodName := ⟨"StateTables$Layers", "lookBackFrom", "(II)V"⟩
abbrev stc_Y_lookBackFrom : ByteArray := prog_3_method_15_code
theorem sth_Y_lookBackFrom : (sty_Y_lookBackFrom).cls ≠ "java/lang/invoke/MethodHandle" ∧ (sty_Y_lookBackFrom).cls ≠ "java/lang/invoke/VarHandle" ∧ (parseMethodDescriptor (sty_Y_lookBackFrom).desc).map (fun d => d.parameters.length) = some 2 := by decide +kernel
theorem std_Y_lookBackFrom_0 : decode stc_Y_lookBackFrom 0 = .ok (.lconst 0, 1) := by decide +kernel
theorem std_Y_lookBackFrom_1 : decode stc_Y_lookBackFrom 1 = .ok (.lstore_n 3, 1) := by decide +kernel
theorem std_Y_lookBackFrom_2 : decode stc_Y_lookBackFrom 2 = .ok (.iconst 0, 1) := by decide +kernel
theorem std_Y_lookBackFrom_3 : decode stc_Y_lookBackFrom 3 = .ok (.istore 5, 2) := by decide +kernel
theorem std_Y_lookBackFrom_5 : decode stc_Y_lookBackFrom 5 = .ok (.iconst 0, 1) := by decide +kernel
theorem std_Y_lookBackFrom_6 : decode stc_Y_lookBackFrom 6 = .ok (.istore 6, 2) := by decide +kernel
theorem std_Y_lookBackFrom_8 : decode stc_Y_lookBackFrom 8 = .ok (.iload 6, 2) := by decide +kernel
theorem std_Y_lookBackFrom_10 : decode stc_Y_lookBackFrom 10 = .ok (.aload_n 0, 1) := by decide +kernel
theorem std_Y_lookBackFrom_11 : decode stc_Y_lookBackFrom 11 = .ok (.getfield 37, 3) := by decide +kernel
theorem std_Y_lookBackFrom_14 : decode stc_Y_lookBackFrom 14 = .ok (.getfield 66, 3) := by decide +kernel
theorem std_Y_lookBackFrom_17 : decode stc_Y_lookBackFrom 17 = .ok (.iload_n 1, 1) := by decide +kernel
theorem std_Y_lookBackFrom_18 : decode stc_Y_lookBackFrom 18 = .ok (.iaload, 1) := by decide +kernel
theorem std_Y_lookBackFrom_19 : decode stc_Y_lookBackFrom 19 = .ok (.if_icmp .ge 89, 3) := by decide +kernel
theorem std_Y_lookBackFrom_108 : decode stc_Y_lookBackFrom 108 = .ok (.aload_n 0, 1) := by decide +kernel
theorem std_Y_lookBackFrom_109 : decode stc_Y_lookBackFrom 109 = .ok (.getfield 28, 3) := by decide +kernel
theorem std_Y_lookBackFrom_112 : decode stc_Y_lookBackFrom 112 = .ok (.iload_n 2, 1) := by decide +kernel
theorem std_Y_lookBackFrom_113 : decode stc_Y_lookBackFrom 113 = .ok (.lload_n 3, 1) := by decide +kernel
theorem std_Y_lookBackFrom_114 : decode stc_Y_lookBackFrom 114 = .ok (.lastore, 1) := by decide +kernel
theorem std_Y_lookBackFrom_115 : decode stc_Y_lookBackFrom 115 = .ok (.aload_n 0, 1) := by decide +kernel
theorem std_Y_lookBackFrom_116 : decode stc_Y_lookBackFrom 116 = .ok (.getfield 21, 3) := by decide +kernel
theorem std_Y_lookBackFrom_119 : decode stc_Y_lookBackFrom 119 = .ok (.iload_n 2, 1) := by decide +kernel
theorem std_Y_lookBackFrom_120 : decode stc_Y_lookBackFrom 120 = .ok (.iload 5, 2) := by decide +kernel
theorem std_Y_lookBackFrom_122 : decode stc_Y_lookBackFrom 122 = .ok (.iastore, 1) := by decide +kernel
theorem std_Y_lookBackFrom_123 : decode stc_Y_lookBackFrom 123 = .ok (.return_, 1) := by decide +kernel
theorem std_Y_lookBackFrom_22 : decode stc_Y_lookBackFrom 22 = .ok (.aload_n 0, 1) := by decide +kernel
theorem std_Y_lookBackFrom_23 : decode stc_Y_lookBackFrom 23 = .ok (.iload_n 2, 1) := by decide +kernel
theorem std_Y_lookBackFrom_24 : decode stc_Y_lookBackFrom 24 = .ok (.iload 6, 2) := by decide +kernel
theorem std_Y_lookBackFrom_26 : decode stc_Y_lookBackFrom 26 = .ok (.invokevirtual 129, 3) := by decide +kernel
theorem std_Y_lookBackFrom_29 : decode stc_Y_lookBackFrom 29 = .ok (.istore 7, 2) := by decide +kernel
theorem std_Y_lookBackFrom_31 : decode stc_Y_lookBackFrom 31 = .ok (.iload 7, 2) := by decide +kernel
theorem std_Y_lookBackFrom_33 : decode stc_Y_lookBackFrom 33 = .ok (.ifCond .lt 69, 3) := by decide +kernel
theorem std_Y_lookBackFrom_102 : decode stc_Y_lookBackFrom 102 = .ok (.iinc 6 1, 3) := by decide +kernel
theorem std_Y_lookBackFrom_105 : decode stc_Y_lookBackFrom 105 = .ok (.goto (-97), 3) := by decide +kernel
theorem std_Y_lookBackFrom_36 : decode stc_Y_lookBackFrom 36 = .ok (.aload_n 0, 1) := by decide +kernel
theorem std_Y_lookBackFrom_37 : decode stc_Y_lookBackFrom 37 = .ok (.getfield 28, 3) := by decide +kernel
theorem std_Y_lookBackFrom_40 : decode stc_Y_lookBackFrom 40 = .ok (.iload 7, 2) := by decide +kernel
theorem std_Y_lookBackFrom_42 : decode stc_Y_lookBackFrom 42 = .ok (.laload, 1) := by decide +kernel
theorem std_Y_lookBackFrom_43 : decode stc_Y_lookBackFrom 43 = .ok (.lconst 0, 1) := by decide +kernel
theorem std_Y_lookBackFrom_44 : decode stc_Y_lookBackFrom 44 = .ok (.lcmp, 1) := by decide +kernel
theorem std_Y_lookBackFrom_45 : decode stc_Y_lookBackFrom 45 = .ok (.ifCond .le 57, 3) := by decide +kernel
theorem std_Y_lookBackFrom_48 : decode stc_Y_lookBackFrom 48 = .ok (.aload_n 0, 1) := by decide +kernel
theorem std_Y_lookBackFrom_49 : decode stc_Y_lookBackFrom 49 = .ok (.getfield 21, 3) := by decide +kernel
theorem std_Y_lookBackFrom_52 : decode stc_Y_lookBackFrom 52 = .ok (.iload 7, 2) := by decide +kernel
theorem std_Y_lookBackFrom_54 : decode stc_Y_lookBackFrom 54 = .ok (.iaload, 1) := by decide +kernel
theorem std_Y_lookBackFrom_55 : decode stc_Y_lookBackFrom 55 = .ok (.aload_n 0, 1) := by decide +kernel
theorem std_Y_lookBackFrom_56 : decode stc_Y_lookBackFrom 56 = .ok (.getfield 37, 3) := by decide +kernel
theorem std_Y_lookBackFrom_59 : decode stc_Y_lookBackFrom 59 = .ok (.getfield 132, 3) := by decide +kernel
theorem kw_1_41 : Cond.fieldLink "StateTables$Layers" 132 "StateTables$Told" "costs" "[I" ∈ stGW := st_t1 (List.mem_of_getElem? (i := 41) (by decide +kernel)) (by decide +kernel)
theorem std_Y_lookBackFrom_62 : decode stc_Y_lookBackFrom 62 = .ok (.iload_n 1, 1) := by decide +kernel
theorem std_Y_lookBackFrom_63 : decode stc_Y_lookBackFrom 63 = .ok (.iload 6, 2) := by decide +kernel
theorem std_Y_lookBackFrom_65 : decode stc_Y_lookBackFrom 65 = .ok (.invokestatic 104, 3) := by decide +kernel
theorem std_Y_lookBackFrom_68 : decode stc_Y_lookBackFrom 68 = .ok (.iaload, 1) := by decide +kernel
theorem std_Y_lookBackFrom_69 : decode stc_Y_lookBackFrom 69 = .ok (.iadd, 1) := by decide +kernel
theorem std_Y_lookBackFrom_70 : decode stc_Y_lookBackFrom 70 = .ok (.istore 8, 2) := by decide +kernel
theorem std_Y_lookBackFrom_72 : decode stc_Y_lookBackFrom 72 = .ok (.lload_n 3, 1) := by decide +kernel
theorem std_Y_lookBackFrom_73 : decode stc_Y_lookBackFrom 73 = .ok (.lconst 0, 1) := by decide +kernel
theorem std_Y_lookBackFrom_74 : decode stc_Y_lookBackFrom 74 = .ok (.lcmp, 1) := by decide +kernel
theorem std_Y_lookBackFrom_75 : decode stc_Y_lookBackFrom 75 = .ok (.ifCond .ne 8, 3) := by decide +kernel
theorem std_Y_lookBackFrom_83 : decode stc_Y_lookBackFrom 83 = .ok (.iload 5, 2) := by decide +kernel
theorem std_Y_lookBackFrom_85 : decode stc_Y_lookBackFrom 85 = .ok (.iload 8, 2) := by decide +kernel
theorem std_Y_lookBackFrom_87 : decode stc_Y_lookBackFrom 87 = .ok (.invokestatic 69, 3) := by decide +kernel
theorem kw_2_44 : Cond.methodLink "StateTables$Layers" 69 (Lib.Math.min.name) ∈ stGW := st_t2 (List.mem_of_getElem? (i := 44) (by decide +kernel)) (by decide +kernel)
theorem kw_2_45 : Cond.static (Lib.Math.min.name) ∈ stGW := st_t2 (List.mem_of_getElem? (i := 45) (by decide +kernel)) (by decide +kernel)
theorem kw_1_7 : Cond.initialized "java/lang/Math" ∈ stGW := st_t1 (List.mem_of_getElem? (i := 7) (by decide +kernel)) (by decide +kernel)
theorem kw_2_46 : Cond.code Lib.Math.min.name Lib.Math.min.code 2 (some .int) ∈ stGW := st_t2 (List.mem_of_getElem? (i := 46) (by decide +kernel)) (by decide +kernel)
theorem std_Y_lookBackFrom_90 : decode stc_Y_lookBackFrom 90 = .ok (.istore 5, 2) := by decide +kernel
theorem std_Y_lookBackFrom_92 : decode stc_Y_lookBackFrom 92 = .ok (.lload_n 3, 1) := by decide +kernel
theorem std_Y_lookBackFrom_93 : decode stc_Y_lookBackFrom 93 = .ok (.aload_n 0, 1) := by decide +kernel
theorem std_Y_lookBackFrom_94 : decode stc_Y_lookBackFrom 94 = .ok (.getfield 28, 3) := by decide +kernel
theorem std_Y_lookBackFrom_97 : decode stc_Y_lookBackFrom 97 = .ok (.iload 7, 2) := by decide +kernel
theorem std_Y_lookBackFrom_99 : decode stc_Y_lookBackFrom 99 = .ok (.laload, 1) := by decide +kernel
theorem std_Y_lookBackFrom_100 : decode stc_Y_lookBackFrom 100 = .ok (.ladd, 1) := by decide +kernel
theorem std_Y_lookBackFrom_101 : decode stc_Y_lookBackFrom 101 = .ok (.lstore_n 3, 1) := by decide +kernel
theorem std_Y_lookBackFrom_78 : decode stc_Y_lookBackFrom 78 = .ok (.iload 8, 2) := by decide +kernel
theorem std_Y_lookBackFrom_80 : decode stc_Y_lookBackFrom 80 = .ok (.goto 10, 3) := by decide +kernel
set_option maxHeartbeats 4000000 in
set_option maxRecDepth 100000 in
theorem c_lookBackFrom (l : Launch) (dC : Nat → ClassId) (dI : Nat → Nat → Nat) (cI cJ cZ : ClassId) (y0 : Nat) (ys : Nat) (yk : Nat) (yc : Nat) (yd : Nat) (yw : Nat) (yx : Nat) (yb : Nat) (yu : Nat) (total : Int) (t0 : Nat) (hs : Nat) (hc : Nat) (hf : Nat) (hg : Nat) (hb : Nat) (he : Nat) (hm : Nat) (steps : Int) (choices : Int) (bars : Int) (cap : Nat) (gcf : Int → Int) (gwf : Int → Int) (gbe : Int → Int) (fsz : Int → Int) (fco : Int → Int) (a : Int) (b : Int) (kcap : cap ≤ 4801) (ksz : ∀ j, 0 ≤ j → j < 12 → 0 ≤ fsz j ∧ fsz j ≤ 6) (ka : 0 ≤ a ∧ a < 12) (kb : 0 ≤ b ∧ b < (cap : Int)) (kbe : ∀ i, 0 ≤ i → i < fsz a → (-1 ≤ gbe ((b * 6) + i) ∧ gbe ((b * 6) + i) < (cap : Int)) ∧ (0 ≤ gbe ((b * 6) + i) → (0 ≤ gwf (gbe ((b * 6) + i)) ∧ gwf (gbe ((b * 6) + i)) ≤ 1000000000000) ∧ -1000000 ≤ gcf (gbe ((b * 6) + i)) ∧ gcf (gbe ((b * 6) + i)) ≤ 1000000)) (kco : ∀ j, 0 ≤ j → j < 72 → -1000 ≤ fco j ∧ fco j ≤ 1000) : ∀ sz, Met l sty_Y_lookBackFrom (Cond.code sty_Y_lookBackFrom stc_Y_lookBackFrom 9 none :: stGW) ({ frames := 1, cells := 0, slots := 0, locals := 22 } : Room) (va_Pc [.ref y0, .int (iI a), .int (iI b)] (zPre (dC, dI) stCl [(cI, .int), (cJ, .long), (cZ, .boolean)] st_nw [(y0, .inr (2, [.ref t0, .int (iI total), .ref ys, .ref yk, .ref yc, .ref yd, .ref yw, .ref yx, .ref yb, .ref yu])), (yd, .inl (cI, aI cap gcf)), (yx, .inl (cJ, aL cap gwf)), (yb, .inl (cI, aI (6 * cap) gbe)), (t0, .inr (1, [.int (iI steps), .int (iI choices), .int (iI bars), .ref hs, .ref hc, .ref hf, .ref hg, .ref hb, .ref he, .ref hm])), (hs, .inl (cI, aI 12 fsz)), (hc, .inl (cI, aI 72 fco))] sz)) (va_Qv (fun (_ : Unit) => True) (zPost (dC, dI) stCl [(cI, .int), (cJ, .long), (cZ, .boolean)] [(y0, .inr (2, [.ref t0, .int (iI total), .ref ys, .ref yk, .ref yc, .ref yd, .ref yw, .ref yx, .ref yb, .ref yu])), (yd, .inl (cI, aI cap gcf)), (yx, .inl (cJ, aL cap gwf)), (yb, .inl (cI, aI (6 * cap) gbe)), (t0, .inr (1, [.int (iI steps), .int (iI choices), .int (iI bars), .ref hs, .ref hc, .ref hf, .ref hg, .ref hb, .ref he, .ref hm])), (hs, .inl (cI, aI 12 fsz)), (hc, .inl (cI, aI 72 fco))] sz (fun _ : Unit => [(y0, .inr (2, [.ref t0, .int (iI total), .ref ys, .ref yk, .ref yc, .ref yd, .ref yw, .ref yx, .ref yb, .ref yu])), (yd, .inl (cI, aI cap (uZ gcf b (lbC gbe gwf gcf fco a b (fsz a).toNat)))), (yx, .inl (cJ, aL cap (uZ gwf b (lbW gbe gwf b (fsz a).toNat)))), (yb, .inl (cI, aI (6 * cap) gbe)), (t0, .inr (1, [.int (iI steps), .int (iI choices), .int (iI bars), .ref hs, .ref hc, .ref hf, .ref hg, .ref hb, .ref he, .ref hm])), (hs, .inl (cI, aI 12 fsz)), (hc, .inl (cI, aI 72 fco))])) (va_A [(y0, .inr (2, [.ref t0, .int (iI total), .ref ys, .ref yk, .ref yc, .ref yd, .ref yw, .ref yx, .ref yb, .ref yu])), (yd, .inl (cI, aI cap gcf)), (yx, .inl (cJ, aL cap gwf)), (yb, .inl (cI, aI (6 * cap) gbe)), (t0, .inr (1, [.int (iI steps), .int (iI choices), .int (iI bars), .ref hs, .ref hc, .ref hf, .ref hg, .ref hb, .ref he, .ref hm])), (hs, .inl (cI, aI 12 fsz)), (hc, .inl (cI, aI 72 fco))] sz)) 0 0 (va_A [(y0, .inr (2, [.ref t0, .int (iI total), .ref ys, .ref yk, .ref yc, .ref yd, .ref yw, .ref yx, .ref yb, .ref yu])), (yd, .inl (cI, aI cap gcf)), (yx, .inl (cJ, aL cap gwf)), (yb, .inl (cI, aI (6 * cap) gbe)), (t0, .inr (1, [.int (iI steps), .int (iI choices), .int (iI bars), .ref hs, .ref hc, .ref hf, .ref hg, .ref hb, .ref he, .ref hm])), (hs, .inl (cI, aI 12 fsz)), (hc, .inl (cI, aI 72 fco))] sz) := by
  refine met_v (by decide) rfl (Nat.le_of_ble_eq_true rfl) ?_
  intro p e s m below meth c A Q C hmn hret
  have hq0 := ksz a (by omega) (by omega)
  refine g_lconst C (z := 0) std_Y_lookBackFrom_0 (by decide) ?_
  refine g_lstore_n C (lv' := [(3, .long (lI 0)), (0, .ref y0), (1, .int (iI a)), (2, .int (iI b))]) std_Y_lookBackFrom_1 (by decide) rfl ?_
  refine g_iconst C std_Y_lookBackFrom_2 ?_
  refine g_istore C (lv' := [(5, .int (iI 0)), (3, .long (lI 0)), (0, .ref y0), (1, .int (iI a)), (2, .int (iI b))]) std_Y_lookBackFrom_3 (by decide) rfl ?_
  refine g_iconst C std_Y_lookBackFrom_5 ?_
  refine g_istore C (lv' := [(6, .int (iI 0)), (5, .int (iI 0)), (3, .long (lI 0)), (0, .ref y0), (1, .int (iI a)), (2, .int (iI b))]) std_Y_lookBackFrom_6 (by decide) rfl ?_
  have L8 : ∀ (nn8 : Nat) (x : Int) (y : Int) (v : Int), (0 ≤ x ∧ x ≤ fsz a) → (rI y ∧ (0 ≤ v ∧ v ≤ x * 1000000000000)) → v = lbW gbe gwf b x.toNat → y = lbC gbe gwf gcf fco a b x.toNat → (fsz a - x) < (nn8 : Int) → G p l e ({ frames := 1, cells := 0, slots := 0, locals := 22 } : Room) s m ([.ref y0, .int (iI a), .int (iI b)] : List Value).toArray below meth c (dC, dI) stCl 9 A 0 0 Q [(y0, .inr (2, [.ref t0, .int (iI total), .ref ys, .ref yk, .ref yc, .ref yd, .ref yw, .ref yx, .ref yb, .ref yu])), (yd, .inl (cI, aI cap gcf)), (yx, .inl (cJ, aL cap gwf)), (yb, .inl (cI, aI (6 * cap) gbe)), (t0, .inr (1, [.int (iI steps), .int (iI choices), .int (iI bars), .ref hs, .ref hc, .ref hf, .ref hg, .ref hb, .ref he, .ref hm])), (hs, .inl (cI, aI 12 fsz)), (hc, .inl (cI, aI 72 fco))] 8 [(6, .int (iI x)), (5, .int (iI y)), (3, .long (lI v)), (0, .ref y0), (1, .int (iI a)), (2, .int (iI b))] [] := by
    intro nn8
    induction nn8 with
    | zero =>
      intro x y v kx ky kv kc hnn8
      exact absurd hnn8 (by omega)
    | succ nn8 ih8 =>
      intro x y v kx ky kv kc hnn8
      refine g_iload C 0 std_Y_lookBackFrom_8 rfl ?_
      refine g_aload_n C 3 std_Y_lookBackFrom_10 rfl ?_
      refine g_get C (st_sub sti_Y) 0 rfl rfl 0 (by decide) (List.mem_cons_of_mem _ kw_1_83) rfl rfl std_Y_lookBackFrom_11 ?_
      refine g_get C (st_sub sti_T) 4 rfl rfl 3 (by decide) (List.mem_cons_of_mem _ kw_1_36) rfl rfl std_Y_lookBackFrom_14 ?_
      refine g_iload_n C 4 std_Y_lookBackFrom_17 rfl ?_
      refine g_iald C 5 0 rfl rfl (by omega) (by omega) (by omega) std_Y_lookBackFrom_18 ?_
      refine g_icmp_ge (tgt := 108) C std_Y_lookBackFrom_19 (by decide) ⟨by omega, by omega⟩ ⟨by omega, by omega⟩ (fun c1 => ?_) (fun c1 => ?_)
      · refine g_aload_n C 3 std_Y_lookBackFrom_108 rfl ?_
        refine g_get C (st_sub sti_Y) 0 rfl rfl 7 (by decide) (List.mem_cons_of_mem _ kw_1_96) rfl rfl std_Y_lookBackFrom_109 ?_
        refine g_iload_n C 5 std_Y_lookBackFrom_112 rfl ?_
        refine g_lload_n C 2 std_Y_lookBackFrom_113 rfl ?_
        refine g_last C (ws' := [(y0, .inr (2, [.ref t0, .int (iI total), .ref ys, .ref yk, .ref yc, .ref yd, .ref yw, .ref yx, .ref yb, .ref yu])), (yd, .inl (cI, aI cap gcf)), (yx, .inl (cJ, aL cap (uZ gwf b v))), (yb, .inl (cI, aI (6 * cap) gbe)), (t0, .inr (1, [.int (iI steps), .int (iI choices), .int (iI bars), .ref hs, .ref hc, .ref hf, .ref hg, .ref hb, .ref he, .ref hm])), (hs, .inl (cI, aI 12 fsz)), (hc, .inl (cI, aI 72 fco))]) 2 1 rfl rfl (by omega) (by omega) (by omega) std_Y_lookBackFrom_114 rfl ?_
        refine g_aload_n C 3 std_Y_lookBackFrom_115 rfl ?_
        refine g_get C (st_sub sti_Y) 0 rfl rfl 5 (by decide) (List.mem_cons_of_mem _ kw_1_92) rfl rfl std_Y_lookBackFrom_116 ?_
        refine g_iload_n C 5 std_Y_lookBackFrom_119 rfl ?_
        refine g_iload C 1 std_Y_lookBackFrom_120 rfl ?_
        refine g_iast C (ws' := [(y0, .inr (2, [.ref t0, .int (iI total), .ref ys, .ref yk, .ref yc, .ref yd, .ref yw, .ref yx, .ref yb, .ref yu])), (yd, .inl (cI, aI cap (uZ gcf b y))), (yx, .inl (cJ, aL cap (uZ gwf b v))), (yb, .inl (cI, aI (6 * cap) gbe)), (t0, .inr (1, [.int (iI steps), .int (iI choices), .int (iI bars), .ref hs, .ref hc, .ref hf, .ref hg, .ref hb, .ref he, .ref hm])), (hs, .inl (cI, aI 12 fsz)), (hc, .inl (cI, aI 72 fco))]) 1 0 rfl rfl (by omega) (by omega) (by omega) std_Y_lookBackFrom_122 rfl ?_
        have hxe : x = fsz a := by omega
        subst kv
        subst kc
        subst hxe
        exact hret _ _ () (trivial) std_Y_lookBackFrom_123
      · have hq1 := kbe x (by omega) (by omega)
        refine g_aload_n C 3 std_Y_lookBackFrom_22 rfl ?_
        refine g_iload_n C 5 std_Y_lookBackFrom_23 rfl ?_
        refine g_iload C 0 std_Y_lookBackFrom_24 rfl ?_
        refine g_V_i (wc := [(y0, .inr (2, [.ref t0, .int (iI total), .ref ys, .ref yk, .ref yc, .ref yd, .ref yw, .ref yx, .ref yb, .ref yu])), (yb, .inl (cI, aI (6 * cap) gbe))]) (wr := [(yd, .inl (cI, aI cap gcf)), (yx, .inl (cJ, aL cap gwf)), (t0, .inr (1, [.int (iI steps), .int (iI choices), .int (iI bars), .ref hs, .ref hc, .ref hf, .ref hg, .ref hb, .ref he, .ref hm])), (hs, .inl (cI, aI 12 fsz)), (hc, .inl (cI, aI 72 fco))]) (rest := []) C (c_nodeBehind l dC dI cI cJ cZ y0 ys yk yc yd yw yx yb yu total t0 cap gbe b x (kcap) (by omega)) (st_cV C kw_2_101 kw_2_98 kw_1_3 kw_2_99 kw_2_100 sth_Y_nodeBehind ⟨Nat.le_of_ble_eq_true rfl, Nat.le_of_ble_eq_true rfl⟩) 0 rfl rfl rfl rfl (Nat.le_of_ble_eq_true rfl) std_Y_lookBackFrom_26 ⟨Nat.le_of_ble_eq_true rfl, Nat.le_of_ble_eq_true rfl⟩ [0, 3] [1, 2, 4, 5, 6] rfl rfl rfl rfl (by decide) (fun r2 u3 h4 => ?_)
        subst h4
        refine g_ws (ws' := [(yd, .inl (cI, aI cap gcf)), (yx, .inl (cJ, aL cap gwf)), (t0, .inr (1, [.int (iI steps), .int (iI choices), .int (iI bars), .ref hs, .ref hc, .ref hf, .ref hg, .ref hb, .ref he, .ref hm])), (hs, .inl (cI, aI 12 fsz)), (hc, .inl (cI, aI 72 fco)), (y0, .inr (2, [.ref t0, .int (iI total), .ref ys, .ref yk, .ref yc, .ref yd, .ref yw, .ref yx, .ref yb, .ref yu])), (yb, .inl (cI, aI (6 * cap) gbe))]) rfl ?_
        refine g_istore C (lv' := [(7, .int (iI (gbe ((b * 6) + x)))), (6, .int (iI x)), (5, .int (iI y)), (3, .long (lI v)), (0, .ref y0), (1, .int (iI a)), (2, .int (iI b))]) std_Y_lookBackFrom_29 (by decide) rfl ?_
        refine g_iload C 0 std_Y_lookBackFrom_31 rfl ?_
        refine g_if_lt (tgt := 102) C std_Y_lookBackFrom_33 (by decide) ⟨by omega, by omega⟩ (fun c5 => ?_) (fun c5 => ?_)
        · refine g_iinc C (lv' := [(6, .int (iI (x + 1))), (7, .int (iI (gbe ((b * 6) + x)))), (5, .int (iI y)), (3, .long (lI v)), (0, .ref y0), (1, .int (iI a)), (2, .int (iI b))]) 1 std_Y_lookBackFrom_102 rfl (by decide) rfl ?_
          refine g_goto (tgt := 8) C std_Y_lookBackFrom_105 (by decide) ?_
          refine g_sub (ws' := [(y0, .inr (2, [.ref t0, .int (iI total), .ref ys, .ref yk, .ref yc, .ref yd, .ref yw, .ref yx, .ref yb, .ref yu])), (yd, .inl (cI, aI cap gcf)), (yx, .inl (cJ, aL cap gwf)), (yb, .inl (cI, aI (6 * cap) gbe)), (t0, .inr (1, [.int (iI steps), .int (iI choices), .int (iI bars), .ref hs, .ref hc, .ref hf, .ref hg, .ref hb, .ref he, .ref hm])), (hs, .inl (cI, aI 12 fsz)), (hc, .inl (cI, aI 72 fco))]) [5, 0, 1, 6, 2, 3, 4] rfl rfl ?_
          refine g_lv (lv' := [(6, .int (iI (x + 1))), (5, .int (iI y)), (3, .long (lI v)), (0, .ref y0), (1, .int (iI a)), (2, .int (iI b))]) [0, 2, 3, 4, 5, 6] rfl ?_
          refine g_wide (k := 0) (n := 0) (Nat.le_of_ble_eq_true rfl) (Nat.le_of_ble_eq_true rfl) ?_
          exact ih8 (x + 1) y v (by omega) (by first | omega | (constructor <;> omega)) (by first | rfl | (rw [lbW_no (by omega) (by omega)]; exact kv) | (rw [lbW_yes (by omega) ⟨by omega, by omega⟩, ← kv])) (by first | rfl | (rw [lbC_no (by omega) (by omega)]; exact kc) | (rw [lbC_first (by omega) ⟨by omega, by omega⟩ (by omega)]) | (rw [lbC_more (by omega) ⟨by omega, by omega⟩ (by omega), ← kc])) (by omega)
        · refine g_aload_n C 4 std_Y_lookBackFrom_36 rfl ?_
          refine g_get C (st_sub sti_Y) 5 rfl rfl 7 (by decide) (List.mem_cons_of_mem _ kw_1_96) rfl rfl std_Y_lookBackFrom_37 ?_
          refine g_iload C 0 std_Y_lookBackFrom_40 rfl ?_
          refine g_lald C 1 1 rfl rfl (by omega) (by omega) (by omega) std_Y_lookBackFrom_42 ?_
          refine g_lconst C (z := 0) std_Y_lookBackFrom_43 (by decide) ?_
          have hq2 := (hq1.2 (by omega)).1
          refine g_lcmp_le (tgt := 102) C std_Y_lookBackFrom_44 std_Y_lookBackFrom_45 (by decide) ⟨by omega, by omega⟩ ⟨by omega, by omega⟩ (fun c6 => ?_) (fun c6 => ?_)
          · refine g_iinc C (lv' := [(6, .int (iI (x + 1))), (7, .int (iI (gbe ((b * 6) + x)))), (5, .int (iI y)), (3, .long (lI v)), (0, .ref y0), (1, .int (iI a)), (2, .int (iI b))]) 1 std_Y_lookBackFrom_102 rfl (by decide) rfl ?_
            refine g_goto (tgt := 8) C std_Y_lookBackFrom_105 (by decide) ?_
            refine g_sub (ws' := [(y0, .inr (2, [.ref t0, .int (iI total), .ref ys, .ref yk, .ref yc, .ref yd, .ref yw, .ref yx, .ref yb, .ref yu])), (yd, .inl (cI, aI cap gcf)), (yx, .inl (cJ, aL cap gwf)), (yb, .inl (cI, aI (6 * cap) gbe)), (t0, .inr (1, [.int (iI steps), .int (iI choices), .int (iI bars), .ref hs, .ref hc, .ref hf, .ref hg, .ref hb, .ref he, .ref hm])), (hs, .inl (cI, aI 12 fsz)), (hc, .inl (cI, aI 72 fco))]) [5, 0, 1, 6, 2, 3, 4] rfl rfl ?_
            refine g_lv (lv' := [(6, .int (iI (x + 1))), (5, .int (iI y)), (3, .long (lI v)), (0, .ref y0), (1, .int (iI a)), (2, .int (iI b))]) [0, 2, 3, 4, 5, 6] rfl ?_
            refine g_wide (k := 0) (n := 0) (Nat.le_of_ble_eq_true rfl) (Nat.le_of_ble_eq_true rfl) ?_
            exact ih8 (x + 1) y v (by omega) (by first | omega | (constructor <;> omega)) (by first | rfl | (rw [lbW_no (by omega) (by omega)]; exact kv) | (rw [lbW_yes (by omega) ⟨by omega, by omega⟩, ← kv])) (by first | rfl | (rw [lbC_no (by omega) (by omega)]; exact kc) | (rw [lbC_first (by omega) ⟨by omega, by omega⟩ (by omega)]) | (rw [lbC_more (by omega) ⟨by omega, by omega⟩ (by omega), ← kc])) (by omega)
          · have hq3 := (hq1.2 (by omega)).2
            have hq4 := kco ((a * 6) + x) (by omega) (by omega)
            refine g_aload_n C 4 std_Y_lookBackFrom_48 rfl ?_
            refine g_get C (st_sub sti_Y) 5 rfl rfl 5 (by decide) (List.mem_cons_of_mem _ kw_1_92) rfl rfl std_Y_lookBackFrom_49 ?_
            refine g_iload C 0 std_Y_lookBackFrom_52 rfl ?_
            refine g_iald C 0 0 rfl rfl (by omega) (by omega) (by omega) std_Y_lookBackFrom_54 ?_
            refine g_aload_n C 4 std_Y_lookBackFrom_55 rfl ?_
            refine g_get C (st_sub sti_Y) 5 rfl rfl 0 (by decide) (List.mem_cons_of_mem _ kw_1_83) rfl rfl std_Y_lookBackFrom_56 ?_
            refine g_get C (st_sub sti_T) 2 rfl rfl 4 (by decide) (List.mem_cons_of_mem _ kw_1_41) rfl rfl std_Y_lookBackFrom_59 ?_
            refine g_iload_n C 5 std_Y_lookBackFrom_62 rfl ?_
            refine g_iload C 1 std_Y_lookBackFrom_63 rfl ?_
            refine g_SN_i (wc := []) (wr := [(yd, .inl (cI, aI cap gcf)), (yx, .inl (cJ, aL cap gwf)), (t0, .inr (1, [.int (iI steps), .int (iI choices), .int (iI bars), .ref hs, .ref hc, .ref hf, .ref hg, .ref hb, .ref he, .ref hm])), (hs, .inl (cI, aI 12 fsz)), (hc, .inl (cI, aI 72 fco)), (y0, .inr (2, [.ref t0, .int (iI total), .ref ys, .ref yk, .ref yc, .ref yd, .ref yw, .ref yx, .ref yb, .ref yu])), (yb, .inl (cI, aI (6 * cap) gbe))]) (rest := [.ref hc, .int (iI (gcf (gbe ((b * 6) + x))))]) C (c_placeOf l dC dI cI cJ cZ a x ) (st_cSN C kw_1_235 (List.mem_of_getElem? (i := 3) rfl) kw_1_1 kw_1_234 sth_S_placeOf ⟨Nat.le_of_ble_eq_true rfl, Nat.le_of_ble_eq_true rfl⟩) rfl rfl (Nat.le_of_ble_eq_true rfl) std_Y_lookBackFrom_65 ⟨Nat.le_of_ble_eq_true rfl, Nat.le_of_ble_eq_true rfl⟩ [] [0, 1, 2, 3, 4, 5, 6] rfl rfl rfl rfl (by decide) (fun r7 u8 h9 => ?_)
            subst h9
            refine g_ws (ws' := [(yd, .inl (cI, aI cap gcf)), (yx, .inl (cJ, aL cap gwf)), (t0, .inr (1, [.int (iI steps), .int (iI choices), .int (iI bars), .ref hs, .ref hc, .ref hf, .ref hg, .ref hb, .ref he, .ref hm])), (hs, .inl (cI, aI 12 fsz)), (hc, .inl (cI, aI 72 fco)), (y0, .inr (2, [.ref t0, .int (iI total), .ref ys, .ref yk, .ref yc, .ref yd, .ref yw, .ref yx, .ref yb, .ref yu])), (yb, .inl (cI, aI (6 * cap) gbe))]) rfl ?_
            refine g_iald C 4 0 rfl rfl (by omega) (by omega) (by omega) std_Y_lookBackFrom_68 ?_
            refine g_iadd C std_Y_lookBackFrom_69 ?_
            refine g_istore C (lv' := [(8, .int (iI ((gcf (gbe ((b * 6) + x))) + (fco ((a * 6) + x))))), (7, .int (iI (gbe ((b * 6) + x)))), (6, .int (iI x)), (5, .int (iI y)), (3, .long (lI v)), (0, .ref y0), (1, .int (iI a)), (2, .int (iI b))]) std_Y_lookBackFrom_70 (by decide) rfl ?_
            refine g_lload_n C 4 std_Y_lookBackFrom_72 rfl ?_
            refine g_lconst C (z := 0) std_Y_lookBackFrom_73 (by decide) ?_
            refine g_lcmp_ne (tgt := 83) C std_Y_lookBackFrom_74 std_Y_lookBackFrom_75 (by decide) ⟨by omega, by omega⟩ ⟨by omega, by omega⟩ (fun c10 => ?_) (fun c10 => ?_)
            · refine g_iload C 3 std_Y_lookBackFrom_83 rfl ?_
              refine g_iload C 0 std_Y_lookBackFrom_85 rfl ?_
              refine g_min C ⟨by omega, by omega⟩ ⟨by omega, by omega⟩ (List.mem_cons_of_mem _ kw_2_44) (List.mem_cons_of_mem _ kw_2_45) (List.mem_cons_of_mem _ kw_1_7) (List.mem_cons_of_mem _ kw_2_46) (Nat.le_of_ble_eq_true rfl) (Nat.le_of_ble_eq_true rfl) (Nat.le_of_ble_eq_true rfl) (Nat.le_of_ble_eq_true rfl) std_Y_lookBackFrom_87 ?_
              refine g_istore C (lv' := [(5, .int (iI (min y ((gcf (gbe ((b * 6) + x))) + (fco ((a * 6) + x)))))), (8, .int (iI ((gcf (gbe ((b * 6) + x))) + (fco ((a * 6) + x))))), (7, .int (iI (gbe ((b * 6) + x)))), (6, .int (iI x)), (3, .long (lI v)), (0, .ref y0), (1, .int (iI a)), (2, .int (iI b))]) std_Y_lookBackFrom_90 (by decide) rfl ?_
              refine g_lload_n C 4 std_Y_lookBackFrom_92 rfl ?_
              refine g_aload_n C 5 std_Y_lookBackFrom_93 rfl ?_
              refine g_get C (st_sub sti_Y) 5 rfl rfl 7 (by decide) (List.mem_cons_of_mem _ kw_1_96) rfl rfl std_Y_lookBackFrom_94 ?_
              refine g_iload C 2 std_Y_lookBackFrom_97 rfl ?_
              refine g_lald C 1 1 rfl rfl (by omega) (by omega) (by omega) std_Y_lookBackFrom_99 ?_
              refine g_ladd C std_Y_lookBackFrom_100 ?_
              refine g_lstore_n C (lv' := [(3, .long (lI (v + (gwf (gbe ((b * 6) + x)))))), (5, .int (iI (min y ((gcf (gbe ((b * 6) + x))) + (fco ((a * 6) + x)))))), (8, .int (iI ((gcf (gbe ((b * 6) + x))) + (fco ((a * 6) + x))))), (7, .int (iI (gbe ((b * 6) + x)))), (6, .int (iI x)), (0, .ref y0), (1, .int (iI a)), (2, .int (iI b))]) std_Y_lookBackFrom_101 (by decide) rfl ?_
              refine g_iinc C (lv' := [(6, .int (iI (x + 1))), (3, .long (lI (v + (gwf (gbe ((b * 6) + x)))))), (5, .int (iI (min y ((gcf (gbe ((b * 6) + x))) + (fco ((a * 6) + x)))))), (8, .int (iI ((gcf (gbe ((b * 6) + x))) + (fco ((a * 6) + x))))), (7, .int (iI (gbe ((b * 6) + x)))), (0, .ref y0), (1, .int (iI a)), (2, .int (iI b))]) 4 std_Y_lookBackFrom_102 rfl (by decide) rfl ?_
              refine g_goto (tgt := 8) C std_Y_lookBackFrom_105 (by decide) ?_
              refine g_sub (ws' := [(y0, .inr (2, [.ref t0, .int (iI total), .ref ys, .ref yk, .ref yc, .ref yd, .ref yw, .ref yx, .ref yb, .ref yu])), (yd, .inl (cI, aI cap gcf)), (yx, .inl (cJ, aL cap gwf)), (yb, .inl (cI, aI (6 * cap) gbe)), (t0, .inr (1, [.int (iI steps), .int (iI choices), .int (iI bars), .ref hs, .ref hc, .ref hf, .ref hg, .ref hb, .ref he, .ref hm])), (hs, .inl (cI, aI 12 fsz)), (hc, .inl (cI, aI 72 fco))]) [5, 0, 1, 6, 2, 3, 4] rfl rfl ?_
              refine g_lv (lv' := [(6, .int (iI (x + 1))), (5, .int (iI (min y ((gcf (gbe ((b * 6) + x))) + (fco ((a * 6) + x)))))), (3, .long (lI (v + (gwf (gbe ((b * 6) + x)))))), (0, .ref y0), (1, .int (iI a)), (2, .int (iI b))]) [0, 2, 1, 5, 6, 7] rfl ?_
              refine g_wide (k := 0) (n := 0) (Nat.le_of_ble_eq_true rfl) (Nat.le_of_ble_eq_true rfl) ?_
              exact ih8 (x + 1) (min y ((gcf (gbe ((b * 6) + x))) + (fco ((a * 6) + x)))) (v + (gwf (gbe ((b * 6) + x)))) (by omega) (by first | omega | (constructor <;> omega)) (by first | rfl | (rw [lbW_no (by omega) (by omega)]; exact kv) | (rw [lbW_yes (by omega) ⟨by omega, by omega⟩, ← kv])) (by first | rfl | (rw [lbC_no (by omega) (by omega)]; exact kc) | (rw [lbC_first (by omega) ⟨by omega, by omega⟩ (by omega)]) | (rw [lbC_more (by omega) ⟨by omega, by omega⟩ (by omega), ← kc])) (by omega)
            · refine g_iload C 0 std_Y_lookBackFrom_78 rfl ?_
              refine g_goto (tgt := 90) C std_Y_lookBackFrom_80 (by decide) ?_
              refine g_istore C (lv' := [(5, .int (iI ((gcf (gbe ((b * 6) + x))) + (fco ((a * 6) + x))))), (8, .int (iI ((gcf (gbe ((b * 6) + x))) + (fco ((a * 6) + x))))), (7, .int (iI (gbe ((b * 6) + x)))), (6, .int (iI x)), (3, .long (lI v)), (0, .ref y0), (1, .int (iI a)), (2, .int (iI b))]) std_Y_lookBackFrom_90 (by decide) rfl ?_
              refine g_lload_n C 4 std_Y_lookBackFrom_92 rfl ?_
              refine g_aload_n C 5 std_Y_lookBackFrom_93 rfl ?_
              refine g_get C (st_sub sti_Y) 5 rfl rfl 7 (by decide) (List.mem_cons_of_mem _ kw_1_96) rfl rfl std_Y_lookBackFrom_94 ?_
              refine g_iload C 2 std_Y_lookBackFrom_97 rfl ?_
              refine g_lald C 1 1 rfl rfl (by omega) (by omega) (by omega) std_Y_lookBackFrom_99 ?_
              refine g_ladd C std_Y_lookBackFrom_100 ?_
              refine g_lstore_n C (lv' := [(3, .long (lI (v + (gwf (gbe ((b * 6) + x)))))), (5, .int (iI ((gcf (gbe ((b * 6) + x))) + (fco ((a * 6) + x))))), (8, .int (iI ((gcf (gbe ((b * 6) + x))) + (fco ((a * 6) + x))))), (7, .int (iI (gbe ((b * 6) + x)))), (6, .int (iI x)), (0, .ref y0), (1, .int (iI a)), (2, .int (iI b))]) std_Y_lookBackFrom_101 (by decide) rfl ?_
              refine g_iinc C (lv' := [(6, .int (iI (x + 1))), (3, .long (lI (v + (gwf (gbe ((b * 6) + x)))))), (5, .int (iI ((gcf (gbe ((b * 6) + x))) + (fco ((a * 6) + x))))), (8, .int (iI ((gcf (gbe ((b * 6) + x))) + (fco ((a * 6) + x))))), (7, .int (iI (gbe ((b * 6) + x)))), (0, .ref y0), (1, .int (iI a)), (2, .int (iI b))]) 4 std_Y_lookBackFrom_102 rfl (by decide) rfl ?_
              refine g_goto (tgt := 8) C std_Y_lookBackFrom_105 (by decide) ?_
              refine g_sub (ws' := [(y0, .inr (2, [.ref t0, .int (iI total), .ref ys, .ref yk, .ref yc, .ref yd, .ref yw, .ref yx, .ref yb, .ref yu])), (yd, .inl (cI, aI cap gcf)), (yx, .inl (cJ, aL cap gwf)), (yb, .inl (cI, aI (6 * cap) gbe)), (t0, .inr (1, [.int (iI steps), .int (iI choices), .int (iI bars), .ref hs, .ref hc, .ref hf, .ref hg, .ref hb, .ref he, .ref hm])), (hs, .inl (cI, aI 12 fsz)), (hc, .inl (cI, aI 72 fco))]) [5, 0, 1, 6, 2, 3, 4] rfl rfl ?_
              refine g_lv (lv' := [(6, .int (iI (x + 1))), (5, .int (iI ((gcf (gbe ((b * 6) + x))) + (fco ((a * 6) + x))))), (3, .long (lI (v + (gwf (gbe ((b * 6) + x)))))), (0, .ref y0), (1, .int (iI a)), (2, .int (iI b))]) [0, 2, 1, 5, 6, 7] rfl ?_
              refine g_wide (k := 0) (n := 0) (Nat.le_of_ble_eq_true rfl) (Nat.le_of_ble_eq_true rfl) ?_
              exact ih8 (x + 1) ((gcf (gbe ((b * 6) + x))) + (fco ((a * 6) + x))) (v + (gwf (gbe ((b * 6) + x)))) (by omega) (by first | omega | (constructor <;> omega)) (by first | rfl | (rw [lbW_no (by omega) (by omega)]; exact kv) | (rw [lbW_yes (by omega) ⟨by omega, by omega⟩, ← kv])) (by first | rfl | (rw [lbC_no (by omega) (by omega)]; exact kc) | (rw [lbC_first (by omega) ⟨by omega, by omega⟩ (by omega)]) | (rw [lbC_more (by omega) ⟨by omega, by omega⟩ (by omega), ← kc])) (by omega)
  obtain ⟨nn0, hnn0⟩ : ∃ nn0 : Nat, (fsz a - 0) < (nn0 : Int) := z_nat _
  exact L8 nn0 0 0 0 (by omega) (by first | omega | (constructor <;> omega)) (by first | rfl | (rw [lbW_no (by omega) (by omega)]; exact kv) | (rw [lbW_yes (by omega) ⟨by omega, by omega⟩, ← kv])) (by first | rfl | (rw [lbC_no (by omega) (by omega)]; exact kc) | (rw [lbC_first (by omega) ⟨by omega, by omega⟩ (by omega)]) | (rw [lbC_more (by omega) ⟨by omega, by omega⟩ (by omega), ← kc])) hnn0

