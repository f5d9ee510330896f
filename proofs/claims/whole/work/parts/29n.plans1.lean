/-! FirstPlans: reads, keepIfAmongFirst -/
abbrev sty_F_bitsBehind : MethodName := ⟨"StateTables$FirstPlans", "bitsBehind", "(I)I"⟩
abbrev stc_F_bitsBehind : ByteArray := prog_2_method_4_code
theorem sth_F_bitsBehind : (sty_F_bitsBehind).cls ≠ "java/lang/invoke/MethodHandle" ∧ (sty_F_bitsBehind).cls ≠ "java/lang/invoke/VarHandle" ∧ (parseMethodDescriptor (sty_F_bitsBehind).desc).map (fun d => d.parameters.length) = some 1 := by decide +kernel
theorem std_F_bitsBehind_0 : decode stc_F_bitsBehind 0 = .ok (.iconst 3, 1) := by decide +kernel
theorem std_F_bitsBehind_1 : decode stc_F_bitsBehind 1 = .ok (.bipush 11, 2) := by decide +kernel
theorem std_F_bitsBehind_3 : decode stc_F_bitsBehind 3 = .ok (.iload_n 0, 1) := by decide +kernel
theorem std_F_bitsBehind_4 : decode stc_F_bitsBehind 4 = .ok (.isub, 1) := by decide +kernel
theorem std_F_bitsBehind_5 : decode stc_F_bitsBehind 5 = .ok (.imul, 1) := by decide +kernel
theorem std_F_bitsBehind_6 : decode stc_F_bitsBehind 6 = .ok (.ireturn, 1) := by decide +kernel
set_option maxHeartbeats 4000000 in
set_option maxRecDepth 100000 in
theorem c_bitsBehind (l : Launch) (dC : Nat → ClassId) (dI : Nat → Nat → Nat) (cI cJ cZ : ClassId) (a : Int)  : ∀ sz, Met l sty_F_bitsBehind (Cond.code sty_F_bitsBehind stc_F_bitsBehind 1 (some .int) :: stGW) ({ frames := 0, cells := 0, slots := 0, locals := 0 } : Room) (va_Pc [.int (iI a)] (zPre (dC, dI) stCl [(cI, .int), (cJ, .long), (cZ, .boolean)] st_nw [] sz)) (va_Qi (fun (r : Int32) (_ : Unit) => r = iI (3 * (11 - a))) (zPost (dC, dI) stCl [(cI, .int), (cJ, .long), (cZ, .boolean)] [] sz (fun _ : Unit => [])) (va_A [] sz)) 0 0 (va_A [] sz) := by
  refine met_i (by decide) rfl (Nat.le_of_ble_eq_true rfl) ?_
  intro p e s m below meth c A Q C hmn hret
  refine g_iconst C std_F_bitsBehind_0 ?_
  refine g_bipush C std_F_bitsBehind_1 (by decide) ?_
  refine g_iload_n C 0 std_F_bitsBehind_3 rfl ?_
  refine g_isub C std_F_bitsBehind_4 ?_
  refine g_imul C std_F_bitsBehind_5 ?_
  exact hret _ _ _ () (rfl) std_F_bitsBehind_6

abbrev sty_F_costOf : MethodName := ⟨"StateTables$FirstPlans", "costOf", "(I)I"⟩
abbrev stc_F_costOf : ByteArray := prog_2_method_2_code
theorem sth_F_costOf : (sty_F_costOf).cls ≠ "java/lang/invoke/MethodHandle" ∧ (sty_F_costOf).cls ≠ "java/lang/invoke/VarHandle" ∧ (parseMethodDescriptor (sty_F_costOf).desc).map (fun d => d.parameters.length) = some 1 := by decide +kernel
theorem std_F_costOf_0 : decode stc_F_costOf 0 = .ok (.aload_n 0, 1) := by decide +kernel
theorem std_F_costOf_1 : decode stc_F_costOf 1 = .ok (.getfield 11, 3) := by decide +kernel
theorem kw_1_133 : Cond.fieldLink "StateTables$FirstPlans" 11 "StateTables$FirstPlans" "rows" "[J" ∈ stGW := st_t1 (List.mem_of_getElem? (i := 133) (by decide +kernel)) (by decide +kernel)
theorem std_F_costOf_4 : decode stc_F_costOf 4 = .ok (.iload_n 1, 1) := by decide +kernel
theorem std_F_costOf_5 : decode stc_F_costOf 5 = .ok (.laload, 1) := by decide +kernel
theorem std_F_costOf_6 : decode stc_F_costOf 6 = .ok (.bipush 36, 2) := by decide +kernel
theorem std_F_costOf_8 : decode stc_F_costOf 8 = .ok (.lshr, 1) := by decide +kernel
theorem std_F_costOf_9 : decode stc_F_costOf 9 = .ok (.l2i, 1) := by decide +kernel
theorem std_F_costOf_10 : decode stc_F_costOf 10 = .ok (.sipush 12000, 3) := by decide +kernel
theorem std_F_costOf_13 : decode stc_F_costOf 13 = .ok (.isub, 1) := by decide +kernel
theorem std_F_costOf_14 : decode stc_F_costOf 14 = .ok (.ireturn, 1) := by decide +kernel
set_option maxHeartbeats 4000000 in
set_option maxRecDepth 100000 in
theorem c_costOf (l : Launch) (dC : Nat → ClassId) (dI : Nat → Nat → Nat) (cI cJ cZ : ClassId) (f0 : Nat) (r1 : Nat) (e1 : Nat) (r2 : Nat) (e2 : Nat) (fo : Int) (lf : Int) (t0 : Nat) (y0 : Nat) (fr1 : Int → Int) (a : Int) (ka : 0 ≤ a ∧ a < 20) (kr : 0 ≤ fr1 a ∧ fr1 a < 4611686018427387904) : ∀ sz, Met l sty_F_costOf (Cond.code sty_F_costOf stc_F_costOf 2 (some .int) :: stGW) ({ frames := 0, cells := 0, slots := 0, locals := 0 } : Room) (va_Pc [.ref f0, .int (iI a)] (zPre (dC, dI) stCl [(cI, .int), (cJ, .long), (cZ, .boolean)] st_nw [(f0, .inr (3, [.ref t0, .ref y0, .int (iI fo), .ref r1, .ref e1, .int (iI lf), .ref r2, .ref e2])), (r1, .inl (cJ, aL 20 fr1))] sz)) (va_Qi (fun (r : Int32) (_ : Unit) => r = iI (((fr1 a) / 68719476736) - 12000)) (zPost (dC, dI) stCl [(cI, .int), (cJ, .long), (cZ, .boolean)] [(f0, .inr (3, [.ref t0, .ref y0, .int (iI fo), .ref r1, .ref e1, .int (iI lf), .ref r2, .ref e2])), (r1, .inl (cJ, aL 20 fr1))] sz (fun _ : Unit => [(f0, .inr (3, [.ref t0, .ref y0, .int (iI fo), .ref r1, .ref e1, .int (iI lf), .ref r2, .ref e2])), (r1, .inl (cJ, aL 20 fr1))])) (va_A [(f0, .inr (3, [.ref t0, .ref y0, .int (iI fo), .ref r1, .ref e1, .int (iI lf), .ref r2, .ref e2])), (r1, .inl (cJ, aL 20 fr1))] sz)) 0 0 (va_A [(f0, .inr (3, [.ref t0, .ref y0, .int (iI fo), .ref r1, .ref e1, .int (iI lf), .ref r2, .ref e2])), (r1, .inl (cJ, aL 20 fr1))] sz) := by
  refine met_i (by decide) rfl (Nat.le_of_ble_eq_true rfl) ?_
  intro p e s m below meth c A Q C hmn hret
  refine g_aload_n C 0 std_F_costOf_0 rfl ?_
  refine g_get C (st_sub sti_F) 0 rfl rfl 3 (by decide) (List.mem_cons_of_mem _ kw_1_133) rfl rfl std_F_costOf_1 ?_
  refine g_iload_n C 1 std_F_costOf_4 rfl ?_
  refine g_lald C 1 1 rfl rfl (by omega) (by omega) (by omega) std_F_costOf_5 ?_
  refine g_bipush C std_F_costOf_6 (by decide) ?_
  refine g_lshr C (z := ((fr1 a) / 68719476736)) std_F_costOf_8 (lI_shr (by omega) (by decide) (by decide) (by decide)) ?_
  refine g_l2i C std_F_costOf_9 ?_
  refine g_sipush C std_F_costOf_10 (by decide) ?_
  refine g_isub C std_F_costOf_13 ?_
  exact hret _ _ _ () (rfl) std_F_costOf_14

abbrev sty_F_choiceOf : MethodName := ⟨"StateTables$FirstPlans", "choiceOf", "(II)I"⟩
abbrev stc_F_choiceOf : ByteArray := prog_2_method_3_code
theorem sth_F_choiceOf : (sty_F_choiceOf).cls ≠ "java/lang/invoke/MethodHandle" ∧ (sty_F_choiceOf).cls ≠ "java/lang/invoke/VarHandle" ∧ (parseMethodDescriptor (sty_F_choiceOf).desc).map (fun d => d.parameters.length) = some 2 := by decide +kernel
theorem std_F_choiceOf_0 : decode stc_F_choiceOf 0 = .ok (.aload_n 0, 1) := by decide +kernel
theorem std_F_choiceOf_1 : decode stc_F_choiceOf 1 = .ok (.getfield 11, 3) := by decide +kernel
theorem std_F_choiceOf_4 : decode stc_F_choiceOf 4 = .ok (.iload_n 1, 1) := by decide +kernel
theorem std_F_choiceOf_5 : decode stc_F_choiceOf 5 = .ok (.laload, 1) := by decide +kernel
theorem std_F_choiceOf_6 : decode stc_F_choiceOf 6 = .ok (.iload_n 2, 1) := by decide +kernel
theorem std_F_choiceOf_7 : decode stc_F_choiceOf 7 = .ok (.invokestatic 33, 3) := by decide +kernel
theorem kw_2_138 : Cond.code sty_F_bitsBehind stc_F_bitsBehind 1 (some .int) ∈ stGW := st_t2 (List.mem_of_getElem? (i := 138) (by decide +kernel)) (by decide +kernel)
theorem kw_1_4 : Cond.initialized "StateTables$FirstPlans" ∈ stGW := st_t1 (List.mem_of_getElem? (i := 4) (by decide +kernel)) (by decide +kernel)
theorem kw_2_136 : Cond.methodLink "StateTables$FirstPlans" 33 (sty_F_bitsBehind) ∈ stGW := st_t2 (List.mem_of_getElem? (i := 136) (by decide +kernel)) (by decide +kernel)
theorem kw_2_137 : Cond.static (sty_F_bitsBehind) ∈ stGW := st_t2 (List.mem_of_getElem? (i := 137) (by decide +kernel)) (by decide +kernel)
theorem std_F_choiceOf_10 : decode stc_F_choiceOf 10 = .ok (.lshr, 1) := by decide +kernel
theorem std_F_choiceOf_11 : decode stc_F_choiceOf 11 = .ok (.l2i, 1) := by decide +kernel
theorem std_F_choiceOf_12 : decode stc_F_choiceOf 12 = .ok (.bipush 7, 2) := by decide +kernel
theorem std_F_choiceOf_14 : decode stc_F_choiceOf 14 = .ok (.iand, 1) := by decide +kernel
theorem std_F_choiceOf_15 : decode stc_F_choiceOf 15 = .ok (.ireturn, 1) := by decide +kernel
set_option maxHeartbeats 4000000 in
set_option maxRecDepth 100000 in
theorem c_choiceOf (l : Launch) (dC : Nat → ClassId) (dI : Nat → Nat → Nat) (cI cJ cZ : ClassId) (f0 : Nat) (r1 : Nat) (e1 : Nat) (r2 : Nat) (e2 : Nat) (fo : Int) (lf : Int) (t0 : Nat) (y0 : Nat) (fr1 : Int → Int) (a : Int) (b : Int) (ka : 0 ≤ a ∧ a < 20) (kb : 0 ≤ b ∧ b < 12) (kr : 0 ≤ fr1 a ∧ fr1 a < 4611686018427387904) : ∀ sz, Met l sty_F_choiceOf (Cond.code sty_F_choiceOf stc_F_choiceOf 3 (some .int) :: stGW) ({ frames := 1, cells := 0, slots := 0, locals := 20 } : Room) (va_Pc [.ref f0, .int (iI a), .int (iI b)] (zPre (dC, dI) stCl [(cI, .int), (cJ, .long), (cZ, .boolean)] st_nw [(f0, .inr (3, [.ref t0, .ref y0, .int (iI fo), .ref r1, .ref e1, .int (iI lf), .ref r2, .ref e2])), (r1, .inl (cJ, aL 20 fr1))] sz)) (va_Qi (fun (r : Int32) (_ : Unit) => r = iI (((fr1 a) / (2 ^ (3 * (11 - b)).toNat)) % 8)) (zPost (dC, dI) stCl [(cI, .int), (cJ, .long), (cZ, .boolean)] [(f0, .inr (3, [.ref t0, .ref y0, .int (iI fo), .ref r1, .ref e1, .int (iI lf), .ref r2, .ref e2])), (r1, .inl (cJ, aL 20 fr1))] sz (fun _ : Unit => [(f0, .inr (3, [.ref t0, .ref y0, .int (iI fo), .ref r1, .ref e1, .int (iI lf), .ref r2, .ref e2])), (r1, .inl (cJ, aL 20 fr1))])) (va_A [(f0, .inr (3, [.ref t0, .ref y0, .int (iI fo), .ref r1, .ref e1, .int (iI lf), .ref r2, .ref e2])), (r1, .inl (cJ, aL 20 fr1))] sz)) 0 0 (va_A [(f0, .inr (3, [.ref t0, .ref y0, .int (iI fo), .ref r1, .ref e1, .int (iI lf), .ref r2, .ref e2])), (r1, .inl (cJ, aL 20 fr1))] sz) := by
  refine met_i (by decide) rfl (Nat.le_of_ble_eq_true rfl) ?_
  intro p e s m below meth c A Q C hmn hret
  refine g_aload_n C 0 std_F_choiceOf_0 rfl ?_
  refine g_get C (st_sub sti_F) 0 rfl rfl 3 (by decide) (List.mem_cons_of_mem _ kw_1_133) rfl rfl std_F_choiceOf_1 ?_
  refine g_iload_n C 1 std_F_choiceOf_4 rfl ?_
  refine g_lald C 1 1 rfl rfl (by omega) (by omega) (by omega) std_F_choiceOf_5 ?_
  refine g_iload_n C 2 std_F_choiceOf_6 rfl ?_
  refine g_S_i (wc := []) (wr := [(f0, .inr (3, [.ref t0, .ref y0, .int (iI fo), .ref r1, .ref e1, .int (iI lf), .ref r2, .ref e2])), (r1, .inl (cJ, aL 20 fr1))]) (rest := [.long (lI (fr1 a))]) C (c_bitsBehind l dC dI cI cJ cZ b ) (st_cS C kw_2_138 kw_2_136 kw_1_4 kw_2_137 sth_F_bitsBehind ⟨Nat.le_of_ble_eq_true rfl, Nat.le_of_ble_eq_true rfl⟩) rfl rfl (Nat.le_of_ble_eq_true rfl) std_F_choiceOf_7 ⟨Nat.le_of_ble_eq_true rfl, Nat.le_of_ble_eq_true rfl⟩ [] [0, 1] rfl rfl rfl rfl (by decide) (fun r1 u2 h3 => ?_)
  subst h3
  refine g_ws (ws' := [(f0, .inr (3, [.ref t0, .ref y0, .int (iI fo), .ref r1, .ref e1, .int (iI lf), .ref r2, .ref e2])), (r1, .inl (cJ, aL 20 fr1))]) rfl ?_
  refine g_lshr C (z := ((fr1 a) / (2 ^ (3 * (11 - b)).toNat))) std_F_choiceOf_10 (lI_shr (by omega) (by omega) (by omega) rfl) ?_
  refine g_l2i C std_F_choiceOf_11 ?_
  refine g_bipush C std_F_choiceOf_12 (by decide) ?_
  refine g_iand C std_F_choiceOf_14 (iI_andK (d := 8) 3 (by decide) (by decide) (by decide)) ?_
  refine g_wide (k := 0) (n := 0) (Nat.le_of_ble_eq_true rfl) (Nat.le_of_ble_eq_true rfl) ?_
  exact hret _ _ _ () (rfl) std_F_choiceOf_15

abbrev sty_F_keepIfAmongFirst : MethodName := ⟨"StateTables$FirstPlans", "keepIfAmongFirst", "(JI)V"⟩
abbrev stc_F_keepIfAmongFirst : ByteArray := prog_2_method_8_code
theorem sth_F_keepIfAmongFirst : (sty_F_keepIfAmongFirst).cls ≠ "java/lang/invoke/MethodHandle" ∧ (sty_F_keepIfAmongFirst).cls ≠ "java/lang/invoke/VarHandle" ∧ (parseMethodDescriptor (sty_F_keepIfAmongFirst).desc).map (fun d => d.parameters.length) = some 2 := by decide +kernel
theorem std_F_keepIfAmongFirst_0 : decode stc_F_keepIfAmongFirst 0 = .ok (.aload_n 0, 1) := by decide +kernel
theorem std_F_keepIfAmongFirst_1 : decode stc_F_keepIfAmongFirst 1 = .ok (.getfield 58, 3) := by decide +kernel
theorem kw_1_135 : Cond.fieldLink "StateTables$FirstPlans" 58 "StateTables$FirstPlans" "longerFound" "I" ∈ stGW := st_t1 (List.mem_of_getElem? (i := 135) (by decide +kernel)) (by decide +kernel)
theorem std_F_keepIfAmongFirst_4 : decode stc_F_keepIfAmongFirst 4 = .ok (.bipush 20, 2) := by decide +kernel
theorem std_F_keepIfAmongFirst_6 : decode stc_F_keepIfAmongFirst 6 = .ok (.if_icmp .ne 26, 3) := by decide +kernel
theorem std_F_keepIfAmongFirst_32 : decode stc_F_keepIfAmongFirst 32 = .ok (.aload_n 0, 1) := by decide +kernel
theorem std_F_keepIfAmongFirst_33 : decode stc_F_keepIfAmongFirst 33 = .ok (.getfield 58, 3) := by decide +kernel
theorem std_F_keepIfAmongFirst_36 : decode stc_F_keepIfAmongFirst 36 = .ok (.istore 4, 2) := by decide +kernel
theorem std_F_keepIfAmongFirst_38 : decode stc_F_keepIfAmongFirst 38 = .ok (.iload 4, 2) := by decide +kernel
theorem std_F_keepIfAmongFirst_40 : decode stc_F_keepIfAmongFirst 40 = .ok (.ifCond .le 55, 3) := by decide +kernel
theorem std_F_keepIfAmongFirst_95 : decode stc_F_keepIfAmongFirst 95 = .ok (.aload_n 0, 1) := by decide +kernel
theorem std_F_keepIfAmongFirst_96 : decode stc_F_keepIfAmongFirst 96 = .ok (.getfield 19, 3) := by decide +kernel
theorem kw_1_136 : Cond.fieldLink "StateTables$FirstPlans" 19 "StateTables$FirstPlans" "longerRows" "[J" ∈ stGW := st_t1 (List.mem_of_getElem? (i := 136) (by decide +kernel)) (by decide +kernel)
theorem std_F_keepIfAmongFirst_99 : decode stc_F_keepIfAmongFirst 99 = .ok (.iload 4, 2) := by decide +kernel
theorem std_F_keepIfAmongFirst_101 : decode stc_F_keepIfAmongFirst 101 = .ok (.lload_n 1, 1) := by decide +kernel
theorem std_F_keepIfAmongFirst_102 : decode stc_F_keepIfAmongFirst 102 = .ok (.lastore, 1) := by decide +kernel
theorem std_F_keepIfAmongFirst_103 : decode stc_F_keepIfAmongFirst 103 = .ok (.aload_n 0, 1) := by decide +kernel
theorem std_F_keepIfAmongFirst_104 : decode stc_F_keepIfAmongFirst 104 = .ok (.getfield 22, 3) := by decide +kernel
theorem kw_1_137 : Cond.fieldLink "StateTables$FirstPlans" 22 "StateTables$FirstPlans" "longerEnds" "[I" ∈ stGW := st_t1 (List.mem_of_getElem? (i := 137) (by decide +kernel)) (by decide +kernel)
theorem std_F_keepIfAmongFirst_107 : decode stc_F_keepIfAmongFirst 107 = .ok (.iload 4, 2) := by decide +kernel
theorem std_F_keepIfAmongFirst_109 : decode stc_F_keepIfAmongFirst 109 = .ok (.iload_n 3, 1) := by decide +kernel
theorem std_F_keepIfAmongFirst_110 : decode stc_F_keepIfAmongFirst 110 = .ok (.iastore, 1) := by decide +kernel
theorem std_F_keepIfAmongFirst_111 : decode stc_F_keepIfAmongFirst 111 = .ok (.aload_n 0, 1) := by decide +kernel
theorem std_F_keepIfAmongFirst_112 : decode stc_F_keepIfAmongFirst 112 = .ok (.dup, 1) := by decide +kernel
theorem std_F_keepIfAmongFirst_113 : decode stc_F_keepIfAmongFirst 113 = .ok (.getfield 58, 3) := by decide +kernel
theorem std_F_keepIfAmongFirst_116 : decode stc_F_keepIfAmongFirst 116 = .ok (.iconst 1, 1) := by decide +kernel
theorem std_F_keepIfAmongFirst_117 : decode stc_F_keepIfAmongFirst 117 = .ok (.iadd, 1) := by decide +kernel
theorem std_F_keepIfAmongFirst_118 : decode stc_F_keepIfAmongFirst 118 = .ok (.putfield 58, 3) := by decide +kernel
theorem std_F_keepIfAmongFirst_121 : decode stc_F_keepIfAmongFirst 121 = .ok (.return_, 1) := by decide +kernel
theorem std_F_keepIfAmongFirst_43 : decode stc_F_keepIfAmongFirst 43 = .ok (.aload_n 0, 1) := by decide +kernel
theorem std_F_keepIfAmongFirst_44 : decode stc_F_keepIfAmongFirst 44 = .ok (.getfield 19, 3) := by decide +kernel
theorem std_F_keepIfAmongFirst_47 : decode stc_F_keepIfAmongFirst 47 = .ok (.iload 4, 2) := by decide +kernel
theorem std_F_keepIfAmongFirst_49 : decode stc_F_keepIfAmongFirst 49 = .ok (.iconst 1, 1) := by decide +kernel
theorem std_F_keepIfAmongFirst_50 : decode stc_F_keepIfAmongFirst 50 = .ok (.isub, 1) := by decide +kernel
theorem std_F_keepIfAmongFirst_51 : decode stc_F_keepIfAmongFirst 51 = .ok (.laload, 1) := by decide +kernel
theorem std_F_keepIfAmongFirst_52 : decode stc_F_keepIfAmongFirst 52 = .ok (.lload_n 1, 1) := by decide +kernel
theorem std_F_keepIfAmongFirst_53 : decode stc_F_keepIfAmongFirst 53 = .ok (.lcmp, 1) := by decide +kernel
theorem std_F_keepIfAmongFirst_54 : decode stc_F_keepIfAmongFirst 54 = .ok (.ifCond .le 41, 3) := by decide +kernel
theorem std_F_keepIfAmongFirst_57 : decode stc_F_keepIfAmongFirst 57 = .ok (.aload_n 0, 1) := by decide +kernel
theorem std_F_keepIfAmongFirst_58 : decode stc_F_keepIfAmongFirst 58 = .ok (.getfield 19, 3) := by decide +kernel
theorem std_F_keepIfAmongFirst_61 : decode stc_F_keepIfAmongFirst 61 = .ok (.iload 4, 2) := by decide +kernel
theorem std_F_keepIfAmongFirst_63 : decode stc_F_keepIfAmongFirst 63 = .ok (.aload_n 0, 1) := by decide +kernel
theorem std_F_keepIfAmongFirst_64 : decode stc_F_keepIfAmongFirst 64 = .ok (.getfield 19, 3) := by decide +kernel
theorem std_F_keepIfAmongFirst_67 : decode stc_F_keepIfAmongFirst 67 = .ok (.iload 4, 2) := by decide +kernel
theorem std_F_keepIfAmongFirst_69 : decode stc_F_keepIfAmongFirst 69 = .ok (.iconst 1, 1) := by decide +kernel
theorem std_F_keepIfAmongFirst_70 : decode stc_F_keepIfAmongFirst 70 = .ok (.isub, 1) := by decide +kernel
theorem std_F_keepIfAmongFirst_71 : decode stc_F_keepIfAmongFirst 71 = .ok (.laload, 1) := by decide +kernel
theorem std_F_keepIfAmongFirst_72 : decode stc_F_keepIfAmongFirst 72 = .ok (.lastore, 1) := by decide +kernel
theorem std_F_keepIfAmongFirst_73 : decode stc_F_keepIfAmongFirst 73 = .ok (.aload_n 0, 1) := by decide +kernel
theorem std_F_keepIfAmongFirst_74 : decode stc_F_keepIfAmongFirst 74 = .ok (.getfield 22, 3) := by decide +kernel
theorem std_F_keepIfAmongFirst_77 : decode stc_F_keepIfAmongFirst 77 = .ok (.iload 4, 2) := by decide +kernel
theorem std_F_keepIfAmongFirst_79 : decode stc_F_keepIfAmongFirst 79 = .ok (.aload_n 0, 1) := by decide +kernel
theorem std_F_keepIfAmongFirst_80 : decode stc_F_keepIfAmongFirst 80 = .ok (.getfield 22, 3) := by decide +kernel
theorem std_F_keepIfAmongFirst_83 : decode stc_F_keepIfAmongFirst 83 = .ok (.iload 4, 2) := by decide +kernel
theorem std_F_keepIfAmongFirst_85 : decode stc_F_keepIfAmongFirst 85 = .ok (.iconst 1, 1) := by decide +kernel
theorem std_F_keepIfAmongFirst_86 : decode stc_F_keepIfAmongFirst 86 = .ok (.isub, 1) := by decide +kernel
theorem std_F_keepIfAmongFirst_87 : decode stc_F_keepIfAmongFirst 87 = .ok (.iaload, 1) := by decide +kernel
theorem std_F_keepIfAmongFirst_88 : decode stc_F_keepIfAmongFirst 88 = .ok (.iastore, 1) := by decide +kernel
theorem std_F_keepIfAmongFirst_89 : decode stc_F_keepIfAmongFirst 89 = .ok (.iinc 4 (-1), 3) := by decide +kernel
theorem std_F_keepIfAmongFirst_92 : decode stc_F_keepIfAmongFirst 92 = .ok (.goto (-54), 3) := by decide +kernel
theorem std_F_keepIfAmongFirst_9 : decode stc_F_keepIfAmongFirst 9 = .ok (.lload_n 1, 1) := by decide +kernel
theorem std_F_keepIfAmongFirst_10 : decode stc_F_keepIfAmongFirst 10 = .ok (.aload_n 0, 1) := by decide +kernel
theorem std_F_keepIfAmongFirst_11 : decode stc_F_keepIfAmongFirst 11 = .ok (.getfield 19, 3) := by decide +kernel
theorem std_F_keepIfAmongFirst_14 : decode stc_F_keepIfAmongFirst 14 = .ok (.bipush 19, 2) := by decide +kernel
theorem std_F_keepIfAmongFirst_16 : decode stc_F_keepIfAmongFirst 16 = .ok (.laload, 1) := by decide +kernel
theorem std_F_keepIfAmongFirst_17 : decode stc_F_keepIfAmongFirst 17 = .ok (.lcmp, 1) := by decide +kernel
theorem std_F_keepIfAmongFirst_18 : decode stc_F_keepIfAmongFirst 18 = .ok (.ifCond .le 4, 3) := by decide +kernel
theorem std_F_keepIfAmongFirst_22 : decode stc_F_keepIfAmongFirst 22 = .ok (.aload_n 0, 1) := by decide +kernel
theorem std_F_keepIfAmongFirst_23 : decode stc_F_keepIfAmongFirst 23 = .ok (.dup, 1) := by decide +kernel
theorem std_F_keepIfAmongFirst_24 : decode stc_F_keepIfAmongFirst 24 = .ok (.getfield 58, 3) := by decide +kernel
theorem std_F_keepIfAmongFirst_27 : decode stc_F_keepIfAmongFirst 27 = .ok (.iconst 1, 1) := by decide +kernel
theorem std_F_keepIfAmongFirst_28 : decode stc_F_keepIfAmongFirst 28 = .ok (.isub, 1) := by decide +kernel
theorem std_F_keepIfAmongFirst_29 : decode stc_F_keepIfAmongFirst 29 = .ok (.putfield 58, 3) := by decide +kernel
theorem std_F_keepIfAmongFirst_21 : decode stc_F_keepIfAmongFirst 21 = .ok (.return_, 1) := by decide +kernel
set_option maxHeartbeats 4000000 in
set_option maxRecDepth 100000 in
theorem c_keepIfAmongFirst (l : Launch) (dC : Nat → ClassId) (dI : Nat → Nat → Nat) (cI cJ cZ : ClassId) (f0 : Nat) (r1 : Nat) (e1 : Nat) (r2 : Nat) (e2 : Nat) (fo : Int) (lf : Int) (t0 : Nat) (y0 : Nat) (fr2 : Int → Int) (fe2 : Int → Int) (Xs : Int → Int → Prop) (w : Int) (b : Int) (kF : FS Xs lf fr2 fe2) (kne : ∀ i, 0 ≤ i → i < lf → ¬ fr2 i = w) (kR : ∀ i, 0 ≤ i → i < lf → 0 ≤ fr2 i ∧ fr2 i < 4611686018427387904) (kw : 0 ≤ w ∧ w < 4611686018427387904) : ∀ sz, Met l sty_F_keepIfAmongFirst (Cond.code sty_F_keepIfAmongFirst stc_F_keepIfAmongFirst 5 none :: stGW) ({ frames := 0, cells := 0, slots := 0, locals := 0 } : Room) (va_Pc [.ref f0, .long (lI w), .int (iI b)] (zPre (dC, dI) stCl [(cI, .int), (cJ, .long), (cZ, .boolean)] st_nw [(f0, .inr (3, [.ref t0, .ref y0, .int (iI fo), .ref r1, .ref e1, .int (iI lf), .ref r2, .ref e2])), (r2, .inl (cJ, aL 20 fr2)), (e2, .inl (cI, aI 20 fe2))] sz)) (va_Qv (fun (u : (Int → Int) × (Int → Int) × Int) => FS (fun E v => Xs E v ∨ (E = w ∧ v = b)) u.2.2 u.1 u.2.1) (zPost (dC, dI) stCl [(cI, .int), (cJ, .long), (cZ, .boolean)] [(f0, .inr (3, [.ref t0, .ref y0, .int (iI fo), .ref r1, .ref e1, .int (iI lf), .ref r2, .ref e2])), (r2, .inl (cJ, aL 20 fr2)), (e2, .inl (cI, aI 20 fe2))] sz (fun u : (Int → Int) × (Int → Int) × Int => [(f0, .inr (3, [.ref t0, .ref y0, .int (iI fo), .ref r1, .ref e1, .int (iI (u.2.2)), .ref r2, .ref e2])), (r2, .inl (cJ, aL 20 (u.1))), (e2, .inl (cI, aI 20 (u.2.1)))])) (va_A [(f0, .inr (3, [.ref t0, .ref y0, .int (iI fo), .ref r1, .ref e1, .int (iI lf), .ref r2, .ref e2])), (r2, .inl (cJ, aL 20 fr2)), (e2, .inl (cI, aI 20 fe2))] sz)) 0 0 (va_A [(f0, .inr (3, [.ref t0, .ref y0, .int (iI fo), .ref r1, .ref e1, .int (iI lf), .ref r2, .ref e2])), (r2, .inl (cJ, aL 20 fr2)), (e2, .inl (cI, aI 20 fe2))] sz) := by
  refine met_v (by decide) rfl (Nat.le_of_ble_eq_true rfl) ?_
  intro p e s m below meth c A Q C hmn hret
  have hF1 := kF.1
  refine g_aload_n C 0 std_F_keepIfAmongFirst_0 rfl ?_
  refine g_get C (st_sub sti_F) 0 rfl rfl 5 (by decide) (List.mem_cons_of_mem _ kw_1_135) rfl rfl std_F_keepIfAmongFirst_1 ?_
  refine g_bipush C std_F_keepIfAmongFirst_4 (by decide) ?_
  refine g_icmp_ne (tgt := 32) C std_F_keepIfAmongFirst_6 (by decide) ⟨by omega, by omega⟩ ⟨by omega, by omega⟩ (fun c1 => ?_) (fun c1 => ?_)
  · refine g_aload_n C 0 std_F_keepIfAmongFirst_32 rfl ?_
    refine g_get C (st_sub sti_F) 0 rfl rfl 5 (by decide) (List.mem_cons_of_mem _ kw_1_135) rfl rfl std_F_keepIfAmongFirst_33 ?_
    refine g_istore C (lv' := [(4, .int (iI lf)), (0, .ref f0), (1, .long (lI w)), (3, .int (iI b))]) std_F_keepIfAmongFirst_36 (by decide) rfl ?_
    have L38 : ∀ (nn38 : Nat) (m0 : Int) (x : Int) (LR : Int → Int) (LE : Int → Int), ((lf < 20 ∧ m0 = lf) ∨ (lf = 20 ∧ m0 = 19 ∧ w < fr2 19)) → (0 ≤ x ∧ x ≤ m0) → (∀ i, 0 ≤ i → i ≤ x → LR i = fr2 i ∧ LE i = fe2 i) → (∀ i, x < i → i ≤ m0 → LR i = fr2 (i - 1) ∧ LE i = fe2 (i - 1)) → (∀ i, x ≤ i → i < m0 → w < fr2 i) → x < (nn38 : Int) → G p l e ({ frames := 0, cells := 0, slots := 0, locals := 0 } : Room) s m ([.ref f0, .long (lI w), .int (iI b)] : List Value).toArray below meth c (dC, dI) stCl 5 A 0 0 Q [(f0, .inr (3, [.ref t0, .ref y0, .int (iI fo), .ref r1, .ref e1, .int (iI m0), .ref r2, .ref e2])), (r2, .inl (cJ, aL 20 LR)), (e2, .inl (cI, aI 20 LE))] 38 [(4, .int (iI x)), (0, .ref f0), (1, .long (lI w)), (3, .int (iI b))] [] := by
      intro nn38
      induction nn38 with
      | zero =>
        intro m0 x LR LE km kx k1 k2 k3 hnn38
        exact absurd hnn38 (by omega)
      | succ nn38 ih38 =>
        intro m0 x LR LE km kx k1 k2 k3 hnn38
        refine g_iload C 0 std_F_keepIfAmongFirst_38 rfl ?_
        refine g_if_le (tgt := 95) C std_F_keepIfAmongFirst_40 (by decide) ⟨by omega, by omega⟩ (fun c2 => ?_) (fun c2 => ?_)
        · have hlo : ∀ i, 0 ≤ i → i < x → fr2 i < w := fun i h1 h2 => by omega
          refine g_aload_n C 1 std_F_keepIfAmongFirst_95 rfl ?_
          refine g_get C (st_sub sti_F) 0 rfl rfl 6 (by decide) (List.mem_cons_of_mem _ kw_1_136) rfl rfl std_F_keepIfAmongFirst_96 ?_
          refine g_iload C 0 std_F_keepIfAmongFirst_99 rfl ?_
          refine g_lload_n C 2 std_F_keepIfAmongFirst_101 rfl ?_
          refine g_last C (ws' := [(f0, .inr (3, [.ref t0, .ref y0, .int (iI fo), .ref r1, .ref e1, .int (iI m0), .ref r2, .ref e2])), (r2, .inl (cJ, aL 20 (uZ LR x w))), (e2, .inl (cI, aI 20 LE))]) 1 1 rfl rfl (by omega) (by omega) (by omega) std_F_keepIfAmongFirst_102 rfl ?_
          refine g_aload_n C 1 std_F_keepIfAmongFirst_103 rfl ?_
          refine g_get C (st_sub sti_F) 0 rfl rfl 7 (by decide) (List.mem_cons_of_mem _ kw_1_137) rfl rfl std_F_keepIfAmongFirst_104 ?_
          refine g_iload C 0 std_F_keepIfAmongFirst_107 rfl ?_
          refine g_iload_n C 3 std_F_keepIfAmongFirst_109 rfl ?_
          refine g_iast C (ws' := [(f0, .inr (3, [.ref t0, .ref y0, .int (iI fo), .ref r1, .ref e1, .int (iI m0), .ref r2, .ref e2])), (r2, .inl (cJ, aL 20 (uZ LR x w))), (e2, .inl (cI, aI 20 (uZ LE x b)))]) 2 0 rfl rfl (by omega) (by omega) (by omega) std_F_keepIfAmongFirst_110 rfl ?_
          refine g_aload_n C 1 std_F_keepIfAmongFirst_111 rfl ?_
          refine g_dup C std_F_keepIfAmongFirst_112 rfl ?_
          refine g_get C (st_sub sti_F) 0 rfl rfl 5 (by decide) (List.mem_cons_of_mem _ kw_1_135) rfl rfl std_F_keepIfAmongFirst_113 ?_
          refine g_iconst C std_F_keepIfAmongFirst_116 ?_
          refine g_iadd C std_F_keepIfAmongFirst_117 ?_
          refine g_put C (ws' := [(f0, .inr (3, [.ref t0, .ref y0, .int (iI fo), .ref r1, .ref e1, .int (iI (m0 + 1)), .ref r2, .ref e2])), (r2, .inl (cJ, aL 20 (uZ LR x w))), (e2, .inl (cI, aI 20 (uZ LE x b)))]) (st_sub sti_F) stt_F sto_F stn_F 0 rfl rfl 5 (by decide) (List.mem_cons_of_mem _ kw_1_135) rfl rfl rfl rfl (Nat.le_of_ble_eq_true rfl) std_F_keepIfAmongFirst_118 rfl ?_
          exact hret _ _ ((uZ LR x w), (uZ LE x b), (m0 + 1)) (ki_fin kF km kx k1 k2 hlo k3) std_F_keepIfAmongFirst_121
        · refine g_aload_n C 1 std_F_keepIfAmongFirst_43 rfl ?_
          refine g_get C (st_sub sti_F) 0 rfl rfl 6 (by decide) (List.mem_cons_of_mem _ kw_1_136) rfl rfl std_F_keepIfAmongFirst_44 ?_
          refine g_iload C 0 std_F_keepIfAmongFirst_47 rfl ?_
          refine g_iconst C std_F_keepIfAmongFirst_49 ?_
          refine g_isub C std_F_keepIfAmongFirst_50 ?_
          refine g_lald C 1 1 rfl rfl (by omega) (by omega) (by omega) std_F_keepIfAmongFirst_51 ?_
          refine g_lload_n C 2 std_F_keepIfAmongFirst_52 rfl ?_
          have hqx := kR (x - 1) (by omega) (by omega)
          have hkx := (k1 (x - 1) (by omega) (by omega)).1
          refine g_lcmp_le (tgt := 95) C std_F_keepIfAmongFirst_53 std_F_keepIfAmongFirst_54 (by decide) ⟨by omega, by omega⟩ ⟨by omega, by omega⟩ (fun c3 => ?_) (fun c3 => ?_)
          · have hlo : ∀ i, 0 ≤ i → i < x → fr2 i < w := ki_lo kF kne (by omega) (by omega) (by omega)
            refine g_aload_n C 1 std_F_keepIfAmongFirst_95 rfl ?_
            refine g_get C (st_sub sti_F) 0 rfl rfl 6 (by decide) (List.mem_cons_of_mem _ kw_1_136) rfl rfl std_F_keepIfAmongFirst_96 ?_
            refine g_iload C 0 std_F_keepIfAmongFirst_99 rfl ?_
            refine g_lload_n C 2 std_F_keepIfAmongFirst_101 rfl ?_
            refine g_last C (ws' := [(f0, .inr (3, [.ref t0, .ref y0, .int (iI fo), .ref r1, .ref e1, .int (iI m0), .ref r2, .ref e2])), (r2, .inl (cJ, aL 20 (uZ LR x w))), (e2, .inl (cI, aI 20 LE))]) 1 1 rfl rfl (by omega) (by omega) (by omega) std_F_keepIfAmongFirst_102 rfl ?_
            refine g_aload_n C 1 std_F_keepIfAmongFirst_103 rfl ?_
            refine g_get C (st_sub sti_F) 0 rfl rfl 7 (by decide) (List.mem_cons_of_mem _ kw_1_137) rfl rfl std_F_keepIfAmongFirst_104 ?_
            refine g_iload C 0 std_F_keepIfAmongFirst_107 rfl ?_
            refine g_iload_n C 3 std_F_keepIfAmongFirst_109 rfl ?_
            refine g_iast C (ws' := [(f0, .inr (3, [.ref t0, .ref y0, .int (iI fo), .ref r1, .ref e1, .int (iI m0), .ref r2, .ref e2])), (r2, .inl (cJ, aL 20 (uZ LR x w))), (e2, .inl (cI, aI 20 (uZ LE x b)))]) 2 0 rfl rfl (by omega) (by omega) (by omega) std_F_keepIfAmongFirst_110 rfl ?_
            refine g_aload_n C 1 std_F_keepIfAmongFirst_111 rfl ?_
            refine g_dup C std_F_keepIfAmongFirst_112 rfl ?_
            refine g_get C (st_sub sti_F) 0 rfl rfl 5 (by decide) (List.mem_cons_of_mem _ kw_1_135) rfl rfl std_F_keepIfAmongFirst_113 ?_
            refine g_iconst C std_F_keepIfAmongFirst_116 ?_
            refine g_iadd C std_F_keepIfAmongFirst_117 ?_
            refine g_put C (ws' := [(f0, .inr (3, [.ref t0, .ref y0, .int (iI fo), .ref r1, .ref e1, .int (iI (m0 + 1)), .ref r2, .ref e2])), (r2, .inl (cJ, aL 20 (uZ LR x w))), (e2, .inl (cI, aI 20 (uZ LE x b)))]) (st_sub sti_F) stt_F sto_F stn_F 0 rfl rfl 5 (by decide) (List.mem_cons_of_mem _ kw_1_135) rfl rfl rfl rfl (Nat.le_of_ble_eq_true rfl) std_F_keepIfAmongFirst_118 rfl ?_
            exact hret _ _ ((uZ LR x w), (uZ LE x b), (m0 + 1)) (ki_fin kF km kx k1 k2 hlo k3) std_F_keepIfAmongFirst_121
          · refine g_aload_n C 1 std_F_keepIfAmongFirst_57 rfl ?_
            refine g_get C (st_sub sti_F) 0 rfl rfl 6 (by decide) (List.mem_cons_of_mem _ kw_1_136) rfl rfl std_F_keepIfAmongFirst_58 ?_
            refine g_iload C 0 std_F_keepIfAmongFirst_61 rfl ?_
            refine g_aload_n C 1 std_F_keepIfAmongFirst_63 rfl ?_
            refine g_get C (st_sub sti_F) 0 rfl rfl 6 (by decide) (List.mem_cons_of_mem _ kw_1_136) rfl rfl std_F_keepIfAmongFirst_64 ?_
            refine g_iload C 0 std_F_keepIfAmongFirst_67 rfl ?_
            refine g_iconst C std_F_keepIfAmongFirst_69 ?_
            refine g_isub C std_F_keepIfAmongFirst_70 ?_
            refine g_lald C 1 1 rfl rfl (by omega) (by omega) (by omega) std_F_keepIfAmongFirst_71 ?_
            refine g_last C (ws' := [(f0, .inr (3, [.ref t0, .ref y0, .int (iI fo), .ref r1, .ref e1, .int (iI m0), .ref r2, .ref e2])), (r2, .inl (cJ, aL 20 (uZ LR x (LR (x - 1))))), (e2, .inl (cI, aI 20 LE))]) 1 1 rfl rfl (by omega) (by omega) (by omega) std_F_keepIfAmongFirst_72 rfl ?_
            refine g_aload_n C 1 std_F_keepIfAmongFirst_73 rfl ?_
            refine g_get C (st_sub sti_F) 0 rfl rfl 7 (by decide) (List.mem_cons_of_mem _ kw_1_137) rfl rfl std_F_keepIfAmongFirst_74 ?_
            refine g_iload C 0 std_F_keepIfAmongFirst_77 rfl ?_
            refine g_aload_n C 1 std_F_keepIfAmongFirst_79 rfl ?_
            refine g_get C (st_sub sti_F) 0 rfl rfl 7 (by decide) (List.mem_cons_of_mem _ kw_1_137) rfl rfl std_F_keepIfAmongFirst_80 ?_
            refine g_iload C 0 std_F_keepIfAmongFirst_83 rfl ?_
            refine g_iconst C std_F_keepIfAmongFirst_85 ?_
            refine g_isub C std_F_keepIfAmongFirst_86 ?_
            refine g_iald C 2 0 rfl rfl (by omega) (by omega) (by omega) std_F_keepIfAmongFirst_87 ?_
            refine g_iast C (ws' := [(f0, .inr (3, [.ref t0, .ref y0, .int (iI fo), .ref r1, .ref e1, .int (iI m0), .ref r2, .ref e2])), (r2, .inl (cJ, aL 20 (uZ LR x (LR (x - 1))))), (e2, .inl (cI, aI 20 (uZ LE x (LE (x - 1)))))]) 2 0 rfl rfl (by omega) (by omega) (by omega) std_F_keepIfAmongFirst_88 rfl ?_
            refine g_iinc C (lv' := [(4, .int (iI (x + (-1)))), (0, .ref f0), (1, .long (lI w)), (3, .int (iI b))]) 0 std_F_keepIfAmongFirst_89 rfl (by decide) rfl ?_
            refine g_goto (tgt := 38) C std_F_keepIfAmongFirst_92 (by decide) ?_
            exact ih38 m0 (x + (-1)) (uZ LR x (LR (x - 1))) (uZ LE x (LE (x - 1))) (km) (by omega) (ki_1 k1) (ki_2 k1 k2 (by omega)) (ki_3 k3 (by have := (k1 (x - 1) (by omega) (by omega)).1; omega)) (by omega)
    obtain ⟨nn0, hnn0⟩ : ∃ nn0 : Nat, lf < (nn0 : Int) := z_nat _
    exact L38 nn0 lf lf fr2 fe2 (Or.inl ⟨by omega, rfl⟩) (by omega) (fun i _ _ => ⟨rfl, rfl⟩) (fun i h1 h2 => by omega) (fun i h1 h2 => by omega) hnn0
  · refine g_lload_n C 1 std_F_keepIfAmongFirst_9 rfl ?_
    refine g_aload_n C 0 std_F_keepIfAmongFirst_10 rfl ?_
    refine g_get C (st_sub sti_F) 0 rfl rfl 6 (by decide) (List.mem_cons_of_mem _ kw_1_136) rfl rfl std_F_keepIfAmongFirst_11 ?_
    refine g_bipush C std_F_keepIfAmongFirst_14 (by decide) ?_
    refine g_lald C 1 1 rfl rfl (by omega) (by omega) (by omega) std_F_keepIfAmongFirst_16 ?_
    have hq19 := kR 19 (by omega) (by omega)
    refine g_lcmp_le (tgt := 22) C std_F_keepIfAmongFirst_17 std_F_keepIfAmongFirst_18 (by decide) ⟨by omega, by omega⟩ ⟨by omega, by omega⟩ (fun c4 => ?_) (fun c4 => ?_)
    · refine g_aload_n C 0 std_F_keepIfAmongFirst_22 rfl ?_
      refine g_dup C std_F_keepIfAmongFirst_23 rfl ?_
      refine g_get C (st_sub sti_F) 0 rfl rfl 5 (by decide) (List.mem_cons_of_mem _ kw_1_135) rfl rfl std_F_keepIfAmongFirst_24 ?_
      refine g_iconst C std_F_keepIfAmongFirst_27 ?_
      refine g_isub C std_F_keepIfAmongFirst_28 ?_
      refine g_put C (ws' := [(f0, .inr (3, [.ref t0, .ref y0, .int (iI fo), .ref r1, .ref e1, .int (iI (lf - 1)), .ref r2, .ref e2])), (r2, .inl (cJ, aL 20 fr2)), (e2, .inl (cI, aI 20 fe2))]) (st_sub sti_F) stt_F sto_F stn_F 0 rfl rfl 5 (by decide) (List.mem_cons_of_mem _ kw_1_135) rfl rfl rfl rfl (Nat.le_of_ble_eq_true rfl) std_F_keepIfAmongFirst_29 rfl ?_
      refine g_aload_n C 0 std_F_keepIfAmongFirst_32 rfl ?_
      refine g_get C (st_sub sti_F) 0 rfl rfl 5 (by decide) (List.mem_cons_of_mem _ kw_1_135) rfl rfl std_F_keepIfAmongFirst_33 ?_
      refine g_istore C (lv' := [(4, .int (iI (lf - 1))), (0, .ref f0), (1, .long (lI w)), (3, .int (iI b))]) std_F_keepIfAmongFirst_36 (by decide) rfl ?_
      have L38 : ∀ (nn38 : Nat) (m0 : Int) (x : Int) (LR : Int → Int) (LE : Int → Int), ((lf < 20 ∧ m0 = lf) ∨ (lf = 20 ∧ m0 = 19 ∧ w < fr2 19)) → (0 ≤ x ∧ x ≤ m0) → (∀ i, 0 ≤ i → i ≤ x → LR i = fr2 i ∧ LE i = fe2 i) → (∀ i, x < i → i ≤ m0 → LR i = fr2 (i - 1) ∧ LE i = fe2 (i - 1)) → (∀ i, x ≤ i → i < m0 → w < fr2 i) → x < (nn38 : Int) → G p l e ({ frames := 0, cells := 0, slots := 0, locals := 0 } : Room) s m ([.ref f0, .long (lI w), .int (iI b)] : List Value).toArray below meth c (dC, dI) stCl 5 A 0 0 Q [(f0, .inr (3, [.ref t0, .ref y0, .int (iI fo), .ref r1, .ref e1, .int (iI m0), .ref r2, .ref e2])), (r2, .inl (cJ, aL 20 LR)), (e2, .inl (cI, aI 20 LE))] 38 [(4, .int (iI x)), (0, .ref f0), (1, .long (lI w)), (3, .int (iI b))] [] := by
        intro nn38
        induction nn38 with
        | zero =>
          intro m0 x LR LE km kx k1 k2 k3 hnn38
          exact absurd hnn38 (by omega)
        | succ nn38 ih38 =>
          intro m0 x LR LE km kx k1 k2 k3 hnn38
          refine g_iload C 0 std_F_keepIfAmongFirst_38 rfl ?_
          refine g_if_le (tgt := 95) C std_F_keepIfAmongFirst_40 (by decide) ⟨by omega, by omega⟩ (fun c5 => ?_) (fun c5 => ?_)
          · have hlo : ∀ i, 0 ≤ i → i < x → fr2 i < w := fun i h1 h2 => by omega
            refine g_aload_n C 1 std_F_keepIfAmongFirst_95 rfl ?_
            refine g_get C (st_sub sti_F) 0 rfl rfl 6 (by decide) (List.mem_cons_of_mem _ kw_1_136) rfl rfl std_F_keepIfAmongFirst_96 ?_
            refine g_iload C 0 std_F_keepIfAmongFirst_99 rfl ?_
            refine g_lload_n C 2 std_F_keepIfAmongFirst_101 rfl ?_
            refine g_last C (ws' := [(f0, .inr (3, [.ref t0, .ref y0, .int (iI fo), .ref r1, .ref e1, .int (iI m0), .ref r2, .ref e2])), (r2, .inl (cJ, aL 20 (uZ LR x w))), (e2, .inl (cI, aI 20 LE))]) 1 1 rfl rfl (by omega) (by omega) (by omega) std_F_keepIfAmongFirst_102 rfl ?_
            refine g_aload_n C 1 std_F_keepIfAmongFirst_103 rfl ?_
            refine g_get C (st_sub sti_F) 0 rfl rfl 7 (by decide) (List.mem_cons_of_mem _ kw_1_137) rfl rfl std_F_keepIfAmongFirst_104 ?_
            refine g_iload C 0 std_F_keepIfAmongFirst_107 rfl ?_
            refine g_iload_n C 3 std_F_keepIfAmongFirst_109 rfl ?_
            refine g_iast C (ws' := [(f0, .inr (3, [.ref t0, .ref y0, .int (iI fo), .ref r1, .ref e1, .int (iI m0), .ref r2, .ref e2])), (r2, .inl (cJ, aL 20 (uZ LR x w))), (e2, .inl (cI, aI 20 (uZ LE x b)))]) 2 0 rfl rfl (by omega) (by omega) (by omega) std_F_keepIfAmongFirst_110 rfl ?_
            refine g_aload_n C 1 std_F_keepIfAmongFirst_111 rfl ?_
            refine g_dup C std_F_keepIfAmongFirst_112 rfl ?_
            refine g_get C (st_sub sti_F) 0 rfl rfl 5 (by decide) (List.mem_cons_of_mem _ kw_1_135) rfl rfl std_F_keepIfAmongFirst_113 ?_
            refine g_iconst C std_F_keepIfAmongFirst_116 ?_
            refine g_iadd C std_F_keepIfAmongFirst_117 ?_
            refine g_put C (ws' := [(f0, .inr (3, [.ref t0, .ref y0, .int (iI fo), .ref r1, .ref e1, .int (iI (m0 + 1)), .ref r2, .ref e2])), (r2, .inl (cJ, aL 20 (uZ LR x w))), (e2, .inl (cI, aI 20 (uZ LE x b)))]) (st_sub sti_F) stt_F sto_F stn_F 0 rfl rfl 5 (by decide) (List.mem_cons_of_mem _ kw_1_135) rfl rfl rfl rfl (Nat.le_of_ble_eq_true rfl) std_F_keepIfAmongFirst_118 rfl ?_
            exact hret _ _ ((uZ LR x w), (uZ LE x b), (m0 + 1)) (ki_fin kF km kx k1 k2 hlo k3) std_F_keepIfAmongFirst_121
          · refine g_aload_n C 1 std_F_keepIfAmongFirst_43 rfl ?_
            refine g_get C (st_sub sti_F) 0 rfl rfl 6 (by decide) (List.mem_cons_of_mem _ kw_1_136) rfl rfl std_F_keepIfAmongFirst_44 ?_
            refine g_iload C 0 std_F_keepIfAmongFirst_47 rfl ?_
            refine g_iconst C std_F_keepIfAmongFirst_49 ?_
            refine g_isub C std_F_keepIfAmongFirst_50 ?_
            refine g_lald C 1 1 rfl rfl (by omega) (by omega) (by omega) std_F_keepIfAmongFirst_51 ?_
            refine g_lload_n C 2 std_F_keepIfAmongFirst_52 rfl ?_
            have hqx := kR (x - 1) (by omega) (by omega)
            have hkx := (k1 (x - 1) (by omega) (by omega)).1
            refine g_lcmp_le (tgt := 95) C std_F_keepIfAmongFirst_53 std_F_keepIfAmongFirst_54 (by decide) ⟨by omega, by omega⟩ ⟨by omega, by omega⟩ (fun c6 => ?_) (fun c6 => ?_)
            · have hlo : ∀ i, 0 ≤ i → i < x → fr2 i < w := ki_lo kF kne (by omega) (by omega) (by omega)
              refine g_aload_n C 1 std_F_keepIfAmongFirst_95 rfl ?_
              refine g_get C (st_sub sti_F) 0 rfl rfl 6 (by decide) (List.mem_cons_of_mem _ kw_1_136) rfl rfl std_F_keepIfAmongFirst_96 ?_
              refine g_iload C 0 std_F_keepIfAmongFirst_99 rfl ?_
              refine g_lload_n C 2 std_F_keepIfAmongFirst_101 rfl ?_
              refine g_last C (ws' := [(f0, .inr (3, [.ref t0, .ref y0, .int (iI fo), .ref r1, .ref e1, .int (iI m0), .ref r2, .ref e2])), (r2, .inl (cJ, aL 20 (uZ LR x w))), (e2, .inl (cI, aI 20 LE))]) 1 1 rfl rfl (by omega) (by omega) (by omega) std_F_keepIfAmongFirst_102 rfl ?_
              refine g_aload_n C 1 std_F_keepIfAmongFirst_103 rfl ?_
              refine g_get C (st_sub sti_F) 0 rfl rfl 7 (by decide) (List.mem_cons_of_mem _ kw_1_137) rfl rfl std_F_keepIfAmongFirst_104 ?_
              refine g_iload C 0 std_F_keepIfAmongFirst_107 rfl ?_
              refine g_iload_n C 3 std_F_keepIfAmongFirst_109 rfl ?_
              refine g_iast C (ws' := [(f0, .inr (3, [.ref t0, .ref y0, .int (iI fo), .ref r1, .ref e1, .int (iI m0), .ref r2, .ref e2])), (r2, .inl (cJ, aL 20 (uZ LR x w))), (e2, .inl (cI, aI 20 (uZ LE x b)))]) 2 0 rfl rfl (by omega) (by omega) (by omega) std_F_keepIfAmongFirst_110 rfl ?_
              refine g_aload_n C 1 std_F_keepIfAmongFirst_111 rfl ?_
              refine g_dup C std_F_keepIfAmongFirst_112 rfl ?_
              refine g_get C (st_sub sti_F) 0 rfl rfl 5 (by decide) (List.mem_cons_of_mem _ kw_1_135) rfl rfl std_F_keepIfAmongFirst_113 ?_
              refine g_iconst C std_F_keepIfAmongFirst_116 ?_
              refine g_iadd C std_F_keepIfAmongFirst_117 ?_
              refine g_put C (ws' := [(f0, .inr (3, [.ref t0, .ref y0, .int (iI fo), .ref r1, .ref e1, .int (iI (m0 + 1)), .ref r2, .ref e2])), (r2, .inl (cJ, aL 20 (uZ LR x w))), (e2, .inl (cI, aI 20 (uZ LE x b)))]) (st_sub sti_F) stt_F sto_F stn_F 0 rfl rfl 5 (by decide) (List.mem_cons_of_mem _ kw_1_135) rfl rfl rfl rfl (Nat.le_of_ble_eq_true rfl) std_F_keepIfAmongFirst_118 rfl ?_
              exact hret _ _ ((uZ LR x w), (uZ LE x b), (m0 + 1)) (ki_fin kF km kx k1 k2 hlo k3) std_F_keepIfAmongFirst_121
            · refine g_aload_n C 1 std_F_keepIfAmongFirst_57 rfl ?_
              refine g_get C (st_sub sti_F) 0 rfl rfl 6 (by decide) (List.mem_cons_of_mem _ kw_1_136) rfl rfl std_F_keepIfAmongFirst_58 ?_
              refine g_iload C 0 std_F_keepIfAmongFirst_61 rfl ?_
              refine g_aload_n C 1 std_F_keepIfAmongFirst_63 rfl ?_
              refine g_get C (st_sub sti_F) 0 rfl rfl 6 (by decide) (List.mem_cons_of_mem _ kw_1_136) rfl rfl std_F_keepIfAmongFirst_64 ?_
              refine g_iload C 0 std_F_keepIfAmongFirst_67 rfl ?_
              refine g_iconst C std_F_keepIfAmongFirst_69 ?_
              refine g_isub C std_F_keepIfAmongFirst_70 ?_
              refine g_lald C 1 1 rfl rfl (by omega) (by omega) (by omega) std_F_keepIfAmongFirst_71 ?_
              refine g_last C (ws' := [(f0, .inr (3, [.ref t0, .ref y0, .int (iI fo), .ref r1, .ref e1, .int (iI m0), .ref r2, .ref e2])), (r2, .inl (cJ, aL 20 (uZ LR x (LR (x - 1))))), (e2, .inl (cI, aI 20 LE))]) 1 1 rfl rfl (by omega) (by omega) (by omega) std_F_keepIfAmongFirst_72 rfl ?_
              refine g_aload_n C 1 std_F_keepIfAmongFirst_73 rfl ?_
              refine g_get C (st_sub sti_F) 0 rfl rfl 7 (by decide) (List.mem_cons_of_mem _ kw_1_137) rfl rfl std_F_keepIfAmongFirst_74 ?_
              refine g_iload C 0 std_F_keepIfAmongFirst_77 rfl ?_
              refine g_aload_n C 1 std_F_keepIfAmongFirst_79 rfl ?_
              refine g_get C (st_sub sti_F) 0 rfl rfl 7 (by decide) (List.mem_cons_of_mem _ kw_1_137) rfl rfl std_F_keepIfAmongFirst_80 ?_
              refine g_iload C 0 std_F_keepIfAmongFirst_83 rfl ?_
              refine g_iconst C std_F_keepIfAmongFirst_85 ?_
              refine g_isub C std_F_keepIfAmongFirst_86 ?_
              refine g_iald C 2 0 rfl rfl (by omega) (by omega) (by omega) std_F_keepIfAmongFirst_87 ?_
              refine g_iast C (ws' := [(f0, .inr (3, [.ref t0, .ref y0, .int (iI fo), .ref r1, .ref e1, .int (iI m0), .ref r2, .ref e2])), (r2, .inl (cJ, aL 20 (uZ LR x (LR (x - 1))))), (e2, .inl (cI, aI 20 (uZ LE x (LE (x - 1)))))]) 2 0 rfl rfl (by omega) (by omega) (by omega) std_F_keepIfAmongFirst_88 rfl ?_
              refine g_iinc C (lv' := [(4, .int (iI (x + (-1)))), (0, .ref f0), (1, .long (lI w)), (3, .int (iI b))]) 0 std_F_keepIfAmongFirst_89 rfl (by decide) rfl ?_
              refine g_goto (tgt := 38) C std_F_keepIfAmongFirst_92 (by decide) ?_
              exact ih38 m0 (x + (-1)) (uZ LR x (LR (x - 1))) (uZ LE x (LE (x - 1))) (km) (by omega) (ki_1 k1) (ki_2 k1 k2 (by omega)) (ki_3 k3 (by have := (k1 (x - 1) (by omega) (by omega)).1; omega)) (by omega)
      obtain ⟨nn0, hnn0⟩ : ∃ nn0 : Nat, (lf - 1) < (nn0 : Int) := z_nat _
      exact L38 nn0 (lf - 1) (lf - 1) fr2 fe2 (Or.inr ⟨by omega, by omega, by have := kne 19 (by omega) (by omega); omega⟩) (by omega) (fun i _ _ => ⟨rfl, rfl⟩) (fun i h1 h2 => by omega) (fun i h1 h2 => by omega) hnn0
    · exact hret _ _ (fr2, fe2, lf) (fs_out2 kF (by omega) (by omega)) std_F_keepIfAmongFirst_21

