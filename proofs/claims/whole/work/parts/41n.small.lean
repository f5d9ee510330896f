/-! NarrowLayers: parts of a node; merge, sort -/
abbrev sty_N_costOf : MethodName := ⟨"StateTables$NarrowLayers", "costOf", "(J)I"⟩
abbrev stc_N_costOf : ByteArray := prog_4_method_3_code
theorem sth_N_costOf : (sty_N_costOf).cls ≠ "java/lang/invoke/MethodHandle" ∧ (sty_N_costOf).cls ≠ "java/lang/invoke/VarHandle" ∧ (parseMethodDescriptor (sty_N_costOf).desc).map (fun d => d.parameters.length) = some 1 := by decide +kernel
theorem std_N_costOf_0 : decode stc_N_costOf 0 = .ok (.lload_n 0, 1) := by decide +kernel
theorem std_N_costOf_1 : decode stc_N_costOf 1 = .ok (.bipush 30, 2) := by decide +kernel
theorem std_N_costOf_3 : decode stc_N_costOf 3 = .ok (.lshr, 1) := by decide +kernel
theorem std_N_costOf_4 : decode stc_N_costOf 4 = .ok (.l2i, 1) := by decide +kernel
theorem std_N_costOf_5 : decode stc_N_costOf 5 = .ok (.sipush 12000, 3) := by decide +kernel
theorem std_N_costOf_8 : decode stc_N_costOf 8 = .ok (.isub, 1) := by decide +kernel
theorem std_N_costOf_9 : decode stc_N_costOf 9 = .ok (.ireturn, 1) := by decide +kernel
set_option maxHeartbeats 4000000 in
set_option maxRecDepth 100000 in
theorem c_wcost (l : Launch) (dC : Nat → ClassId) (dI : Nat → Nat → Nat) (cI cJ cZ : ClassId) (a : Int) (ka : 0 ≤ a ∧ a < 35184372088832) : ∀ sz, Met l sty_N_costOf (Cond.code sty_N_costOf stc_N_costOf 2 (some .int) :: stGW) ({ frames := 0, cells := 0, slots := 0, locals := 0 } : Room) (va_Pc [.long (lI a)] (zPre (dC, dI) stCl [(cI, .int), (cJ, .long), (cZ, .boolean)] st_nw [] sz)) (va_Qi (fun (r : Int32) (_ : Unit) => r = iI ((a / 1073741824) - 12000)) (zPost (dC, dI) stCl [(cI, .int), (cJ, .long), (cZ, .boolean)] [] sz (fun _ : Unit => [])) (va_A [] sz)) 0 0 (va_A [] sz) := by
  refine met_i (by decide) rfl (Nat.le_of_ble_eq_true rfl) ?_
  intro p e s m below meth c A Q C hmn hret
  refine g_lload_n C 0 std_N_costOf_0 rfl ?_
  refine g_bipush C std_N_costOf_1 (by decide) ?_
  refine g_lshr C (z := (a / 1073741824)) std_N_costOf_3 (lI_shr (by omega) (by decide) (by decide) (by decide)) ?_
  refine g_l2i C std_N_costOf_4 ?_
  refine g_sipush C std_N_costOf_5 (by decide) ?_
  refine g_isub C std_N_costOf_8 ?_
  exact hret _ _ _ () (rfl) std_N_costOf_9

abbrev sty_N_lowOfFirst : MethodName := ⟨"StateTables$NarrowLayers", "lowOfFirst", "(J)I"⟩
abbrev stc_N_lowOfFirst : ByteArray := prog_4_method_4_code
theorem sth_N_lowOfFirst : (sty_N_lowOfFirst).cls ≠ "java/lang/invoke/MethodHandle" ∧ (sty_N_lowOfFirst).cls ≠ "java/lang/invoke/VarHandle" ∧ (parseMethodDescriptor (sty_N_lowOfFirst).desc).map (fun d => d.parameters.length) = some 1 := by decide +kernel
theorem std_N_lowOfFirst_0 : decode stc_N_lowOfFirst 0 = .ok (.lload_n 0, 1) := by decide +kernel
theorem std_N_lowOfFirst_1 : decode stc_N_lowOfFirst 1 = .ok (.bipush 24, 2) := by decide +kernel
theorem std_N_lowOfFirst_3 : decode stc_N_lowOfFirst 3 = .ok (.lshr, 1) := by decide +kernel
theorem std_N_lowOfFirst_4 : decode stc_N_lowOfFirst 4 = .ok (.l2i, 1) := by decide +kernel
theorem std_N_lowOfFirst_5 : decode stc_N_lowOfFirst 5 = .ok (.bipush 63, 2) := by decide +kernel
theorem std_N_lowOfFirst_7 : decode stc_N_lowOfFirst 7 = .ok (.iand, 1) := by decide +kernel
theorem std_N_lowOfFirst_8 : decode stc_N_lowOfFirst 8 = .ok (.ireturn, 1) := by decide +kernel
set_option maxHeartbeats 4000000 in
set_option maxRecDepth 100000 in
theorem c_lowOfFirst (l : Launch) (dC : Nat → ClassId) (dI : Nat → Nat → Nat) (cI cJ cZ : ClassId) (a : Int) (ka : 0 ≤ a ∧ a < 35184372088832) : ∀ sz, Met l sty_N_lowOfFirst (Cond.code sty_N_lowOfFirst stc_N_lowOfFirst 2 (some .int) :: stGW) ({ frames := 0, cells := 0, slots := 0, locals := 0 } : Room) (va_Pc [.long (lI a)] (zPre (dC, dI) stCl [(cI, .int), (cJ, .long), (cZ, .boolean)] st_nw [] sz)) (va_Qi (fun (r : Int32) (_ : Unit) => r = iI ((a / 16777216) % 64)) (zPost (dC, dI) stCl [(cI, .int), (cJ, .long), (cZ, .boolean)] [] sz (fun _ : Unit => [])) (va_A [] sz)) 0 0 (va_A [] sz) := by
  refine met_i (by decide) rfl (Nat.le_of_ble_eq_true rfl) ?_
  intro p e s m below meth c A Q C hmn hret
  refine g_lload_n C 0 std_N_lowOfFirst_0 rfl ?_
  refine g_bipush C std_N_lowOfFirst_1 (by decide) ?_
  refine g_lshr C (z := (a / 16777216)) std_N_lowOfFirst_3 (lI_shr (by omega) (by decide) (by decide) (by decide)) ?_
  refine g_l2i C std_N_lowOfFirst_4 ?_
  refine g_bipush C std_N_lowOfFirst_5 (by decide) ?_
  refine g_iand C std_N_lowOfFirst_7 (iI_andK (d := 64) 6 (by decide) (by decide) (by decide)) ?_
  exact hret _ _ _ () (rfl) std_N_lowOfFirst_8

abbrev sty_N_lowOfSecond : MethodName := ⟨"StateTables$NarrowLayers", "lowOfSecond", "(J)I"⟩
abbrev stc_N_lowOfSecond : ByteArray := prog_4_method_5_code
theorem sth_N_lowOfSecond : (sty_N_lowOfSecond).cls ≠ "java/lang/invoke/MethodHandle" ∧ (sty_N_lowOfSecond).cls ≠ "java/lang/invoke/VarHandle" ∧ (parseMethodDescriptor (sty_N_lowOfSecond).desc).map (fun d => d.parameters.length) = some 1 := by decide +kernel
theorem std_N_lowOfSecond_0 : decode stc_N_lowOfSecond 0 = .ok (.lload_n 0, 1) := by decide +kernel
theorem std_N_lowOfSecond_1 : decode stc_N_lowOfSecond 1 = .ok (.bipush 18, 2) := by decide +kernel
theorem std_N_lowOfSecond_3 : decode stc_N_lowOfSecond 3 = .ok (.lshr, 1) := by decide +kernel
theorem std_N_lowOfSecond_4 : decode stc_N_lowOfSecond 4 = .ok (.l2i, 1) := by decide +kernel
theorem std_N_lowOfSecond_5 : decode stc_N_lowOfSecond 5 = .ok (.bipush 63, 2) := by decide +kernel
theorem std_N_lowOfSecond_7 : decode stc_N_lowOfSecond 7 = .ok (.iand, 1) := by decide +kernel
theorem std_N_lowOfSecond_8 : decode stc_N_lowOfSecond 8 = .ok (.ireturn, 1) := by decide +kernel
set_option maxHeartbeats 4000000 in
set_option maxRecDepth 100000 in
theorem c_lowOfSecond (l : Launch) (dC : Nat → ClassId) (dI : Nat → Nat → Nat) (cI cJ cZ : ClassId) (a : Int) (ka : 0 ≤ a ∧ a < 35184372088832) : ∀ sz, Met l sty_N_lowOfSecond (Cond.code sty_N_lowOfSecond stc_N_lowOfSecond 2 (some .int) :: stGW) ({ frames := 0, cells := 0, slots := 0, locals := 0 } : Room) (va_Pc [.long (lI a)] (zPre (dC, dI) stCl [(cI, .int), (cJ, .long), (cZ, .boolean)] st_nw [] sz)) (va_Qi (fun (r : Int32) (_ : Unit) => r = iI ((a / 262144) % 64)) (zPost (dC, dI) stCl [(cI, .int), (cJ, .long), (cZ, .boolean)] [] sz (fun _ : Unit => [])) (va_A [] sz)) 0 0 (va_A [] sz) := by
  refine met_i (by decide) rfl (Nat.le_of_ble_eq_true rfl) ?_
  intro p e s m below meth c A Q C hmn hret
  refine g_lload_n C 0 std_N_lowOfSecond_0 rfl ?_
  refine g_bipush C std_N_lowOfSecond_1 (by decide) ?_
  refine g_lshr C (z := (a / 262144)) std_N_lowOfSecond_3 (lI_shr (by omega) (by decide) (by decide) (by decide)) ?_
  refine g_l2i C std_N_lowOfSecond_4 ?_
  refine g_bipush C std_N_lowOfSecond_5 (by decide) ?_
  refine g_iand C std_N_lowOfSecond_7 (iI_andK (d := 64) 6 (by decide) (by decide) (by decide)) ?_
  exact hret _ _ _ () (rfl) std_N_lowOfSecond_8

abbrev sty_N_highOfFirst : MethodName := ⟨"StateTables$NarrowLayers", "highOfFirst", "(J)I"⟩
abbrev stc_N_highOfFirst : ByteArray := prog_4_method_6_code
theorem sth_N_highOfFirst : (sty_N_highOfFirst).cls ≠ "java/lang/invoke/MethodHandle" ∧ (sty_N_highOfFirst).cls ≠ "java/lang/invoke/VarHandle" ∧ (parseMethodDescriptor (sty_N_highOfFirst).desc).map (fun d => d.parameters.length) = some 1 := by decide +kernel
theorem std_N_highOfFirst_0 : decode stc_N_highOfFirst 0 = .ok (.lload_n 0, 1) := by decide +kernel
theorem std_N_highOfFirst_1 : decode stc_N_highOfFirst 1 = .ok (.bipush 12, 2) := by decide +kernel
theorem std_N_highOfFirst_3 : decode stc_N_highOfFirst 3 = .ok (.lshr, 1) := by decide +kernel
theorem std_N_highOfFirst_4 : decode stc_N_highOfFirst 4 = .ok (.l2i, 1) := by decide +kernel
theorem std_N_highOfFirst_5 : decode stc_N_highOfFirst 5 = .ok (.bipush 63, 2) := by decide +kernel
theorem std_N_highOfFirst_7 : decode stc_N_highOfFirst 7 = .ok (.iand, 1) := by decide +kernel
theorem std_N_highOfFirst_8 : decode stc_N_highOfFirst 8 = .ok (.ireturn, 1) := by decide +kernel
set_option maxHeartbeats 4000000 in
set_option maxRecDepth 100000 in
theorem c_highOfFirst (l : Launch) (dC : Nat → ClassId) (dI : Nat → Nat → Nat) (cI cJ cZ : ClassId) (a : Int) (ka : 0 ≤ a ∧ a < 35184372088832) : ∀ sz, Met l sty_N_highOfFirst (Cond.code sty_N_highOfFirst stc_N_highOfFirst 2 (some .int) :: stGW) ({ frames := 0, cells := 0, slots := 0, locals := 0 } : Room) (va_Pc [.long (lI a)] (zPre (dC, dI) stCl [(cI, .int), (cJ, .long), (cZ, .boolean)] st_nw [] sz)) (va_Qi (fun (r : Int32) (_ : Unit) => r = iI ((a / 4096) % 64)) (zPost (dC, dI) stCl [(cI, .int), (cJ, .long), (cZ, .boolean)] [] sz (fun _ : Unit => [])) (va_A [] sz)) 0 0 (va_A [] sz) := by
  refine met_i (by decide) rfl (Nat.le_of_ble_eq_true rfl) ?_
  intro p e s m below meth c A Q C hmn hret
  refine g_lload_n C 0 std_N_highOfFirst_0 rfl ?_
  refine g_bipush C std_N_highOfFirst_1 (by decide) ?_
  refine g_lshr C (z := (a / 4096)) std_N_highOfFirst_3 (lI_shr (by omega) (by decide) (by decide) (by decide)) ?_
  refine g_l2i C std_N_highOfFirst_4 ?_
  refine g_bipush C std_N_highOfFirst_5 (by decide) ?_
  refine g_iand C std_N_highOfFirst_7 (iI_andK (d := 64) 6 (by decide) (by decide) (by decide)) ?_
  exact hret _ _ _ () (rfl) std_N_highOfFirst_8

abbrev sty_N_highOfSecond : MethodName := ⟨"StateTables$NarrowLayers", "highOfSecond", "(J)I"⟩
abbrev stc_N_highOfSecond : ByteArray := prog_4_method_7_code
theorem sth_N_highOfSecond : (sty_N_highOfSecond).cls ≠ "java/lang/invoke/MethodHandle" ∧ (sty_N_highOfSecond).cls ≠ "java/lang/invoke/VarHandle" ∧ (parseMethodDescriptor (sty_N_highOfSecond).desc).map (fun d => d.parameters.length) = some 1 := by decide +kernel
theorem std_N_highOfSecond_0 : decode stc_N_highOfSecond 0 = .ok (.lload_n 0, 1) := by decide +kernel
theorem std_N_highOfSecond_1 : decode stc_N_highOfSecond 1 = .ok (.bipush 6, 2) := by decide +kernel
theorem std_N_highOfSecond_3 : decode stc_N_highOfSecond 3 = .ok (.lshr, 1) := by decide +kernel
theorem std_N_highOfSecond_4 : decode stc_N_highOfSecond 4 = .ok (.l2i, 1) := by decide +kernel
theorem std_N_highOfSecond_5 : decode stc_N_highOfSecond 5 = .ok (.bipush 63, 2) := by decide +kernel
theorem std_N_highOfSecond_7 : decode stc_N_highOfSecond 7 = .ok (.iand, 1) := by decide +kernel
theorem std_N_highOfSecond_8 : decode stc_N_highOfSecond 8 = .ok (.ireturn, 1) := by decide +kernel
set_option maxHeartbeats 4000000 in
set_option maxRecDepth 100000 in
theorem c_highOfSecond (l : Launch) (dC : Nat → ClassId) (dI : Nat → Nat → Nat) (cI cJ cZ : ClassId) (a : Int) (ka : 0 ≤ a ∧ a < 35184372088832) : ∀ sz, Met l sty_N_highOfSecond (Cond.code sty_N_highOfSecond stc_N_highOfSecond 2 (some .int) :: stGW) ({ frames := 0, cells := 0, slots := 0, locals := 0 } : Room) (va_Pc [.long (lI a)] (zPre (dC, dI) stCl [(cI, .int), (cJ, .long), (cZ, .boolean)] st_nw [] sz)) (va_Qi (fun (r : Int32) (_ : Unit) => r = iI ((a / 64) % 64)) (zPost (dC, dI) stCl [(cI, .int), (cJ, .long), (cZ, .boolean)] [] sz (fun _ : Unit => [])) (va_A [] sz)) 0 0 (va_A [] sz) := by
  refine met_i (by decide) rfl (Nat.le_of_ble_eq_true rfl) ?_
  intro p e s m below meth c A Q C hmn hret
  refine g_lload_n C 0 std_N_highOfSecond_0 rfl ?_
  refine g_bipush C std_N_highOfSecond_1 (by decide) ?_
  refine g_lshr C (z := (a / 64)) std_N_highOfSecond_3 (lI_shr (by omega) (by decide) (by decide) (by decide)) ?_
  refine g_l2i C std_N_highOfSecond_4 ?_
  refine g_bipush C std_N_highOfSecond_5 (by decide) ?_
  refine g_iand C std_N_highOfSecond_7 (iI_andK (d := 64) 6 (by decide) (by decide) (by decide)) ?_
  exact hret _ _ _ () (rfl) std_N_highOfSecond_8

abbrev sty_N_lastsOf : MethodName := ⟨"StateTables$NarrowLayers", "lastsOf", "(J)I"⟩
abbrev stc_N_lastsOf : ByteArray := prog_4_method_8_code
theorem sth_N_lastsOf : (sty_N_lastsOf).cls ≠ "java/lang/invoke/MethodHandle" ∧ (sty_N_lastsOf).cls ≠ "java/lang/invoke/VarHandle" ∧ (parseMethodDescriptor (sty_N_lastsOf).desc).map (fun d => d.parameters.length) = some 1 := by decide +kernel
theorem std_N_lastsOf_0 : decode stc_N_lastsOf 0 = .ok (.lload_n 0, 1) := by decide +kernel
theorem std_N_lastsOf_1 : decode stc_N_lastsOf 1 = .ok (.l2i, 1) := by decide +kernel
theorem std_N_lastsOf_2 : decode stc_N_lastsOf 2 = .ok (.bipush 63, 2) := by decide +kernel
theorem std_N_lastsOf_4 : decode stc_N_lastsOf 4 = .ok (.iand, 1) := by decide +kernel
theorem std_N_lastsOf_5 : decode stc_N_lastsOf 5 = .ok (.ireturn, 1) := by decide +kernel
set_option maxHeartbeats 4000000 in
set_option maxRecDepth 100000 in
theorem c_lastsOf (l : Launch) (dC : Nat → ClassId) (dI : Nat → Nat → Nat) (cI cJ cZ : ClassId) (a : Int) (ka : 0 ≤ a ∧ a < 35184372088832) : ∀ sz, Met l sty_N_lastsOf (Cond.code sty_N_lastsOf stc_N_lastsOf 2 (some .int) :: stGW) ({ frames := 0, cells := 0, slots := 0, locals := 0 } : Room) (va_Pc [.long (lI a)] (zPre (dC, dI) stCl [(cI, .int), (cJ, .long), (cZ, .boolean)] st_nw [] sz)) (va_Qi (fun (r : Int32) (_ : Unit) => r = iI (a % 64)) (zPost (dC, dI) stCl [(cI, .int), (cJ, .long), (cZ, .boolean)] [] sz (fun _ : Unit => [])) (va_A [] sz)) 0 0 (va_A [] sz) := by
  refine met_i (by decide) rfl (Nat.le_of_ble_eq_true rfl) ?_
  intro p e s m below meth c A Q C hmn hret
  refine g_lload_n C 0 std_N_lastsOf_0 rfl ?_
  refine g_l2i C std_N_lastsOf_1 ?_
  refine g_bipush C std_N_lastsOf_2 (by decide) ?_
  refine g_iand C std_N_lastsOf_4 (iI_andK (d := 64) 6 (by decide) (by decide) (by decide)) ?_
  exact hret _ _ _ () (rfl) std_N_lastsOf_5

abbrev sty_N_wideNode : MethodName := ⟨"StateTables$NarrowLayers", "wideNode", "(IIIIII)J"⟩
abbrev stc_N_wideNode : ByteArray := prog_4_method_2_code
theorem sth_N_wideNode : (sty_N_wideNode).cls ≠ "java/lang/invoke/MethodHandle" ∧ (sty_N_wideNode).cls ≠ "java/lang/invoke/VarHandle" ∧ (parseMethodDescriptor (sty_N_wideNode).desc).map (fun d => d.parameters.length) = some 6 := by decide +kernel
theorem std_N_wideNode_0 : decode stc_N_wideNode 0 = .ok (.iload_n 1, 1) := by decide +kernel
theorem std_N_wideNode_1 : decode stc_N_wideNode 1 = .ok (.i2l, 1) := by decide +kernel
theorem std_N_wideNode_2 : decode stc_N_wideNode 2 = .ok (.bipush 6, 2) := by decide +kernel
theorem std_N_wideNode_4 : decode stc_N_wideNode 4 = .ok (.lshl, 1) := by decide +kernel
theorem std_N_wideNode_5 : decode stc_N_wideNode 5 = .ok (.iload_n 2, 1) := by decide +kernel
theorem std_N_wideNode_6 : decode stc_N_wideNode 6 = .ok (.i2l, 1) := by decide +kernel
theorem std_N_wideNode_7 : decode stc_N_wideNode 7 = .ok (.lor, 1) := by decide +kernel
theorem std_N_wideNode_8 : decode stc_N_wideNode 8 = .ok (.bipush 6, 2) := by decide +kernel
theorem std_N_wideNode_10 : decode stc_N_wideNode 10 = .ok (.lshl, 1) := by decide +kernel
theorem std_N_wideNode_11 : decode stc_N_wideNode 11 = .ok (.iload_n 3, 1) := by decide +kernel
theorem std_N_wideNode_12 : decode stc_N_wideNode 12 = .ok (.i2l, 1) := by decide +kernel
theorem std_N_wideNode_13 : decode stc_N_wideNode 13 = .ok (.lor, 1) := by decide +kernel
theorem std_N_wideNode_14 : decode stc_N_wideNode 14 = .ok (.bipush 6, 2) := by decide +kernel
theorem std_N_wideNode_16 : decode stc_N_wideNode 16 = .ok (.lshl, 1) := by decide +kernel
theorem std_N_wideNode_17 : decode stc_N_wideNode 17 = .ok (.iload 4, 2) := by decide +kernel
theorem std_N_wideNode_19 : decode stc_N_wideNode 19 = .ok (.i2l, 1) := by decide +kernel
theorem std_N_wideNode_20 : decode stc_N_wideNode 20 = .ok (.lor, 1) := by decide +kernel
theorem std_N_wideNode_21 : decode stc_N_wideNode 21 = .ok (.bipush 6, 2) := by decide +kernel
theorem std_N_wideNode_23 : decode stc_N_wideNode 23 = .ok (.lshl, 1) := by decide +kernel
theorem std_N_wideNode_24 : decode stc_N_wideNode 24 = .ok (.iload 5, 2) := by decide +kernel
theorem std_N_wideNode_26 : decode stc_N_wideNode 26 = .ok (.i2l, 1) := by decide +kernel
theorem std_N_wideNode_27 : decode stc_N_wideNode 27 = .ok (.lor, 1) := by decide +kernel
theorem std_N_wideNode_28 : decode stc_N_wideNode 28 = .ok (.lstore 6, 2) := by decide +kernel
theorem std_N_wideNode_30 : decode stc_N_wideNode 30 = .ok (.iload_n 0, 1) := by decide +kernel
theorem std_N_wideNode_31 : decode stc_N_wideNode 31 = .ok (.sipush 12000, 3) := by decide +kernel
theorem std_N_wideNode_34 : decode stc_N_wideNode 34 = .ok (.iadd, 1) := by decide +kernel
theorem std_N_wideNode_35 : decode stc_N_wideNode 35 = .ok (.i2l, 1) := by decide +kernel
theorem std_N_wideNode_36 : decode stc_N_wideNode 36 = .ok (.bipush 30, 2) := by decide +kernel
theorem std_N_wideNode_38 : decode stc_N_wideNode 38 = .ok (.lshl, 1) := by decide +kernel
theorem std_N_wideNode_39 : decode stc_N_wideNode 39 = .ok (.lload 6, 2) := by decide +kernel
theorem std_N_wideNode_41 : decode stc_N_wideNode 41 = .ok (.lor, 1) := by decide +kernel
theorem std_N_wideNode_42 : decode stc_N_wideNode 42 = .ok (.lreturn, 1) := by decide +kernel
set_option maxHeartbeats 4000000 in
set_option maxRecDepth 100000 in
theorem c_wideNode (l : Launch) (dC : Nat → ClassId) (dI : Nat → Nat → Nat) (cI cJ cZ : ClassId) (a : Int) (b : Int) (cc : Int) (d : Int) (f : Int) (g : Int) (ka : -12000 ≤ a ∧ a ≤ 12000) (kb : 0 ≤ b ∧ b < 64) (kcc : 0 ≤ cc ∧ cc < 64) (kd : 0 ≤ d ∧ d < 64) (kf : 0 ≤ f ∧ f < 64) (kg : 0 ≤ g ∧ g < 64) : ∀ sz, Met l sty_N_wideNode (Cond.code sty_N_wideNode stc_N_wideNode 8 (some .long) :: stGW) ({ frames := 0, cells := 0, slots := 0, locals := 0 } : Room) (va_Pc [.int (iI a), .int (iI b), .int (iI cc), .int (iI d), .int (iI f), .int (iI g)] (zPre (dC, dI) stCl [(cI, .int), (cJ, .long), (cZ, .boolean)] st_nw [] sz)) (va_Ql (fun (r : Int64) (_ : Unit) => r = lI ((((a + 12000) * 1073741824) + ((((((((b * 64) + cc) * 64) + d) * 64) + f) * 64) + g)))) (zPost (dC, dI) stCl [(cI, .int), (cJ, .long), (cZ, .boolean)] [] sz (fun _ : Unit => [])) (va_A [] sz)) 0 0 (va_A [] sz) := by
  refine met_l (by decide) rfl (Nat.le_of_ble_eq_true rfl) ?_
  intro p e s m below meth c A Q C hmn hret
  refine g_iload_n C 1 std_N_wideNode_0 rfl ?_
  refine g_i2l C std_N_wideNode_1 ⟨by omega, by omega⟩ ?_
  refine g_bipush C std_N_wideNode_2 (by decide) ?_
  refine g_lshl C (z := (b * 64)) std_N_wideNode_4 (lI_shl (by decide) (by decide) (by decide)) ?_
  refine g_iload_n C 2 std_N_wideNode_5 rfl ?_
  refine g_i2l C std_N_wideNode_6 ⟨by omega, by omega⟩ ?_
  refine g_lor C (z := ((b * 64) + cc)) std_N_wideNode_7 (lI_orK (q := b) (d := 64) 6 (by decide) rfl (by omega) (by omega) (by omega) (by omega)) ?_
  refine g_bipush C std_N_wideNode_8 (by decide) ?_
  refine g_lshl C (z := (((b * 64) + cc) * 64)) std_N_wideNode_10 (lI_shl (by decide) (by decide) (by decide)) ?_
  refine g_iload_n C 3 std_N_wideNode_11 rfl ?_
  refine g_i2l C std_N_wideNode_12 ⟨by omega, by omega⟩ ?_
  refine g_lor C (z := ((((b * 64) + cc) * 64) + d)) std_N_wideNode_13 (lI_orK (q := ((b * 64) + cc)) (d := 64) 6 (by decide) rfl (by omega) (by omega) (by omega) (by omega)) ?_
  refine g_bipush C std_N_wideNode_14 (by decide) ?_
  refine g_lshl C (z := (((((b * 64) + cc) * 64) + d) * 64)) std_N_wideNode_16 (lI_shl (by decide) (by decide) (by decide)) ?_
  refine g_iload C 4 std_N_wideNode_17 rfl ?_
  refine g_i2l C std_N_wideNode_19 ⟨by omega, by omega⟩ ?_
  refine g_lor C (z := ((((((b * 64) + cc) * 64) + d) * 64) + f)) std_N_wideNode_20 (lI_orK (q := ((((b * 64) + cc) * 64) + d)) (d := 64) 6 (by decide) rfl (by omega) (by omega) (by omega) (by omega)) ?_
  refine g_bipush C std_N_wideNode_21 (by decide) ?_
  refine g_lshl C (z := (((((((b * 64) + cc) * 64) + d) * 64) + f) * 64)) std_N_wideNode_23 (lI_shl (by decide) (by decide) (by decide)) ?_
  refine g_iload C 5 std_N_wideNode_24 rfl ?_
  refine g_i2l C std_N_wideNode_26 ⟨by omega, by omega⟩ ?_
  refine g_lor C (z := ((((((((b * 64) + cc) * 64) + d) * 64) + f) * 64) + g)) std_N_wideNode_27 (lI_orK (q := ((((((b * 64) + cc) * 64) + d) * 64) + f)) (d := 64) 6 (by decide) rfl (by omega) (by omega) (by omega) (by omega)) ?_
  refine g_lstore C (lv' := [(6, .long (lI ((((((((b * 64) + cc) * 64) + d) * 64) + f) * 64) + g))), (0, .int (iI a)), (1, .int (iI b)), (2, .int (iI cc)), (3, .int (iI d)), (4, .int (iI f)), (5, .int (iI g))]) std_N_wideNode_28 (by decide) rfl ?_
  refine g_iload_n C 1 std_N_wideNode_30 rfl ?_
  refine g_sipush C std_N_wideNode_31 (by decide) ?_
  refine g_iadd C std_N_wideNode_34 ?_
  refine g_i2l C std_N_wideNode_35 ⟨by omega, by omega⟩ ?_
  refine g_bipush C std_N_wideNode_36 (by decide) ?_
  refine g_lshl C (z := ((a + 12000) * 1073741824)) std_N_wideNode_38 (lI_shl (by decide) (by decide) (by decide)) ?_
  refine g_lload C 0 std_N_wideNode_39 rfl ?_
  refine g_lor C (z := (((a + 12000) * 1073741824) + ((((((((b * 64) + cc) * 64) + d) * 64) + f) * 64) + g))) std_N_wideNode_41 (lI_orK (q := (a + 12000)) (d := 1073741824) 30 (by decide) rfl (by omega) (by omega) (by omega) (by omega)) ?_
  exact hret _ _ _ () (rfl) std_N_wideNode_42

abbrev sty_N_merge : MethodName := ⟨"StateTables$NarrowLayers", "merge", "([J[JIII)V"⟩
abbrev stc_N_merge : ByteArray := prog_4_method_17_code
theorem sth_N_merge : (sty_N_merge).cls ≠ "java/lang/invoke/MethodHandle" ∧ (sty_N_merge).cls ≠ "java/lang/invoke/VarHandle" ∧ (parseMethodDescriptor (sty_N_merge).desc).map (fun d => d.parameters.length) = some 5 := by decide +kernel
theorem std_N_merge_0 : decode stc_N_merge 0 = .ok (.iload_n 2, 1) := by decide +kernel
theorem std_N_merge_1 : decode stc_N_merge 1 = .ok (.istore 5, 2) := by decide +kernel
theorem std_N_merge_3 : decode stc_N_merge 3 = .ok (.iload_n 3, 1) := by decide +kernel
theorem std_N_merge_4 : decode stc_N_merge 4 = .ok (.istore 6, 2) := by decide +kernel
theorem std_N_merge_6 : decode stc_N_merge 6 = .ok (.iload_n 2, 1) := by decide +kernel
theorem std_N_merge_7 : decode stc_N_merge 7 = .ok (.istore 7, 2) := by decide +kernel
theorem std_N_merge_9 : decode stc_N_merge 9 = .ok (.iload 7, 2) := by decide +kernel
theorem std_N_merge_11 : decode stc_N_merge 11 = .ok (.iload 4, 2) := by decide +kernel
theorem std_N_merge_13 : decode stc_N_merge 13 = .ok (.if_icmp .ge 59, 3) := by decide +kernel
theorem std_N_merge_72 : decode stc_N_merge 72 = .ok (.return_, 1) := by decide +kernel
theorem std_N_merge_16 : decode stc_N_merge 16 = .ok (.iload 6, 2) := by decide +kernel
theorem std_N_merge_18 : decode stc_N_merge 18 = .ok (.iload 4, 2) := by decide +kernel
theorem std_N_merge_20 : decode stc_N_merge 20 = .ok (.if_icmp .ge 21, 3) := by decide +kernel
theorem std_N_merge_41 : decode stc_N_merge 41 = .ok (.aload_n 1, 1) := by decide +kernel
theorem std_N_merge_42 : decode stc_N_merge 42 = .ok (.iload 7, 2) := by decide +kernel
theorem std_N_merge_44 : decode stc_N_merge 44 = .ok (.aload_n 0, 1) := by decide +kernel
theorem std_N_merge_45 : decode stc_N_merge 45 = .ok (.iload 5, 2) := by decide +kernel
theorem std_N_merge_47 : decode stc_N_merge 47 = .ok (.laload, 1) := by decide +kernel
theorem std_N_merge_48 : decode stc_N_merge 48 = .ok (.lastore, 1) := by decide +kernel
theorem std_N_merge_49 : decode stc_N_merge 49 = .ok (.iinc 5 1, 3) := by decide +kernel
theorem std_N_merge_52 : decode stc_N_merge 52 = .ok (.goto 14, 3) := by decide +kernel
theorem std_N_merge_66 : decode stc_N_merge 66 = .ok (.iinc 7 1, 3) := by decide +kernel
theorem std_N_merge_69 : decode stc_N_merge 69 = .ok (.goto (-60), 3) := by decide +kernel
theorem std_N_merge_23 : decode stc_N_merge 23 = .ok (.iload 5, 2) := by decide +kernel
theorem std_N_merge_25 : decode stc_N_merge 25 = .ok (.iload_n 3, 1) := by decide +kernel
theorem std_N_merge_26 : decode stc_N_merge 26 = .ok (.if_icmp .ge 29, 3) := by decide +kernel
theorem std_N_merge_55 : decode stc_N_merge 55 = .ok (.aload_n 1, 1) := by decide +kernel
theorem std_N_merge_56 : decode stc_N_merge 56 = .ok (.iload 7, 2) := by decide +kernel
theorem std_N_merge_58 : decode stc_N_merge 58 = .ok (.aload_n 0, 1) := by decide +kernel
theorem std_N_merge_59 : decode stc_N_merge 59 = .ok (.iload 6, 2) := by decide +kernel
theorem std_N_merge_61 : decode stc_N_merge 61 = .ok (.laload, 1) := by decide +kernel
theorem std_N_merge_62 : decode stc_N_merge 62 = .ok (.lastore, 1) := by decide +kernel
theorem std_N_merge_63 : decode stc_N_merge 63 = .ok (.iinc 6 1, 3) := by decide +kernel
theorem std_N_merge_29 : decode stc_N_merge 29 = .ok (.aload_n 0, 1) := by decide +kernel
theorem std_N_merge_30 : decode stc_N_merge 30 = .ok (.iload 5, 2) := by decide +kernel
theorem std_N_merge_32 : decode stc_N_merge 32 = .ok (.laload, 1) := by decide +kernel
theorem std_N_merge_33 : decode stc_N_merge 33 = .ok (.aload_n 0, 1) := by decide +kernel
theorem std_N_merge_34 : decode stc_N_merge 34 = .ok (.iload 6, 2) := by decide +kernel
theorem std_N_merge_36 : decode stc_N_merge 36 = .ok (.laload, 1) := by decide +kernel
theorem std_N_merge_37 : decode stc_N_merge 37 = .ok (.lcmp, 1) := by decide +kernel
theorem std_N_merge_38 : decode stc_N_merge 38 = .ok (.ifCond .gt 17, 3) := by decide +kernel
set_option maxHeartbeats 4000000 in
set_option maxRecDepth 100000 in
theorem c_merge (l : Launch) (dC : Nat → ClassId) (dI : Nat → Nat → Nat) (cI cJ cZ : ClassId) (v1 : Nat) (v2 : Nat) (ff : Int → Int) (ft : Int → Int) (lf : Int) (md : Int) (rt : Int) (kl : 0 ≤ lf ∧ lf ≤ md) (kr : md ≤ rt ∧ rt ≤ 360) (kf : ∀ i, 0 ≤ i → i < rt → rL (ff i)) (ks1 : ∀ i j, lf ≤ i → i < j → j < md → ff i ≤ ff j) (ks2 : ∀ i j, md ≤ i → i < j → j < rt → ff i ≤ ff j) : ∀ sz, Met l sty_N_merge (Cond.code sty_N_merge stc_N_merge 8 none :: stGW) ({ frames := 0, cells := 0, slots := 0, locals := 0 } : Room) (va_Pc [.ref v1, .ref v2, .int (iI lf), .int (iI md), .int (iI rt)] (zPre (dC, dI) stCl [(cI, .int), (cJ, .long), (cZ, .boolean)] st_nw [(v1, .inl (cJ, aL 360 ff)), (v2, .inl (cJ, aL 360 ft))] sz)) (va_Qv (fun (u : (Int → Int)) => MD ff ft u lf rt) (zPost (dC, dI) stCl [(cI, .int), (cJ, .long), (cZ, .boolean)] [(v1, .inl (cJ, aL 360 ff)), (v2, .inl (cJ, aL 360 ft))] sz (fun u : (Int → Int) => [(v1, .inl (cJ, aL 360 ff)), (v2, .inl (cJ, aL 360 u))])) (va_A [(v1, .inl (cJ, aL 360 ff)), (v2, .inl (cJ, aL 360 ft))] sz)) 0 0 (va_A [(v1, .inl (cJ, aL 360 ff)), (v2, .inl (cJ, aL 360 ft))] sz) := by
  refine met_v (by decide) rfl (Nat.le_of_ble_eq_true rfl) ?_
  intro p e s m below meth c A Q C hmn hret
  refine g_iload_n C 2 std_N_merge_0 rfl ?_
  refine g_istore C (lv' := [(5, .int (iI lf)), (0, .ref v1), (1, .ref v2), (2, .int (iI lf)), (3, .int (iI md)), (4, .int (iI rt))]) std_N_merge_1 (by decide) rfl ?_
  refine g_iload_n C 4 std_N_merge_3 rfl ?_
  refine g_istore C (lv' := [(6, .int (iI md)), (5, .int (iI lf)), (0, .ref v1), (1, .ref v2), (2, .int (iI lf)), (3, .int (iI md)), (4, .int (iI rt))]) std_N_merge_4 (by decide) rfl ?_
  refine g_iload_n C 4 std_N_merge_6 rfl ?_
  refine g_istore C (lv' := [(7, .int (iI lf)), (6, .int (iI md)), (5, .int (iI lf)), (0, .ref v1), (1, .ref v2), (2, .int (iI lf)), (3, .int (iI md)), (4, .int (iI rt))]) std_N_merge_7 (by decide) rfl ?_
  have L9 : ∀ (nn9 : Nat) (x : Int) (y : Int) (z : Int) (TT : Int → Int), (lf ≤ x ∧ x ≤ rt) → MG ff ft TT lf md rt z y x → (rt - x) < (nn9 : Int) → G p l e ({ frames := 0, cells := 0, slots := 0, locals := 0 } : Room) s m ([.ref v1, .ref v2, .int (iI lf), .int (iI md), .int (iI rt)] : List Value).toArray below meth c (dC, dI) stCl 8 A 0 0 Q [(v1, .inl (cJ, aL 360 ff)), (v2, .inl (cJ, aL 360 TT))] 9 [(7, .int (iI x)), (6, .int (iI y)), (5, .int (iI z)), (0, .ref v1), (1, .ref v2), (2, .int (iI lf)), (3, .int (iI md)), (4, .int (iI rt))] [] := by
    intro nn9
    induction nn9 with
    | zero =>
      intro x y z TT kx kM hnn9
      exact absurd hnn9 (by omega)
    | succ nn9 ih9 =>
      intro x y z TT kx kM hnn9
      have hM1 := kM.1
      refine g_iload C 0 std_N_merge_9 rfl ?_
      refine g_iload C 7 std_N_merge_11 rfl ?_
      refine g_icmp_ge (tgt := 72) C std_N_merge_13 (by decide) ⟨by omega, by omega⟩ ⟨by omega, by omega⟩ (fun c1 => ?_) (fun c1 => ?_)
      · exact hret _ _ TT (mg_e kM (by omega)) std_N_merge_72
      · refine g_iload C 1 std_N_merge_16 rfl ?_
        refine g_iload C 7 std_N_merge_18 rfl ?_
        refine g_icmp_ge (tgt := 41) C std_N_merge_20 (by decide) ⟨by omega, by omega⟩ ⟨by omega, by omega⟩ (fun c2 => ?_) (fun c2 => ?_)
        · refine g_aload_n C 4 std_N_merge_41 rfl ?_
          refine g_iload C 0 std_N_merge_42 rfl ?_
          refine g_aload_n C 3 std_N_merge_44 rfl ?_
          refine g_iload C 2 std_N_merge_45 rfl ?_
          refine g_lald C 0 1 rfl rfl (by omega) (by omega) (by omega) std_N_merge_47 ?_
          refine g_last C (ws' := [(v1, .inl (cJ, aL 360 ff)), (v2, .inl (cJ, aL 360 (uZ TT x (ff z))))]) 1 1 rfl rfl (by omega) (by omega) (by omega) std_N_merge_48 rfl ?_
          refine g_iinc C (lv' := [(5, .int (iI (z + 1))), (7, .int (iI x)), (6, .int (iI y)), (0, .ref v1), (1, .ref v2), (2, .int (iI lf)), (3, .int (iI md)), (4, .int (iI rt))]) 2 std_N_merge_49 rfl (by decide) rfl ?_
          refine g_goto (tgt := 66) C std_N_merge_52 (by decide) ?_
          refine g_iinc C (lv' := [(7, .int (iI (x + 1))), (5, .int (iI (z + 1))), (6, .int (iI y)), (0, .ref v1), (1, .ref v2), (2, .int (iI lf)), (3, .int (iI md)), (4, .int (iI rt))]) 1 std_N_merge_66 rfl (by decide) rfl ?_
          refine g_goto (tgt := 9) C std_N_merge_69 (by decide) ?_
          refine g_lv (lv' := [(7, .int (iI (x + 1))), (6, .int (iI y)), (5, .int (iI (z + 1))), (0, .ref v1), (1, .ref v2), (2, .int (iI lf)), (3, .int (iI md)), (4, .int (iI rt))]) [0, 2, 1, 3, 4, 5, 6, 7] rfl ?_
          exact ih9 (x + 1) y (z + 1) (uZ TT x (ff z)) (by first | assumption | omega) (mg_a kM (by omega) ks1 (by omega) (Or.inl (by omega)) ks2) (by omega)
        · refine g_iload C 2 std_N_merge_23 rfl ?_
          refine g_iload_n C 6 std_N_merge_25 rfl ?_
          refine g_icmp_ge (tgt := 55) C std_N_merge_26 (by decide) ⟨by omega, by omega⟩ ⟨by omega, by omega⟩ (fun c3 => ?_) (fun c3 => ?_)
          · refine g_aload_n C 4 std_N_merge_55 rfl ?_
            refine g_iload C 0 std_N_merge_56 rfl ?_
            refine g_aload_n C 3 std_N_merge_58 rfl ?_
            refine g_iload C 1 std_N_merge_59 rfl ?_
            refine g_lald C 0 1 rfl rfl (by omega) (by omega) (by omega) std_N_merge_61 ?_
            refine g_last C (ws' := [(v1, .inl (cJ, aL 360 ff)), (v2, .inl (cJ, aL 360 (uZ TT x (ff y))))]) 1 1 rfl rfl (by omega) (by omega) (by omega) std_N_merge_62 rfl ?_
            refine g_iinc C (lv' := [(6, .int (iI (y + 1))), (7, .int (iI x)), (5, .int (iI z)), (0, .ref v1), (1, .ref v2), (2, .int (iI lf)), (3, .int (iI md)), (4, .int (iI rt))]) 1 std_N_merge_63 rfl (by decide) rfl ?_
            refine g_iinc C (lv' := [(7, .int (iI (x + 1))), (6, .int (iI (y + 1))), (5, .int (iI z)), (0, .ref v1), (1, .ref v2), (2, .int (iI lf)), (3, .int (iI md)), (4, .int (iI rt))]) 1 std_N_merge_66 rfl (by decide) rfl ?_
            refine g_goto (tgt := 9) C std_N_merge_69 (by decide) ?_
            exact ih9 (x + 1) (y + 1) z (uZ TT x (ff y)) (by first | assumption | omega) (mg_b kM (by omega) ks1 (by omega) (Or.inl (by omega)) ks2) (by omega)
          · have hqa := kf z (by omega) (by omega)
            have hqb := kf y (by omega) (by omega)
            refine g_aload_n C 3 std_N_merge_29 rfl ?_
            refine g_iload C 2 std_N_merge_30 rfl ?_
            refine g_lald C 0 1 rfl rfl (by omega) (by omega) (by omega) std_N_merge_32 ?_
            refine g_aload_n C 3 std_N_merge_33 rfl ?_
            refine g_iload C 1 std_N_merge_34 rfl ?_
            refine g_lald C 0 1 rfl rfl (by omega) (by omega) (by omega) std_N_merge_36 ?_
            refine g_lcmp_gt (tgt := 55) C std_N_merge_37 std_N_merge_38 (by decide) ⟨by omega, by omega⟩ ⟨by omega, by omega⟩ (fun c4 => ?_) (fun c4 => ?_)
            · refine g_aload_n C 4 std_N_merge_55 rfl ?_
              refine g_iload C 0 std_N_merge_56 rfl ?_
              refine g_aload_n C 3 std_N_merge_58 rfl ?_
              refine g_iload C 1 std_N_merge_59 rfl ?_
              refine g_lald C 0 1 rfl rfl (by omega) (by omega) (by omega) std_N_merge_61 ?_
              refine g_last C (ws' := [(v1, .inl (cJ, aL 360 ff)), (v2, .inl (cJ, aL 360 (uZ TT x (ff y))))]) 1 1 rfl rfl (by omega) (by omega) (by omega) std_N_merge_62 rfl ?_
              refine g_iinc C (lv' := [(6, .int (iI (y + 1))), (7, .int (iI x)), (5, .int (iI z)), (0, .ref v1), (1, .ref v2), (2, .int (iI lf)), (3, .int (iI md)), (4, .int (iI rt))]) 1 std_N_merge_63 rfl (by decide) rfl ?_
              refine g_iinc C (lv' := [(7, .int (iI (x + 1))), (6, .int (iI (y + 1))), (5, .int (iI z)), (0, .ref v1), (1, .ref v2), (2, .int (iI lf)), (3, .int (iI md)), (4, .int (iI rt))]) 1 std_N_merge_66 rfl (by decide) rfl ?_
              refine g_goto (tgt := 9) C std_N_merge_69 (by decide) ?_
              exact ih9 (x + 1) (y + 1) z (uZ TT x (ff y)) (by first | assumption | omega) (mg_b kM (by omega) ks1 (by omega) (Or.inr (by omega)) ks2) (by omega)
            · refine g_aload_n C 4 std_N_merge_41 rfl ?_
              refine g_iload C 0 std_N_merge_42 rfl ?_
              refine g_aload_n C 3 std_N_merge_44 rfl ?_
              refine g_iload C 2 std_N_merge_45 rfl ?_
              refine g_lald C 0 1 rfl rfl (by omega) (by omega) (by omega) std_N_merge_47 ?_
              refine g_last C (ws' := [(v1, .inl (cJ, aL 360 ff)), (v2, .inl (cJ, aL 360 (uZ TT x (ff z))))]) 1 1 rfl rfl (by omega) (by omega) (by omega) std_N_merge_48 rfl ?_
              refine g_iinc C (lv' := [(5, .int (iI (z + 1))), (7, .int (iI x)), (6, .int (iI y)), (0, .ref v1), (1, .ref v2), (2, .int (iI lf)), (3, .int (iI md)), (4, .int (iI rt))]) 2 std_N_merge_49 rfl (by decide) rfl ?_
              refine g_goto (tgt := 66) C std_N_merge_52 (by decide) ?_
              refine g_iinc C (lv' := [(7, .int (iI (x + 1))), (5, .int (iI (z + 1))), (6, .int (iI y)), (0, .ref v1), (1, .ref v2), (2, .int (iI lf)), (3, .int (iI md)), (4, .int (iI rt))]) 1 std_N_merge_66 rfl (by decide) rfl ?_
              refine g_goto (tgt := 9) C std_N_merge_69 (by decide) ?_
              refine g_lv (lv' := [(7, .int (iI (x + 1))), (6, .int (iI y)), (5, .int (iI (z + 1))), (0, .ref v1), (1, .ref v2), (2, .int (iI lf)), (3, .int (iI md)), (4, .int (iI rt))]) [0, 2, 1, 3, 4, 5, 6, 7] rfl ?_
              exact ih9 (x + 1) y (z + 1) (uZ TT x (ff z)) (by first | assumption | omega) (mg_a kM (by omega) ks1 (by omega) (Or.inr ⟨by omega, by omega⟩) ks2) (by omega)
  obtain ⟨nn0, hnn0⟩ : ∃ nn0 : Nat, (rt - lf) < (nn0 : Int) := z_nat _
  exact L9 nn0 lf md lf ft (by first | assumption | omega) (mg_0 (by omega) (by omega)) hnn0

abbrev sty_N_sort : MethodName := ⟨"StateTables$NarrowLayers", "sort", "([J[JI)V"⟩
abbrev stc_N_sort : ByteArray := prog_4_method_16_code
theorem sth_N_sort : (sty_N_sort).cls ≠ "java/lang/invoke/MethodHandle" ∧ (sty_N_sort).cls ≠ "java/lang/invoke/VarHandle" ∧ (parseMethodDescriptor (sty_N_sort).desc).map (fun d => d.parameters.length) = some 3 := by decide +kernel
theorem std_N_sort_0 : decode stc_N_sort 0 = .ok (.iconst 1, 1) := by decide +kernel
theorem std_N_sort_1 : decode stc_N_sort 1 = .ok (.istore_n 3, 1) := by decide +kernel
theorem std_N_sort_2 : decode stc_N_sort 2 = .ok (.iload_n 3, 1) := by decide +kernel
theorem std_N_sort_3 : decode stc_N_sort 3 = .ok (.iload_n 2, 1) := by decide +kernel
theorem std_N_sort_4 : decode stc_N_sort 4 = .ok (.if_icmp .ge 65, 3) := by decide +kernel
theorem std_N_sort_69 : decode stc_N_sort 69 = .ok (.return_, 1) := by decide +kernel
theorem std_N_sort_7 : decode stc_N_sort 7 = .ok (.iconst 0, 1) := by decide +kernel
theorem std_N_sort_8 : decode stc_N_sort 8 = .ok (.istore 4, 2) := by decide +kernel
theorem std_N_sort_10 : decode stc_N_sort 10 = .ok (.iload 4, 2) := by decide +kernel
theorem std_N_sort_12 : decode stc_N_sort 12 = .ok (.iload_n 2, 1) := by decide +kernel
theorem std_N_sort_13 : decode stc_N_sort 13 = .ok (.if_icmp .ge 41, 3) := by decide +kernel
theorem std_N_sort_54 : decode stc_N_sort 54 = .ok (.aload_n 1, 1) := by decide +kernel
theorem std_N_sort_55 : decode stc_N_sort 55 = .ok (.iconst 0, 1) := by decide +kernel
theorem std_N_sort_56 : decode stc_N_sort 56 = .ok (.aload_n 0, 1) := by decide +kernel
theorem std_N_sort_57 : decode stc_N_sort 57 = .ok (.iconst 0, 1) := by decide +kernel
theorem std_N_sort_58 : decode stc_N_sort 58 = .ok (.iload_n 2, 1) := by decide +kernel
theorem std_N_sort_59 : decode stc_N_sort 59 = .ok (.invokestatic 142, 3) := by decide +kernel
theorem kw_3_33 : Cond.methodLink "StateTables$NarrowLayers" 142 (arraycopyName) ∈ stGW := st_t3 (List.mem_of_getElem? (i := 33) (by decide +kernel)) (by decide +kernel)
theorem std_N_sort_62 : decode stc_N_sort 62 = .ok (.iload_n 3, 1) := by decide +kernel
theorem std_N_sort_63 : decode stc_N_sort 63 = .ok (.iconst 2, 1) := by decide +kernel
theorem std_N_sort_64 : decode stc_N_sort 64 = .ok (.imul, 1) := by decide +kernel
theorem std_N_sort_65 : decode stc_N_sort 65 = .ok (.istore_n 3, 1) := by decide +kernel
theorem std_N_sort_66 : decode stc_N_sort 66 = .ok (.goto (-64), 3) := by decide +kernel
theorem std_N_sort_16 : decode stc_N_sort 16 = .ok (.iload 4, 2) := by decide +kernel
theorem std_N_sort_18 : decode stc_N_sort 18 = .ok (.iload_n 3, 1) := by decide +kernel
theorem std_N_sort_19 : decode stc_N_sort 19 = .ok (.iadd, 1) := by decide +kernel
theorem std_N_sort_20 : decode stc_N_sort 20 = .ok (.iload_n 2, 1) := by decide +kernel
theorem std_N_sort_21 : decode stc_N_sort 21 = .ok (.invokestatic 112, 3) := by decide +kernel
theorem kw_3_15 : Cond.methodLink "StateTables$NarrowLayers" 112 (Lib.Math.min.name) ∈ stGW := st_t3 (List.mem_of_getElem? (i := 15) (by decide +kernel)) (by decide +kernel)
theorem std_N_sort_24 : decode stc_N_sort 24 = .ok (.istore 5, 2) := by decide +kernel
theorem std_N_sort_26 : decode stc_N_sort 26 = .ok (.aload_n 0, 1) := by decide +kernel
theorem std_N_sort_27 : decode stc_N_sort 27 = .ok (.aload_n 1, 1) := by decide +kernel
theorem std_N_sort_28 : decode stc_N_sort 28 = .ok (.iload 4, 2) := by decide +kernel
theorem std_N_sort_30 : decode stc_N_sort 30 = .ok (.iload 5, 2) := by decide +kernel
theorem std_N_sort_32 : decode stc_N_sort 32 = .ok (.iload 5, 2) := by decide +kernel
theorem std_N_sort_34 : decode stc_N_sort 34 = .ok (.iload_n 3, 1) := by decide +kernel
theorem std_N_sort_35 : decode stc_N_sort 35 = .ok (.iadd, 1) := by decide +kernel
theorem std_N_sort_36 : decode stc_N_sort 36 = .ok (.iload_n 2, 1) := by decide +kernel
theorem std_N_sort_37 : decode stc_N_sort 37 = .ok (.invokestatic 112, 3) := by decide +kernel
theorem std_N_sort_40 : decode stc_N_sort 40 = .ok (.invokestatic 138, 3) := by decide +kernel
theorem kw_3_32 : Cond.code sty_N_merge stc_N_merge 8 none ∈ stGW := st_t3 (List.mem_of_getElem? (i := 32) (by decide +kernel)) (by decide +kernel)
theorem kw_1_5 : Cond.initialized "StateTables$NarrowLayers" ∈ stGW := st_t1 (List.mem_of_getElem? (i := 5) (by decide +kernel)) (by decide +kernel)
theorem kw_3_30 : Cond.methodLink "StateTables$NarrowLayers" 138 (sty_N_merge) ∈ stGW := st_t3 (List.mem_of_getElem? (i := 30) (by decide +kernel)) (by decide +kernel)
theorem kw_3_31 : Cond.static (sty_N_merge) ∈ stGW := st_t3 (List.mem_of_getElem? (i := 31) (by decide +kernel)) (by decide +kernel)
theorem std_N_sort_43 : decode stc_N_sort 43 = .ok (.iload 4, 2) := by decide +kernel
theorem std_N_sort_45 : decode stc_N_sort 45 = .ok (.iconst 2, 1) := by decide +kernel
theorem std_N_sort_46 : decode stc_N_sort 46 = .ok (.iload_n 3, 1) := by decide +kernel
theorem std_N_sort_47 : decode stc_N_sort 47 = .ok (.imul, 1) := by decide +kernel
theorem std_N_sort_48 : decode stc_N_sort 48 = .ok (.iadd, 1) := by decide +kernel
theorem std_N_sort_49 : decode stc_N_sort 49 = .ok (.istore 4, 2) := by decide +kernel
theorem std_N_sort_51 : decode stc_N_sort 51 = .ok (.goto (-41), 3) := by decide +kernel
set_option maxHeartbeats 4000000 in
set_option maxRecDepth 100000 in
theorem c_sort (l : Launch) (dC : Nat → ClassId) (dI : Nat → Nat → Nat) (cI cJ cZ : ClassId) (v1 : Nat) (v2 : Nat) (ff : Int → Int) (ft : Int → Int) (nn : Int) (kn : 0 ≤ nn ∧ nn ≤ 360) (kf : ∀ i, 0 ≤ i → i < nn → rL (ff i)) : ∀ sz, Met l sty_N_sort (Cond.code sty_N_sort stc_N_sort 6 none :: stGW) ({ frames := 1, cells := 0, slots := 0, locals := 40 } : Room) (va_Pc [.ref v1, .ref v2, .int (iI nn)] (zPre (dC, dI) stCl [(cI, .int), (cJ, .long), (cZ, .boolean)] st_nw [(v1, .inl (cJ, aL 360 ff)), (v2, .inl (cJ, aL 360 ft))] sz)) (va_Qv (fun (u : (Int → Int) × (Int → Int)) => SO ff u.1 nn) (zPost (dC, dI) stCl [(cI, .int), (cJ, .long), (cZ, .boolean)] [(v1, .inl (cJ, aL 360 ff)), (v2, .inl (cJ, aL 360 ft))] sz (fun u : (Int → Int) × (Int → Int) => [(v1, .inl (cJ, aL 360 (u.1))), (v2, .inl (cJ, aL 360 (u.2)))])) (va_A [(v1, .inl (cJ, aL 360 ff)), (v2, .inl (cJ, aL 360 ft))] sz)) 0 0 (va_A [(v1, .inl (cJ, aL 360 ff)), (v2, .inl (cJ, aL 360 ft))] sz) := by
  refine met_v (by decide) rfl (Nat.le_of_ble_eq_true rfl) ?_
  intro p e s m below meth c A Q C hmn hret
  refine g_iconst C std_N_sort_0 ?_
  refine g_istore_n C (lv' := [(3, .int (iI 1)), (0, .ref v1), (1, .ref v2), (2, .int (iI nn))]) std_N_sort_1 (by decide) rfl ?_
  have L2 : ∀ (nn2 : Nat) (wd : Int) (FF : Int → Int) (TT : Int → Int), (0 < wd ∧ wd ≤ 1000) → BS FF nn wd → (∀ v, ctZ FF v nn = ctZ ff v nn) → (∀ i, 0 ≤ i → i < nn → rL (FF i)) → (1000 - wd) < (nn2 : Int) → G p l e ({ frames := 1, cells := 0, slots := 0, locals := 40 } : Room) s m ([.ref v1, .ref v2, .int (iI nn)] : List Value).toArray below meth c (dC, dI) stCl 6 A 0 0 Q [(v1, .inl (cJ, aL 360 FF)), (v2, .inl (cJ, aL 360 TT))] 2 [(3, .int (iI wd)), (0, .ref v1), (1, .ref v2), (2, .int (iI nn))] [] := by
    intro nn2
    induction nn2 with
    | zero =>
      intro wd FF TT kw kB kC kF hnn2
      exact absurd hnn2 (by omega)
    | succ nn2 ih2 =>
      intro wd FF TT kw kB kC kF hnn2
      refine g_iload_n C 0 std_N_sort_2 rfl ?_
      refine g_iload_n C 3 std_N_sort_3 rfl ?_
      refine g_icmp_ge (tgt := 69) C std_N_sort_4 (by decide) ⟨by omega, by omega⟩ ⟨by omega, by omega⟩ (fun c1 => ?_) (fun c1 => ?_)
      · exact hret _ _ (FF, TT) (⟨bs_e kB (by omega), kC⟩) std_N_sort_69
      · refine g_iconst C std_N_sort_7 ?_
        refine g_istore C (lv' := [(4, .int (iI 0)), (3, .int (iI wd)), (0, .ref v1), (1, .ref v2), (2, .int (iI nn))]) std_N_sort_8 (by decide) rfl ?_
        have L10 : ∀ (nn10 : Nat) (lf : Int) (VV : Int → Int), 0 ≤ lf ∧ lf ≤ 2000 → SP FF VV nn wd lf → (2000 - lf) < (nn10 : Int) → G p l e ({ frames := 1, cells := 0, slots := 0, locals := 40 } : Room) s m ([.ref v1, .ref v2, .int (iI nn)] : List Value).toArray below meth c (dC, dI) stCl 6 A 0 0 Q [(v1, .inl (cJ, aL 360 FF)), (v2, .inl (cJ, aL 360 VV))] 10 [(4, .int (iI lf)), (3, .int (iI wd)), (0, .ref v1), (1, .ref v2), (2, .int (iI nn))] [] := by
          intro nn10
          induction nn10 with
          | zero =>
            intro lf VV kl kS hnn10
            exact absurd hnn10 (by omega)
          | succ nn10 ih10 =>
            intro lf VV kl kS hnn10
            refine g_iload C 0 std_N_sort_10 rfl ?_
            refine g_iload_n C 4 std_N_sort_12 rfl ?_
            refine g_icmp_ge (tgt := 54) C std_N_sort_13 (by decide) ⟨by omega, by omega⟩ ⟨by omega, by omega⟩ (fun c2 => ?_) (fun c2 => ?_)
            · have hE := sp_e kS (by omega) (by omega)
              refine g_aload_n C 3 std_N_sort_54 rfl ?_
              refine g_iconst C std_N_sort_55 ?_
              refine g_aload_n C 2 std_N_sort_56 rfl ?_
              refine g_iconst C std_N_sort_57 ?_
              refine g_iload_n C 4 std_N_sort_58 rfl ?_
              refine g_copyL C (ws' := [(v1, .inl (cJ, aL 360 (cpZ VV FF 0 0 nn))), (v2, .inl (cJ, aL 360 VV))]) 1 0 1 rfl rfl rfl (by omega) (by omega) (by omega) (by omega) (by omega) (by omega) (by omega) (List.mem_cons_of_mem _ kw_3_33) (List.mem_cons_of_mem _ kw_2_67) (List.mem_cons_of_mem _ kw_2_66) (List.mem_cons_of_mem _ kw_1_9) (Nat.le_of_ble_eq_true rfl) (Nat.le_of_ble_eq_true rfl) std_N_sort_59 rfl ?_
              have hcp : ∀ i, 0 ≤ i → i < nn → cpZ VV FF 0 0 nn i = VV i := fun i h1 h2 => cpZ_lo h1 h2
              refine g_iload_n C 1 std_N_sort_62 rfl ?_
              refine g_iconst C std_N_sort_63 ?_
              refine g_imul C std_N_sort_64 ?_
              refine g_istore_n C (lv' := [(3, .int (iI (wd * 2))), (4, .int (iI lf)), (0, .ref v1), (1, .ref v2), (2, .int (iI nn))]) std_N_sort_65 (by decide) rfl ?_
              refine g_goto (tgt := 2) C std_N_sort_66 (by decide) ?_
              refine g_lv (lv' := [(3, .int (iI (wd * 2))), (0, .ref v1), (1, .ref v2), (2, .int (iI nn))]) [0, 2, 3, 4] rfl ?_
              exact ih2 (wd * 2) (cpZ VV FF 0 0 nn) VV (by omega) (by rw [Int.mul_comm wd 2]; exact bs_congr hE.1 (by omega) hcp) (fun v => (ctZ_congr hcp).trans ((hE.2 v).trans (kC v))) (fun i h1 h2 => by rw [hcp i h1 h2]; exact so_rl hE.2 kF i h1 h2) (by omega)
            · refine g_iload C 0 std_N_sort_16 rfl ?_
              refine g_iload_n C 1 std_N_sort_18 rfl ?_
              refine g_iadd C std_N_sort_19 ?_
              refine g_iload_n C 4 std_N_sort_20 rfl ?_
              refine g_min C ⟨by omega, by omega⟩ ⟨by omega, by omega⟩ (List.mem_cons_of_mem _ kw_3_15) (List.mem_cons_of_mem _ kw_2_45) (List.mem_cons_of_mem _ kw_1_7) (List.mem_cons_of_mem _ kw_2_46) (Nat.le_of_ble_eq_true rfl) (Nat.le_of_ble_eq_true rfl) (Nat.le_of_ble_eq_true rfl) (Nat.le_of_ble_eq_true rfl) std_N_sort_21 ?_
              refine g_istore C (lv' := [(5, .int (iI (min (lf + wd) nn))), (4, .int (iI lf)), (3, .int (iI wd)), (0, .ref v1), (1, .ref v2), (2, .int (iI nn))]) std_N_sort_24 (by decide) rfl ?_
              have hsp := sp_bs kS kB
              refine g_aload_n C 3 std_N_sort_26 rfl ?_
              refine g_aload_n C 4 std_N_sort_27 rfl ?_
              refine g_iload C 1 std_N_sort_28 rfl ?_
              refine g_iload C 0 std_N_sort_30 rfl ?_
              refine g_iload C 0 std_N_sort_32 rfl ?_
              refine g_iload_n C 2 std_N_sort_34 rfl ?_
              refine g_iadd C std_N_sort_35 ?_
              refine g_iload_n C 5 std_N_sort_36 rfl ?_
              refine g_min C ⟨by omega, by omega⟩ ⟨by omega, by omega⟩ (List.mem_cons_of_mem _ kw_3_15) (List.mem_cons_of_mem _ kw_2_45) (List.mem_cons_of_mem _ kw_1_7) (List.mem_cons_of_mem _ kw_2_46) (Nat.le_of_ble_eq_true rfl) (Nat.le_of_ble_eq_true rfl) (Nat.le_of_ble_eq_true rfl) (Nat.le_of_ble_eq_true rfl) std_N_sort_37 ?_
              refine g_S_v (wc := [(v1, .inl (cJ, aL 360 FF)), (v2, .inl (cJ, aL 360 VV))]) (wr := []) (rest := []) C (c_merge l dC dI cI cJ cZ v1 v2 FF VV lf (min (lf + wd) nn) (min ((min (lf + wd) nn) + wd) nn) (by omega) (by omega) (fun i h1 h2 => kF i h1 (by omega)) (hsp.1) (hsp.2)) (st_cS C kw_3_32 kw_3_30 kw_1_5 kw_3_31 sth_N_merge ⟨Nat.le_of_ble_eq_true rfl, Nat.le_of_ble_eq_true rfl⟩) rfl rfl (Nat.le_of_ble_eq_true rfl) std_N_sort_40 ⟨Nat.le_of_ble_eq_true rfl, Nat.le_of_ble_eq_true rfl⟩ [0, 1] [] rfl rfl rfl rfl (by decide) (fun u4 h5 => ?_)
              refine g_ws (ws' := [(v1, .inl (cJ, aL 360 FF)), (v2, .inl (cJ, aL 360 u4))]) rfl ?_
              refine g_iload C 1 std_N_sort_43 rfl ?_
              refine g_iconst C std_N_sort_45 ?_
              refine g_iload_n C 2 std_N_sort_46 rfl ?_
              refine g_imul C std_N_sort_47 ?_
              refine g_iadd C std_N_sort_48 ?_
              refine g_istore C (lv' := [(4, .int (iI (lf + (2 * wd)))), (5, .int (iI (min (lf + wd) nn))), (3, .int (iI wd)), (0, .ref v1), (1, .ref v2), (2, .int (iI nn))]) std_N_sort_49 (by decide) rfl ?_
              refine g_goto (tgt := 10) C std_N_sort_51 (by decide) ?_
              refine g_lv (lv' := [(4, .int (iI (lf + (2 * wd)))), (3, .int (iI wd)), (0, .ref v1), (1, .ref v2), (2, .int (iI nn))]) [0, 2, 3, 4, 5] rfl ?_
              refine g_wide (k := 0) (n := 0) (Nat.le_of_ble_eq_true rfl) (Nat.le_of_ble_eq_true rfl) ?_
              exact ih10 (lf + (2 * wd)) u4 (by omega) (sp_s kS (by omega) (by omega) (by omega) h5) (by omega)
        obtain ⟨nn0, hnn0⟩ : ∃ nn0 : Nat, (2000 - 0) < (nn0 : Int) := z_nat _
        exact L10 nn0 0 TT (by omega) (sp_0 (by omega)) hnn0
  obtain ⟨nn0, hnn0⟩ : ∃ nn0 : Nat, (1000 - 1) < (nn0 : Int) := z_nat _
  exact L2 nn0 1 ff ft (by omega) (bs_1) (fun _ => rfl) (kf) hnn0

