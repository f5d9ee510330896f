/-! StateTables: its static helpers -/
abbrev sty_S_placeOf : MethodName := ⟨"StateTables", "placeOf", "(II)I"⟩
abbrev stc_S_placeOf : ByteArray := prog_1_method_22_code
theorem sth_S_placeOf : (sty_S_placeOf).cls ≠ "java/lang/invoke/MethodHandle" ∧ (sty_S_placeOf).cls ≠ "java/lang/invoke/VarHandle" ∧ (parseMethodDescriptor (sty_S_placeOf).desc).map (fun d => d.parameters.length) = some 2 := by decide +kernel
theorem std_S_placeOf_0 : decode stc_S_placeOf 0 = .ok (.iload_n 0, 1) := by decide +kernel
theorem std_S_placeOf_1 : decode stc_S_placeOf 1 = .ok (.bipush 6, 2) := by decide +kernel
theorem std_S_placeOf_3 : decode stc_S_placeOf 3 = .ok (.imul, 1) := by decide +kernel
theorem std_S_placeOf_4 : decode stc_S_placeOf 4 = .ok (.iload_n 1, 1) := by decide +kernel
theorem std_S_placeOf_5 : decode stc_S_placeOf 5 = .ok (.iadd, 1) := by decide +kernel
theorem std_S_placeOf_6 : decode stc_S_placeOf 6 = .ok (.ireturn, 1) := by decide +kernel
set_option maxHeartbeats 4000000 in
set_option maxRecDepth 100000 in
theorem c_placeOf (l : Launch) (dC : Nat → ClassId) (dI : Nat → Nat → Nat) (cI cJ cZ : ClassId) (a : Int) (b : Int)  : ∀ sz, Met l sty_S_placeOf (Cond.code sty_S_placeOf stc_S_placeOf 2 (some .int) :: stGW) ({ frames := 0, cells := 0, slots := 0, locals := 0 } : Room) (va_Pc [.int (iI a), .int (iI b)] (zPre (dC, dI) stCl [(cI, .int), (cJ, .long), (cZ, .boolean)] st_nw [] sz)) (va_Qi (fun (r : Int32) (_ : Unit) => r = iI ((a * 6) + b)) (zPost (dC, dI) stCl [(cI, .int), (cJ, .long), (cZ, .boolean)] [] sz (fun _ : Unit => [])) (va_A [] sz)) 0 0 (va_A [] sz) := by
  refine met_i (by decide) rfl (Nat.le_of_ble_eq_true rfl) ?_
  intro p e s m below meth c A Q C hmn hret
  refine g_iload_n C 0 std_S_placeOf_0 rfl ?_
  refine g_bipush C std_S_placeOf_1 (by decide) ?_
  refine g_imul C std_S_placeOf_3 ?_
  refine g_iload_n C 1 std_S_placeOf_4 rfl ?_
  refine g_iadd C std_S_placeOf_5 ?_
  exact hret _ _ _ () (rfl) std_S_placeOf_6

abbrev sty_S_isCost : MethodName := ⟨"StateTables", "isCost", "(I)Z"⟩
abbrev stc_S_isCost : ByteArray := prog_1_method_20_code
theorem sth_S_isCost : (sty_S_isCost).cls ≠ "java/lang/invoke/MethodHandle" ∧ (sty_S_isCost).cls ≠ "java/lang/invoke/VarHandle" ∧ (parseMethodDescriptor (sty_S_isCost).desc).map (fun d => d.parameters.length) = some 1 := by decide +kernel
theorem std_S_isCost_0 : decode stc_S_isCost 0 = .ok (.iload_n 0, 1) := by decide +kernel
theorem std_S_isCost_1 : decode stc_S_isCost 1 = .ok (.sipush (-1000), 3) := by decide +kernel
theorem std_S_isCost_4 : decode stc_S_isCost 4 = .ok (.if_icmp .lt 14, 3) := by decide +kernel
theorem std_S_isCost_18 : decode stc_S_isCost 18 = .ok (.iconst 0, 1) := by decide +kernel
theorem std_S_isCost_19 : decode stc_S_isCost 19 = .ok (.ireturn, 1) := by decide +kernel
theorem std_S_isCost_7 : decode stc_S_isCost 7 = .ok (.iload_n 0, 1) := by decide +kernel
theorem std_S_isCost_8 : decode stc_S_isCost 8 = .ok (.sipush 1000, 3) := by decide +kernel
theorem std_S_isCost_11 : decode stc_S_isCost 11 = .ok (.if_icmp .gt 7, 3) := by decide +kernel
theorem std_S_isCost_14 : decode stc_S_isCost 14 = .ok (.iconst 1, 1) := by decide +kernel
theorem std_S_isCost_15 : decode stc_S_isCost 15 = .ok (.goto 4, 3) := by decide +kernel
set_option maxHeartbeats 4000000 in
set_option maxRecDepth 100000 in
theorem c_isCost (l : Launch) (dC : Nat → ClassId) (dI : Nat → Nat → Nat) (cI cJ cZ : ClassId) (a : Int) (ka : rI a) : ∀ sz, Met l sty_S_isCost (Cond.code sty_S_isCost stc_S_isCost 1 (some .boolean) :: stGW) ({ frames := 0, cells := 0, slots := 0, locals := 0 } : Room) (va_Pc [.int (iI a)] (zPre (dC, dI) stCl [(cI, .int), (cJ, .long), (cZ, .boolean)] st_nw [] sz)) (va_Qi (fun (r : Int32) (_ : Unit) => r = iI (bI (-1000 ≤ a ∧ a ≤ 1000))) (zPost (dC, dI) stCl [(cI, .int), (cJ, .long), (cZ, .boolean)] [] sz (fun _ : Unit => [])) (va_A [] sz)) 0 0 (va_A [] sz) := by
  refine met_z (by decide) rfl (Nat.le_of_ble_eq_true rfl) ?_
  intro p e s m below meth c A Q C hmn hret
  refine g_iload_n C 0 std_S_isCost_0 rfl ?_
  refine g_sipush C std_S_isCost_1 (by decide) ?_
  refine g_icmp_lt (tgt := 18) C std_S_isCost_4 (by decide) ⟨by omega, by omega⟩ ⟨by omega, by omega⟩ (fun c1 => ?_) (fun c1 => ?_)
  · refine g_iconst C std_S_isCost_18 ?_
    exact hret _ _ _ () (by rw [bI_f (by omega)]) (by decide) std_S_isCost_19
  · refine g_iload_n C 0 std_S_isCost_7 rfl ?_
    refine g_sipush C std_S_isCost_8 (by decide) ?_
    refine g_icmp_gt (tgt := 18) C std_S_isCost_11 (by decide) ⟨by omega, by omega⟩ ⟨by omega, by omega⟩ (fun c2 => ?_) (fun c2 => ?_)
    · refine g_iconst C std_S_isCost_18 ?_
      exact hret _ _ _ () (by rw [bI_f (by omega)]) (by decide) std_S_isCost_19
    · refine g_iconst C std_S_isCost_14 ?_
      refine g_goto (tgt := 19) C std_S_isCost_15 (by decide) ?_
      exact hret _ _ _ () (by rw [bI_t (by omega)]) (by decide) std_S_isCost_19

abbrev sty_S_isUse : MethodName := ⟨"StateTables", "isUse", "(I)Z"⟩
abbrev stc_S_isUse : ByteArray := prog_1_method_21_code
theorem sth_S_isUse : (sty_S_isUse).cls ≠ "java/lang/invoke/MethodHandle" ∧ (sty_S_isUse).cls ≠ "java/lang/invoke/VarHandle" ∧ (parseMethodDescriptor (sty_S_isUse).desc).map (fun d => d.parameters.length) = some 1 := by decide +kernel
theorem std_S_isUse_0 : decode stc_S_isUse 0 = .ok (.iload_n 0, 1) := by decide +kernel
theorem std_S_isUse_1 : decode stc_S_isUse 1 = .ok (.ifCond .lt 13, 3) := by decide +kernel
theorem std_S_isUse_14 : decode stc_S_isUse 14 = .ok (.iconst 0, 1) := by decide +kernel
theorem std_S_isUse_15 : decode stc_S_isUse 15 = .ok (.ireturn, 1) := by decide +kernel
theorem std_S_isUse_4 : decode stc_S_isUse 4 = .ok (.iload_n 0, 1) := by decide +kernel
theorem std_S_isUse_5 : decode stc_S_isUse 5 = .ok (.bipush 20, 2) := by decide +kernel
theorem std_S_isUse_7 : decode stc_S_isUse 7 = .ok (.if_icmp .gt 7, 3) := by decide +kernel
theorem std_S_isUse_10 : decode stc_S_isUse 10 = .ok (.iconst 1, 1) := by decide +kernel
theorem std_S_isUse_11 : decode stc_S_isUse 11 = .ok (.goto 4, 3) := by decide +kernel
set_option maxHeartbeats 4000000 in
set_option maxRecDepth 100000 in
theorem c_isUse (l : Launch) (dC : Nat → ClassId) (dI : Nat → Nat → Nat) (cI cJ cZ : ClassId) (a : Int) (ka : rI a) : ∀ sz, Met l sty_S_isUse (Cond.code sty_S_isUse stc_S_isUse 1 (some .boolean) :: stGW) ({ frames := 0, cells := 0, slots := 0, locals := 0 } : Room) (va_Pc [.int (iI a)] (zPre (dC, dI) stCl [(cI, .int), (cJ, .long), (cZ, .boolean)] st_nw [] sz)) (va_Qi (fun (r : Int32) (_ : Unit) => r = iI (bI (0 ≤ a ∧ a ≤ 20))) (zPost (dC, dI) stCl [(cI, .int), (cJ, .long), (cZ, .boolean)] [] sz (fun _ : Unit => [])) (va_A [] sz)) 0 0 (va_A [] sz) := by
  refine met_z (by decide) rfl (Nat.le_of_ble_eq_true rfl) ?_
  intro p e s m below meth c A Q C hmn hret
  refine g_iload_n C 0 std_S_isUse_0 rfl ?_
  refine g_if_lt (tgt := 14) C std_S_isUse_1 (by decide) ⟨by omega, by omega⟩ (fun c1 => ?_) (fun c1 => ?_)
  · refine g_iconst C std_S_isUse_14 ?_
    exact hret _ _ _ () (by rw [bI_f (by omega)]) (by decide) std_S_isUse_15
  · refine g_iload_n C 0 std_S_isUse_4 rfl ?_
    refine g_bipush C std_S_isUse_5 (by decide) ?_
    refine g_icmp_gt (tgt := 14) C std_S_isUse_7 (by decide) ⟨by omega, by omega⟩ ⟨by omega, by omega⟩ (fun c2 => ?_) (fun c2 => ?_)
    · refine g_iconst C std_S_isUse_14 ?_
      exact hret _ _ _ () (by rw [bI_f (by omega)]) (by decide) std_S_isUse_15
    · refine g_iconst C std_S_isUse_10 ?_
      refine g_goto (tgt := 15) C std_S_isUse_11 (by decide) ?_
      exact hret _ _ _ () (by rw [bI_t (by omega)]) (by decide) std_S_isUse_15

abbrev sty_S_usedOfFirst : MethodName := ⟨"StateTables", "usedOfFirst", "(I)I"⟩
abbrev stc_S_usedOfFirst : ByteArray := prog_1_method_23_code
theorem sth_S_usedOfFirst : (sty_S_usedOfFirst).cls ≠ "java/lang/invoke/MethodHandle" ∧ (sty_S_usedOfFirst).cls ≠ "java/lang/invoke/VarHandle" ∧ (parseMethodDescriptor (sty_S_usedOfFirst).desc).map (fun d => d.parameters.length) = some 1 := by decide +kernel
theorem std_S_usedOfFirst_0 : decode stc_S_usedOfFirst 0 = .ok (.iload_n 0, 1) := by decide +kernel
theorem std_S_usedOfFirst_1 : decode stc_S_usedOfFirst 1 = .ok (.bipush 9, 2) := by decide +kernel
theorem std_S_usedOfFirst_3 : decode stc_S_usedOfFirst 3 = .ok (.ishr, 1) := by decide +kernel
theorem std_S_usedOfFirst_4 : decode stc_S_usedOfFirst 4 = .ok (.ireturn, 1) := by decide +kernel
set_option maxHeartbeats 4000000 in
set_option maxRecDepth 100000 in
theorem c_usedOfFirst (l : Launch) (dC : Nat → ClassId) (dI : Nat → Nat → Nat) (cI cJ cZ : ClassId) (a : Int) (ka : rI a) : ∀ sz, Met l sty_S_usedOfFirst (Cond.code sty_S_usedOfFirst stc_S_usedOfFirst 1 (some .int) :: stGW) ({ frames := 0, cells := 0, slots := 0, locals := 0 } : Room) (va_Pc [.int (iI a)] (zPre (dC, dI) stCl [(cI, .int), (cJ, .long), (cZ, .boolean)] st_nw [] sz)) (va_Qi (fun (r : Int32) (_ : Unit) => r = iI (a / 512)) (zPost (dC, dI) stCl [(cI, .int), (cJ, .long), (cZ, .boolean)] [] sz (fun _ : Unit => [])) (va_A [] sz)) 0 0 (va_A [] sz) := by
  refine met_i (by decide) rfl (Nat.le_of_ble_eq_true rfl) ?_
  intro p e s m below meth c A Q C hmn hret
  refine g_iload_n C 0 std_S_usedOfFirst_0 rfl ?_
  refine g_bipush C std_S_usedOfFirst_1 (by decide) ?_
  refine g_ishr C (d := 512) std_S_usedOfFirst_3 ⟨by omega, by omega⟩ (by decide) (by decide) (by decide) ?_
  exact hret _ _ _ () (rfl) std_S_usedOfFirst_4

abbrev sty_S_usedOfSecond : MethodName := ⟨"StateTables", "usedOfSecond", "(I)I"⟩
abbrev stc_S_usedOfSecond : ByteArray := prog_1_method_24_code
theorem sth_S_usedOfSecond : (sty_S_usedOfSecond).cls ≠ "java/lang/invoke/MethodHandle" ∧ (sty_S_usedOfSecond).cls ≠ "java/lang/invoke/VarHandle" ∧ (parseMethodDescriptor (sty_S_usedOfSecond).desc).map (fun d => d.parameters.length) = some 1 := by decide +kernel
theorem std_S_usedOfSecond_0 : decode stc_S_usedOfSecond 0 = .ok (.iload_n 0, 1) := by decide +kernel
theorem std_S_usedOfSecond_1 : decode stc_S_usedOfSecond 1 = .ok (.iconst 3, 1) := by decide +kernel
theorem std_S_usedOfSecond_2 : decode stc_S_usedOfSecond 2 = .ok (.ishr, 1) := by decide +kernel
theorem std_S_usedOfSecond_3 : decode stc_S_usedOfSecond 3 = .ok (.bipush 63, 2) := by decide +kernel
theorem std_S_usedOfSecond_5 : decode stc_S_usedOfSecond 5 = .ok (.iand, 1) := by decide +kernel
theorem std_S_usedOfSecond_6 : decode stc_S_usedOfSecond 6 = .ok (.ireturn, 1) := by decide +kernel
set_option maxHeartbeats 4000000 in
set_option maxRecDepth 100000 in
theorem c_usedOfSecond (l : Launch) (dC : Nat → ClassId) (dI : Nat → Nat → Nat) (cI cJ cZ : ClassId) (a : Int) (ka : rI a) : ∀ sz, Met l sty_S_usedOfSecond (Cond.code sty_S_usedOfSecond stc_S_usedOfSecond 1 (some .int) :: stGW) ({ frames := 0, cells := 0, slots := 0, locals := 0 } : Room) (va_Pc [.int (iI a)] (zPre (dC, dI) stCl [(cI, .int), (cJ, .long), (cZ, .boolean)] st_nw [] sz)) (va_Qi (fun (r : Int32) (_ : Unit) => r = iI ((a / 8) % 64)) (zPost (dC, dI) stCl [(cI, .int), (cJ, .long), (cZ, .boolean)] [] sz (fun _ : Unit => [])) (va_A [] sz)) 0 0 (va_A [] sz) := by
  refine met_i (by decide) rfl (Nat.le_of_ble_eq_true rfl) ?_
  intro p e s m below meth c A Q C hmn hret
  refine g_iload_n C 0 std_S_usedOfSecond_0 rfl ?_
  refine g_iconst C std_S_usedOfSecond_1 ?_
  refine g_ishr C (d := 8) std_S_usedOfSecond_2 ⟨by omega, by omega⟩ (by decide) (by decide) (by decide) ?_
  refine g_bipush C std_S_usedOfSecond_3 (by decide) ?_
  refine g_iand C std_S_usedOfSecond_5 (iI_andK (d := 64) 6 (by decide) (by decide) (by decide)) ?_
  exact hret _ _ _ () (rfl) std_S_usedOfSecond_6

abbrev sty_S_lastChoice : MethodName := ⟨"StateTables", "lastChoice", "(I)I"⟩
abbrev stc_S_lastChoice : ByteArray := prog_1_method_25_code
theorem sth_S_lastChoice : (sty_S_lastChoice).cls ≠ "java/lang/invoke/MethodHandle" ∧ (sty_S_lastChoice).cls ≠ "java/lang/invoke/VarHandle" ∧ (parseMethodDescriptor (sty_S_lastChoice).desc).map (fun d => d.parameters.length) = some 1 := by decide +kernel
theorem std_S_lastChoice_0 : decode stc_S_lastChoice 0 = .ok (.iload_n 0, 1) := by decide +kernel
theorem std_S_lastChoice_1 : decode stc_S_lastChoice 1 = .ok (.bipush 7, 2) := by decide +kernel
theorem std_S_lastChoice_3 : decode stc_S_lastChoice 3 = .ok (.iand, 1) := by decide +kernel
theorem std_S_lastChoice_4 : decode stc_S_lastChoice 4 = .ok (.iconst 1, 1) := by decide +kernel
theorem std_S_lastChoice_5 : decode stc_S_lastChoice 5 = .ok (.isub, 1) := by decide +kernel
theorem std_S_lastChoice_6 : decode stc_S_lastChoice 6 = .ok (.ireturn, 1) := by decide +kernel
set_option maxHeartbeats 4000000 in
set_option maxRecDepth 100000 in
theorem c_lastChoice (l : Launch) (dC : Nat → ClassId) (dI : Nat → Nat → Nat) (cI cJ cZ : ClassId) (a : Int)  : ∀ sz, Met l sty_S_lastChoice (Cond.code sty_S_lastChoice stc_S_lastChoice 1 (some .int) :: stGW) ({ frames := 0, cells := 0, slots := 0, locals := 0 } : Room) (va_Pc [.int (iI a)] (zPre (dC, dI) stCl [(cI, .int), (cJ, .long), (cZ, .boolean)] st_nw [] sz)) (va_Qi (fun (r : Int32) (_ : Unit) => r = iI ((a % 8) - 1)) (zPost (dC, dI) stCl [(cI, .int), (cJ, .long), (cZ, .boolean)] [] sz (fun _ : Unit => [])) (va_A [] sz)) 0 0 (va_A [] sz) := by
  refine met_i (by decide) rfl (Nat.le_of_ble_eq_true rfl) ?_
  intro p e s m below meth c A Q C hmn hret
  refine g_iload_n C 0 std_S_lastChoice_0 rfl ?_
  refine g_bipush C std_S_lastChoice_1 (by decide) ?_
  refine g_iand C std_S_lastChoice_3 (iI_andK (d := 8) 3 (by decide) (by decide) (by decide)) ?_
  refine g_iconst C std_S_lastChoice_4 ?_
  refine g_isub C std_S_lastChoice_5 ?_
  exact hret _ _ _ () (rfl) std_S_lastChoice_6

abbrev sty_S_keyOf : MethodName := ⟨"StateTables", "keyOf", "(III)I"⟩
abbrev stc_S_keyOf : ByteArray := prog_1_method_26_code
theorem sth_S_keyOf : (sty_S_keyOf).cls ≠ "java/lang/invoke/MethodHandle" ∧ (sty_S_keyOf).cls ≠ "java/lang/invoke/VarHandle" ∧ (parseMethodDescriptor (sty_S_keyOf).desc).map (fun d => d.parameters.length) = some 3 := by decide +kernel
theorem std_S_keyOf_0 : decode stc_S_keyOf 0 = .ok (.iload_n 0, 1) := by decide +kernel
theorem std_S_keyOf_1 : decode stc_S_keyOf 1 = .ok (.bipush 9, 2) := by decide +kernel
theorem std_S_keyOf_3 : decode stc_S_keyOf 3 = .ok (.ishl, 1) := by decide +kernel
theorem std_S_keyOf_4 : decode stc_S_keyOf 4 = .ok (.iload_n 1, 1) := by decide +kernel
theorem std_S_keyOf_5 : decode stc_S_keyOf 5 = .ok (.iconst 3, 1) := by decide +kernel
theorem std_S_keyOf_6 : decode stc_S_keyOf 6 = .ok (.ishl, 1) := by decide +kernel
theorem std_S_keyOf_7 : decode stc_S_keyOf 7 = .ok (.ior, 1) := by decide +kernel
theorem std_S_keyOf_8 : decode stc_S_keyOf 8 = .ok (.iload_n 2, 1) := by decide +kernel
theorem std_S_keyOf_9 : decode stc_S_keyOf 9 = .ok (.iconst 1, 1) := by decide +kernel
theorem std_S_keyOf_10 : decode stc_S_keyOf 10 = .ok (.iadd, 1) := by decide +kernel
theorem std_S_keyOf_11 : decode stc_S_keyOf 11 = .ok (.ior, 1) := by decide +kernel
theorem std_S_keyOf_12 : decode stc_S_keyOf 12 = .ok (.ireturn, 1) := by decide +kernel
set_option maxHeartbeats 4000000 in
set_option maxRecDepth 100000 in
theorem c_keyOf (l : Launch) (dC : Nat → ClassId) (dI : Nat → Nat → Nat) (cI cJ cZ : ClassId) (a : Int) (b : Int) (d : Int) (ka : 0 ≤ a ∧ a ≤ 1000000) (kb : 0 ≤ b ∧ b ≤ 63) (kd : -1 ≤ d ∧ d ≤ 6) : ∀ sz, Met l sty_S_keyOf (Cond.code sty_S_keyOf stc_S_keyOf 3 (some .int) :: stGW) ({ frames := 0, cells := 0, slots := 0, locals := 0 } : Room) (va_Pc [.int (iI a), .int (iI b), .int (iI d)] (zPre (dC, dI) stCl [(cI, .int), (cJ, .long), (cZ, .boolean)] st_nw [] sz)) (va_Qi (fun (r : Int32) (_ : Unit) => r = iI (((a * 512) + (b * 8)) + (d + 1))) (zPost (dC, dI) stCl [(cI, .int), (cJ, .long), (cZ, .boolean)] [] sz (fun _ : Unit => [])) (va_A [] sz)) 0 0 (va_A [] sz) := by
  refine met_i (by decide) rfl (Nat.le_of_ble_eq_true rfl) ?_
  intro p e s m below meth c A Q C hmn hret
  refine g_iload_n C 0 std_S_keyOf_0 rfl ?_
  refine g_bipush C std_S_keyOf_1 (by decide) ?_
  refine g_ishl C (d := 512) std_S_keyOf_3 (by decide) (by decide) (by decide) ?_
  refine g_iload_n C 1 std_S_keyOf_4 rfl ?_
  refine g_iconst C std_S_keyOf_5 ?_
  refine g_ishl C (d := 8) std_S_keyOf_6 (by decide) (by decide) (by decide) ?_
  refine g_ior C (z := ((a * 512) + (b * 8))) std_S_keyOf_7 (iI_orK (q := a) (d := 512) 9 (by decide) rfl (by omega) (by omega) (by omega) (by omega)) ?_
  refine g_iload_n C 2 std_S_keyOf_8 rfl ?_
  refine g_iconst C std_S_keyOf_9 ?_
  refine g_iadd C std_S_keyOf_10 ?_
  refine g_ior C (z := (((a * 512) + (b * 8)) + (d + 1))) std_S_keyOf_11 (iI_orK (q := a * 64 + b) (d := 8) 3 (by decide) (by omega) (by omega) (by omega) (by omega) (by omega)) ?_
  exact hret _ _ _ () (rfl) std_S_keyOf_12

