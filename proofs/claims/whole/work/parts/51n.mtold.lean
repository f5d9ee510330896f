/-! the model: what is told, next -/
abbrev sty_M_in : MethodName := ⟨"StateTablesModel", "in", "(III)Z"⟩
abbrev stc_M_in : ByteArray := prog_7_method_2_code
theorem sth_M_in : (sty_M_in).cls ≠ "java/lang/invoke/MethodHandle" ∧ (sty_M_in).cls ≠ "java/lang/invoke/VarHandle" ∧ (parseMethodDescriptor (sty_M_in).desc).map (fun d => d.parameters.length) = some 3 := by decide +kernel
theorem std_M_in_0 : decode stc_M_in 0 = .ok (.iload_n 0, 1) := by decide +kernel
theorem std_M_in_1 : decode stc_M_in 1 = .ok (.iload_n 1, 1) := by decide +kernel
theorem std_M_in_2 : decode stc_M_in 2 = .ok (.if_icmp .lt 12, 3) := by decide +kernel
theorem std_M_in_14 : decode stc_M_in 14 = .ok (.iconst 0, 1) := by decide +kernel
theorem std_M_in_15 : decode stc_M_in 15 = .ok (.ireturn, 1) := by decide +kernel
theorem std_M_in_5 : decode stc_M_in 5 = .ok (.iload_n 0, 1) := by decide +kernel
theorem std_M_in_6 : decode stc_M_in 6 = .ok (.iload_n 2, 1) := by decide +kernel
theorem std_M_in_7 : decode stc_M_in 7 = .ok (.if_icmp .gt 7, 3) := by decide +kernel
theorem std_M_in_10 : decode stc_M_in 10 = .ok (.iconst 1, 1) := by decide +kernel
theorem std_M_in_11 : decode stc_M_in 11 = .ok (.goto 4, 3) := by decide +kernel
set_option maxHeartbeats 4000000 in
set_option maxRecDepth 100000 in
theorem c_m_in (l : Launch) (dC : Nat → ClassId) (dI : Nat → Nat → Nat) (cI cJ cZ : ClassId) (a : Int) (b : Int) (d : Int) (ka : rI a) (kb : rI b) (kd : rI d) : ∀ sz, Met l sty_M_in (Cond.code sty_M_in stc_M_in 3 (some .boolean) :: stGW) ({ frames := 0, cells := 0, slots := 0, locals := 0 } : Room) (va_Pc [.int (iI a), .int (iI b), .int (iI d)] (zPre (dC, dI) stCl [(cI, .int), (cJ, .long), (cZ, .boolean)] st_nw [] sz)) (va_Qi (fun (r : Int32) (_ : Unit) => r = iI (bI (b ≤ a ∧ a ≤ d))) (zPost (dC, dI) stCl [(cI, .int), (cJ, .long), (cZ, .boolean)] [] sz (fun _ : Unit => [])) (va_A [] sz)) 0 0 (va_A [] sz) := by
  refine met_z (by decide) rfl (Nat.le_of_ble_eq_true rfl) ?_
  intro p e s m below meth c A Q C hmn hret
  refine g_iload_n C 0 std_M_in_0 rfl ?_
  refine g_iload_n C 1 std_M_in_1 rfl ?_
  refine g_icmp_lt (tgt := 14) C std_M_in_2 (by decide) ⟨by omega, by omega⟩ ⟨by omega, by omega⟩ (fun c1 => ?_) (fun c1 => ?_)
  · refine g_iconst C std_M_in_14 ?_
    exact hret _ _ _ () (by rw [bI_f (by omega)]) (by decide) std_M_in_15
  · refine g_iload_n C 0 std_M_in_5 rfl ?_
    refine g_iload_n C 2 std_M_in_6 rfl ?_
    refine g_icmp_gt (tgt := 14) C std_M_in_7 (by decide) ⟨by omega, by omega⟩ ⟨by omega, by omega⟩ (fun c2 => ?_) (fun c2 => ?_)
    · refine g_iconst C std_M_in_14 ?_
      exact hret _ _ _ () (by rw [bI_f (by omega)]) (by decide) std_M_in_15
    · refine g_iconst C std_M_in_10 ?_
      refine g_goto (tgt := 15) C std_M_in_11 (by decide) ?_
      exact hret _ _ _ () (by rw [bI_t (by omega)]) (by decide) std_M_in_15

abbrev sty_M_place : MethodName := ⟨"StateTablesModel", "place", "(IIII)I"⟩
abbrev stc_M_place : ByteArray := prog_7_method_11_code
theorem sth_M_place : (sty_M_place).cls ≠ "java/lang/invoke/MethodHandle" ∧ (sty_M_place).cls ≠ "java/lang/invoke/VarHandle" ∧ (parseMethodDescriptor (sty_M_place).desc).map (fun d => d.parameters.length) = some 4 := by decide +kernel
theorem std_M_place_0 : decode stc_M_place 0 = .ok (.sipush 11767, 3) := by decide +kernel
theorem std_M_place_3 : decode stc_M_place 3 = .ok (.iload_n 0, 1) := by decide +kernel
theorem std_M_place_4 : decode stc_M_place 4 = .ok (.imul, 1) := by decide +kernel
theorem std_M_place_5 : decode stc_M_place 5 = .ok (.bipush 41, 2) := by decide +kernel
theorem std_M_place_7 : decode stc_M_place 7 = .ok (.iload_n 1, 1) := by decide +kernel
theorem std_M_place_8 : decode stc_M_place 8 = .ok (.imul, 1) := by decide +kernel
theorem std_M_place_9 : decode stc_M_place 9 = .ok (.iload_n 2, 1) := by decide +kernel
theorem std_M_place_10 : decode stc_M_place 10 = .ok (.iadd, 1) := by decide +kernel
theorem std_M_place_11 : decode stc_M_place 11 = .ok (.bipush 7, 2) := by decide +kernel
theorem std_M_place_13 : decode stc_M_place 13 = .ok (.imul, 1) := by decide +kernel
theorem std_M_place_14 : decode stc_M_place 14 = .ok (.iadd, 1) := by decide +kernel
theorem std_M_place_15 : decode stc_M_place 15 = .ok (.iload_n 3, 1) := by decide +kernel
theorem std_M_place_16 : decode stc_M_place 16 = .ok (.iadd, 1) := by decide +kernel
theorem std_M_place_17 : decode stc_M_place 17 = .ok (.iconst 1, 1) := by decide +kernel
theorem std_M_place_18 : decode stc_M_place 18 = .ok (.iadd, 1) := by decide +kernel
theorem std_M_place_19 : decode stc_M_place 19 = .ok (.ireturn, 1) := by decide +kernel
set_option maxHeartbeats 4000000 in
set_option maxRecDepth 100000 in
theorem c_m_place (l : Launch) (dC : Nat → ClassId) (dI : Nat → Nat → Nat) (cI cJ cZ : ClassId) (a : Int) (b : Int) (d : Int) (f : Int)  : ∀ sz, Met l sty_M_place (Cond.code sty_M_place stc_M_place 4 (some .int) :: stGW) ({ frames := 0, cells := 0, slots := 0, locals := 0 } : Room) (va_Pc [.int (iI a), .int (iI b), .int (iI d), .int (iI f)] (zPre (dC, dI) stCl [(cI, .int), (cJ, .long), (cZ, .boolean)] st_nw [] sz)) (va_Qi (fun (r : Int32) (_ : Unit) => r = iI (((((11767 * a) + (((41 * b) + d) * 7)) + f) + 1))) (zPost (dC, dI) stCl [(cI, .int), (cJ, .long), (cZ, .boolean)] [] sz (fun _ : Unit => [])) (va_A [] sz)) 0 0 (va_A [] sz) := by
  refine met_i (by decide) rfl (Nat.le_of_ble_eq_true rfl) ?_
  intro p e s m below meth c A Q C hmn hret
  refine g_sipush C std_M_place_0 (by decide) ?_
  refine g_iload_n C 0 std_M_place_3 rfl ?_
  refine g_imul C std_M_place_4 ?_
  refine g_bipush C std_M_place_5 (by decide) ?_
  refine g_iload_n C 1 std_M_place_7 rfl ?_
  refine g_imul C std_M_place_8 ?_
  refine g_iload_n C 2 std_M_place_9 rfl ?_
  refine g_iadd C std_M_place_10 ?_
  refine g_bipush C std_M_place_11 (by decide) ?_
  refine g_imul C std_M_place_13 ?_
  refine g_iadd C std_M_place_14 ?_
  refine g_iload_n C 3 std_M_place_15 rfl ?_
  refine g_iadd C std_M_place_16 ?_
  refine g_iconst C std_M_place_17 ?_
  refine g_iadd C std_M_place_18 ?_
  exact hret _ _ _ () (rfl) std_M_place_19

abbrev sty_M_lastOf : MethodName := ⟨"StateTablesModel", "lastOf", "(I)I"⟩
abbrev stc_M_lastOf : ByteArray := prog_7_method_12_code
theorem sth_M_lastOf : (sty_M_lastOf).cls ≠ "java/lang/invoke/MethodHandle" ∧ (sty_M_lastOf).cls ≠ "java/lang/invoke/VarHandle" ∧ (parseMethodDescriptor (sty_M_lastOf).desc).map (fun d => d.parameters.length) = some 1 := by decide +kernel
theorem std_M_lastOf_0 : decode stc_M_lastOf 0 = .ok (.iload_n 0, 1) := by decide +kernel
theorem std_M_lastOf_1 : decode stc_M_lastOf 1 = .ok (.bipush 7, 2) := by decide +kernel
theorem std_M_lastOf_3 : decode stc_M_lastOf 3 = .ok (.irem, 1) := by decide +kernel
theorem std_M_lastOf_4 : decode stc_M_lastOf 4 = .ok (.iconst 1, 1) := by decide +kernel
theorem std_M_lastOf_5 : decode stc_M_lastOf 5 = .ok (.isub, 1) := by decide +kernel
theorem std_M_lastOf_6 : decode stc_M_lastOf 6 = .ok (.ireturn, 1) := by decide +kernel
set_option maxHeartbeats 4000000 in
set_option maxRecDepth 100000 in
theorem c_m_lastOf (l : Launch) (dC : Nat → ClassId) (dI : Nat → Nat → Nat) (cI cJ cZ : ClassId) (a : Int) (ka : 0 ≤ a ∧ a < 2147483648) : ∀ sz, Met l sty_M_lastOf (Cond.code sty_M_lastOf stc_M_lastOf 1 (some .int) :: stGW) ({ frames := 0, cells := 0, slots := 0, locals := 0 } : Room) (va_Pc [.int (iI a)] (zPre (dC, dI) stCl [(cI, .int), (cJ, .long), (cZ, .boolean)] st_nw [] sz)) (va_Qi (fun (r : Int32) (_ : Unit) => r = iI (((a % 7) - 1))) (zPost (dC, dI) stCl [(cI, .int), (cJ, .long), (cZ, .boolean)] [] sz (fun _ : Unit => [])) (va_A [] sz)) 0 0 (va_A [] sz) := by
  refine met_i (by decide) rfl (Nat.le_of_ble_eq_true rfl) ?_
  intro p e s m below meth c A Q C hmn hret
  refine g_iload_n C 0 std_M_lastOf_0 rfl ?_
  refine g_bipush C std_M_lastOf_1 (by decide) ?_
  refine g_irem C std_M_lastOf_3 (by omega) (by decide) ?_
  refine g_iconst C std_M_lastOf_4 ?_
  refine g_isub C std_M_lastOf_5 ?_
  exact hret _ _ _ () (rfl) std_M_lastOf_6

abbrev sty_M_bOf : MethodName := ⟨"StateTablesModel", "bOf", "(I)I"⟩
abbrev stc_M_bOf : ByteArray := prog_7_method_13_code
theorem sth_M_bOf : (sty_M_bOf).cls ≠ "java/lang/invoke/MethodHandle" ∧ (sty_M_bOf).cls ≠ "java/lang/invoke/VarHandle" ∧ (parseMethodDescriptor (sty_M_bOf).desc).map (fun d => d.parameters.length) = some 1 := by decide +kernel
theorem std_M_bOf_0 : decode stc_M_bOf 0 = .ok (.iload_n 0, 1) := by decide +kernel
theorem std_M_bOf_1 : decode stc_M_bOf 1 = .ok (.sipush 11767, 3) := by decide +kernel
theorem std_M_bOf_4 : decode stc_M_bOf 4 = .ok (.irem, 1) := by decide +kernel
theorem std_M_bOf_5 : decode stc_M_bOf 5 = .ok (.bipush 7, 2) := by decide +kernel
theorem std_M_bOf_7 : decode stc_M_bOf 7 = .ok (.idiv, 1) := by decide +kernel
theorem std_M_bOf_8 : decode stc_M_bOf 8 = .ok (.bipush 41, 2) := by decide +kernel
theorem std_M_bOf_10 : decode stc_M_bOf 10 = .ok (.irem, 1) := by decide +kernel
theorem std_M_bOf_11 : decode stc_M_bOf 11 = .ok (.ireturn, 1) := by decide +kernel
set_option maxHeartbeats 4000000 in
set_option maxRecDepth 100000 in
theorem c_m_bOf (l : Launch) (dC : Nat → ClassId) (dI : Nat → Nat → Nat) (cI cJ cZ : ClassId) (a : Int) (ka : 0 ≤ a ∧ a < 2147483648) : ∀ sz, Met l sty_M_bOf (Cond.code sty_M_bOf stc_M_bOf 1 (some .int) :: stGW) ({ frames := 0, cells := 0, slots := 0, locals := 0 } : Room) (va_Pc [.int (iI a)] (zPre (dC, dI) stCl [(cI, .int), (cJ, .long), (cZ, .boolean)] st_nw [] sz)) (va_Qi (fun (r : Int32) (_ : Unit) => r = iI ((((a % 11767) / 7) % 41))) (zPost (dC, dI) stCl [(cI, .int), (cJ, .long), (cZ, .boolean)] [] sz (fun _ : Unit => [])) (va_A [] sz)) 0 0 (va_A [] sz) := by
  refine met_i (by decide) rfl (Nat.le_of_ble_eq_true rfl) ?_
  intro p e s m below meth c A Q C hmn hret
  refine g_iload_n C 0 std_M_bOf_0 rfl ?_
  refine g_sipush C std_M_bOf_1 (by decide) ?_
  refine g_irem C std_M_bOf_4 (by omega) (by decide) ?_
  refine g_bipush C std_M_bOf_5 (by decide) ?_
  refine g_idiv C std_M_bOf_7 (by omega) (by decide) ?_
  refine g_bipush C std_M_bOf_8 (by decide) ?_
  refine g_irem C std_M_bOf_10 (by omega) (by decide) ?_
  exact hret _ _ _ () (rfl) std_M_bOf_11

abbrev sty_M_aOf : MethodName := ⟨"StateTablesModel", "aOf", "(I)I"⟩
abbrev stc_M_aOf : ByteArray := prog_7_method_14_code
theorem sth_M_aOf : (sty_M_aOf).cls ≠ "java/lang/invoke/MethodHandle" ∧ (sty_M_aOf).cls ≠ "java/lang/invoke/VarHandle" ∧ (parseMethodDescriptor (sty_M_aOf).desc).map (fun d => d.parameters.length) = some 1 := by decide +kernel
theorem std_M_aOf_0 : decode stc_M_aOf 0 = .ok (.iload_n 0, 1) := by decide +kernel
theorem std_M_aOf_1 : decode stc_M_aOf 1 = .ok (.sipush 11767, 3) := by decide +kernel
theorem std_M_aOf_4 : decode stc_M_aOf 4 = .ok (.irem, 1) := by decide +kernel
theorem std_M_aOf_5 : decode stc_M_aOf 5 = .ok (.bipush 7, 2) := by decide +kernel
theorem std_M_aOf_7 : decode stc_M_aOf 7 = .ok (.idiv, 1) := by decide +kernel
theorem std_M_aOf_8 : decode stc_M_aOf 8 = .ok (.bipush 41, 2) := by decide +kernel
theorem std_M_aOf_10 : decode stc_M_aOf 10 = .ok (.idiv, 1) := by decide +kernel
theorem std_M_aOf_11 : decode stc_M_aOf 11 = .ok (.ireturn, 1) := by decide +kernel
set_option maxHeartbeats 4000000 in
set_option maxRecDepth 100000 in
theorem c_m_aOf (l : Launch) (dC : Nat → ClassId) (dI : Nat → Nat → Nat) (cI cJ cZ : ClassId) (a : Int) (ka : 0 ≤ a ∧ a < 2147483648) : ∀ sz, Met l sty_M_aOf (Cond.code sty_M_aOf stc_M_aOf 1 (some .int) :: stGW) ({ frames := 0, cells := 0, slots := 0, locals := 0 } : Room) (va_Pc [.int (iI a)] (zPre (dC, dI) stCl [(cI, .int), (cJ, .long), (cZ, .boolean)] st_nw [] sz)) (va_Qi (fun (r : Int32) (_ : Unit) => r = iI ((((a % 11767) / 7) / 41))) (zPost (dC, dI) stCl [(cI, .int), (cJ, .long), (cZ, .boolean)] [] sz (fun _ : Unit => [])) (va_A [] sz)) 0 0 (va_A [] sz) := by
  refine met_i (by decide) rfl (Nat.le_of_ble_eq_true rfl) ?_
  intro p e s m below meth c A Q C hmn hret
  refine g_iload_n C 0 std_M_aOf_0 rfl ?_
  refine g_sipush C std_M_aOf_1 (by decide) ?_
  refine g_irem C std_M_aOf_4 (by omega) (by decide) ?_
  refine g_bipush C std_M_aOf_5 (by decide) ?_
  refine g_idiv C std_M_aOf_7 (by omega) (by decide) ?_
  refine g_bipush C std_M_aOf_8 (by decide) ?_
  refine g_idiv C std_M_aOf_10 (by omega) (by decide) ?_
  exact hret _ _ _ () (rfl) std_M_aOf_11

abbrev sty_M_noChoice : MethodName := ⟨"StateTablesModel", "noChoice", "(II)Z"⟩
abbrev stc_M_noChoice : ByteArray := prog_7_method_5_code
theorem sth_M_noChoice : (sty_M_noChoice).cls ≠ "java/lang/invoke/MethodHandle" ∧ (sty_M_noChoice).cls ≠ "java/lang/invoke/VarHandle" ∧ (parseMethodDescriptor (sty_M_noChoice).desc).map (fun d => d.parameters.length) = some 2 := by decide +kernel
theorem std_M_noChoice_0 : decode stc_M_noChoice 0 = .ok (.iload_n 1, 1) := by decide +kernel
theorem std_M_noChoice_1 : decode stc_M_noChoice 1 = .ok (.iconst 0, 1) := by decide +kernel
theorem std_M_noChoice_2 : decode stc_M_noChoice 2 = .ok (.aload_n 0, 1) := by decide +kernel
theorem std_M_noChoice_3 : decode stc_M_noChoice 3 = .ok (.getfield 92, 3) := by decide +kernel
theorem kw_3_67 : Cond.fieldLink "StateTablesModel" 92 "StateTablesModel" "steps" "I" ∈ stGW := st_t3 (List.mem_of_getElem? (i := 67) (by decide +kernel)) (by decide +kernel)
theorem std_M_noChoice_6 : decode stc_M_noChoice 6 = .ok (.iconst 1, 1) := by decide +kernel
theorem std_M_noChoice_7 : decode stc_M_noChoice 7 = .ok (.isub, 1) := by decide +kernel
theorem std_M_noChoice_8 : decode stc_M_noChoice 8 = .ok (.invokestatic 100, 3) := by decide +kernel
theorem kw_3_187 : Cond.code sty_M_in stc_M_in 3 (some .boolean) ∈ stGW := st_t3 (List.mem_of_getElem? (i := 187) (by decide +kernel)) (by decide +kernel)
theorem kw_1_6 : Cond.initialized "StateTablesModel" ∈ stGW := st_t1 (List.mem_of_getElem? (i := 6) (by decide +kernel)) (by decide +kernel)
theorem kw_3_185 : Cond.methodLink "StateTablesModel" 100 (sty_M_in) ∈ stGW := st_t3 (List.mem_of_getElem? (i := 185) (by decide +kernel)) (by decide +kernel)
theorem kw_3_186 : Cond.static (sty_M_in) ∈ stGW := st_t3 (List.mem_of_getElem? (i := 186) (by decide +kernel)) (by decide +kernel)
theorem std_M_noChoice_11 : decode stc_M_noChoice 11 = .ok (.ifCond .eq 19, 3) := by decide +kernel
theorem std_M_noChoice_30 : decode stc_M_noChoice 30 = .ok (.iconst 1, 1) := by decide +kernel
theorem std_M_noChoice_31 : decode stc_M_noChoice 31 = .ok (.goto 4, 3) := by decide +kernel
theorem std_M_noChoice_35 : decode stc_M_noChoice 35 = .ok (.ireturn, 1) := by decide +kernel
theorem std_M_noChoice_14 : decode stc_M_noChoice 14 = .ok (.iload_n 2, 1) := by decide +kernel
theorem std_M_noChoice_15 : decode stc_M_noChoice 15 = .ok (.iconst 0, 1) := by decide +kernel
theorem std_M_noChoice_16 : decode stc_M_noChoice 16 = .ok (.aload_n 0, 1) := by decide +kernel
theorem std_M_noChoice_17 : decode stc_M_noChoice 17 = .ok (.getfield 13, 3) := by decide +kernel
theorem kw_3_68 : Cond.fieldLink "StateTablesModel" 13 "StateTablesModel" "choices" "[I" ∈ stGW := st_t3 (List.mem_of_getElem? (i := 68) (by decide +kernel)) (by decide +kernel)
theorem std_M_noChoice_20 : decode stc_M_noChoice 20 = .ok (.iload_n 1, 1) := by decide +kernel
theorem std_M_noChoice_21 : decode stc_M_noChoice 21 = .ok (.iaload, 1) := by decide +kernel
theorem std_M_noChoice_22 : decode stc_M_noChoice 22 = .ok (.iconst 1, 1) := by decide +kernel
theorem std_M_noChoice_23 : decode stc_M_noChoice 23 = .ok (.isub, 1) := by decide +kernel
theorem std_M_noChoice_24 : decode stc_M_noChoice 24 = .ok (.invokestatic 100, 3) := by decide +kernel
theorem std_M_noChoice_27 : decode stc_M_noChoice 27 = .ok (.ifCond .ne 7, 3) := by decide +kernel
theorem std_M_noChoice_34 : decode stc_M_noChoice 34 = .ok (.iconst 0, 1) := by decide +kernel
set_option maxHeartbeats 4000000 in
set_option maxRecDepth 100000 in
theorem c_m_noChoice (l : Launch) (dC : Nat → ClassId) (dI : Nat → Nat → Nat) (cI cJ cZ : ClassId) (m0 : Nat) (k_ch : Nat) (k_co : Nat) (k_ua : Nat) (k_ub : Nat) (k_ba : Nat) (k_rt : Nat) (k_rf : Nat) (k_ct : Nat) (k_cf : Nat) (k_nd : Nat) (k_na : Nat) (k_no : Nat) (k_bt : Nat) (k_bc : Nat) (k_br : Nat) (k_pc : Nat) (k_pr : Nat) (k_la : Nat) (k_lb : Nat) (k_ha : Nat) (k_hb : Nat) (k_ls : Nat) (k_wc : Nat) (HM : Prop) (bg : Int) (pn : Int) (wd : Int) (mg : Int) (mw : Int) (mc : Int) (steps : Int) (fsz : Int → Int) (fle : Int → Int) (fmo : Int → Int) (a : Int) (b : Int) (kst : 0 ≤ steps ∧ steps ≤ 12) (ksz : ∀ j, 0 ≤ j → j < 12 → 0 ≤ fsz j ∧ fsz j ≤ 6) (ka : rI a) (kb : rI b) : ∀ sz, Met l sty_M_noChoice (Cond.code sty_M_noChoice stc_M_noChoice 3 (some .boolean) :: stGW) ({ frames := 1, cells := 0, slots := 0, locals := 22 } : Room) (va_Pc [.ref m0, .int (iI a), .int (iI b)] (zPre (dC, dI) stCl [(cI, .int), (cJ, .long), (cZ, .boolean)] st_nw [(m0, .inr (5, [.int (iI 0), .int (iI steps), .ref k_ch, .ref k_co, .ref k_ua, .ref k_ub, .ref k_ba, .int (iI (fle 0)), .int (iI (fle 1)), .int (iI (fmo 0)), .int (iI (fmo 1)), .int (iI (bI HM)), .ref k_rt, .ref k_rf, .ref k_ct, .ref k_cf, .ref k_nd, .ref k_na, .ref k_no, .ref k_bt, .ref k_bc, .ref k_br, .int (iI bg), .int (iI pn), .ref k_pc, .ref k_pr, .ref k_la, .ref k_lb, .ref k_ha, .ref k_hb, .ref k_ls, .ref k_wc, .int (iI wd), .int (iI mg), .int (iI mw), .int (iI mc)])), (k_ch, .inl (cI, aI 13 fsz))] sz)) (va_Qi (fun (r : Int32) (_ : Unit) => r = iI (bI (¬ ((0 ≤ a ∧ a ≤ steps - 1) ∧ 0 ≤ b ∧ b ≤ fsz a - 1)))) (zPost (dC, dI) stCl [(cI, .int), (cJ, .long), (cZ, .boolean)] [(m0, .inr (5, [.int (iI 0), .int (iI steps), .ref k_ch, .ref k_co, .ref k_ua, .ref k_ub, .ref k_ba, .int (iI (fle 0)), .int (iI (fle 1)), .int (iI (fmo 0)), .int (iI (fmo 1)), .int (iI (bI HM)), .ref k_rt, .ref k_rf, .ref k_ct, .ref k_cf, .ref k_nd, .ref k_na, .ref k_no, .ref k_bt, .ref k_bc, .ref k_br, .int (iI bg), .int (iI pn), .ref k_pc, .ref k_pr, .ref k_la, .ref k_lb, .ref k_ha, .ref k_hb, .ref k_ls, .ref k_wc, .int (iI wd), .int (iI mg), .int (iI mw), .int (iI mc)])), (k_ch, .inl (cI, aI 13 fsz))] sz (fun _ : Unit => [(m0, .inr (5, [.int (iI 0), .int (iI steps), .ref k_ch, .ref k_co, .ref k_ua, .ref k_ub, .ref k_ba, .int (iI (fle 0)), .int (iI (fle 1)), .int (iI (fmo 0)), .int (iI (fmo 1)), .int (iI (bI HM)), .ref k_rt, .ref k_rf, .ref k_ct, .ref k_cf, .ref k_nd, .ref k_na, .ref k_no, .ref k_bt, .ref k_bc, .ref k_br, .int (iI bg), .int (iI pn), .ref k_pc, .ref k_pr, .ref k_la, .ref k_lb, .ref k_ha, .ref k_hb, .ref k_ls, .ref k_wc, .int (iI wd), .int (iI mg), .int (iI mw), .int (iI mc)])), (k_ch, .inl (cI, aI 13 fsz))])) (va_A [(m0, .inr (5, [.int (iI 0), .int (iI steps), .ref k_ch, .ref k_co, .ref k_ua, .ref k_ub, .ref k_ba, .int (iI (fle 0)), .int (iI (fle 1)), .int (iI (fmo 0)), .int (iI (fmo 1)), .int (iI (bI HM)), .ref k_rt, .ref k_rf, .ref k_ct, .ref k_cf, .ref k_nd, .ref k_na, .ref k_no, .ref k_bt, .ref k_bc, .ref k_br, .int (iI bg), .int (iI pn), .ref k_pc, .ref k_pr, .ref k_la, .ref k_lb, .ref k_ha, .ref k_hb, .ref k_ls, .ref k_wc, .int (iI wd), .int (iI mg), .int (iI mw), .int (iI mc)])), (k_ch, .inl (cI, aI 13 fsz))] sz)) 0 0 (va_A [(m0, .inr (5, [.int (iI 0), .int (iI steps), .ref k_ch, .ref k_co, .ref k_ua, .ref k_ub, .ref k_ba, .int (iI (fle 0)), .int (iI (fle 1)), .int (iI (fmo 0)), .int (iI (fmo 1)), .int (iI (bI HM)), .ref k_rt, .ref k_rf, .ref k_ct, .ref k_cf, .ref k_nd, .ref k_na, .ref k_no, .ref k_bt, .ref k_bc, .ref k_br, .int (iI bg), .int (iI pn), .ref k_pc, .ref k_pr, .ref k_la, .ref k_lb, .ref k_ha, .ref k_hb, .ref k_ls, .ref k_wc, .int (iI wd), .int (iI mg), .int (iI mw), .int (iI mc)])), (k_ch, .inl (cI, aI 13 fsz))] sz) := by
  refine met_z (by decide) rfl (Nat.le_of_ble_eq_true rfl) ?_
  intro p e s m below meth c A Q C hmn hret
  refine g_iload_n C 1 std_M_noChoice_0 rfl ?_
  refine g_iconst C std_M_noChoice_1 ?_
  refine g_aload_n C 0 std_M_noChoice_2 rfl ?_
  refine g_get C (st_sub sti_M) 0 rfl rfl 1 (by decide) (List.mem_cons_of_mem _ kw_3_67) rfl rfl std_M_noChoice_3 ?_
  refine g_iconst C std_M_noChoice_6 ?_
  refine g_isub C std_M_noChoice_7 ?_
  refine g_S_i (wc := []) (wr := [(m0, .inr (5, [.int (iI 0), .int (iI steps), .ref k_ch, .ref k_co, .ref k_ua, .ref k_ub, .ref k_ba, .int (iI (fle 0)), .int (iI (fle 1)), .int (iI (fmo 0)), .int (iI (fmo 1)), .int (iI (bI HM)), .ref k_rt, .ref k_rf, .ref k_ct, .ref k_cf, .ref k_nd, .ref k_na, .ref k_no, .ref k_bt, .ref k_bc, .ref k_br, .int (iI bg), .int (iI pn), .ref k_pc, .ref k_pr, .ref k_la, .ref k_lb, .ref k_ha, .ref k_hb, .ref k_ls, .ref k_wc, .int (iI wd), .int (iI mg), .int (iI mw), .int (iI mc)])), (k_ch, .inl (cI, aI 13 fsz))]) (rest := []) C (c_m_in l dC dI cI cJ cZ a 0 (steps - 1) (by unfold rI at *; omega) (by unfold rI at *; omega) (by unfold rI at *; omega)) (st_cS C kw_3_187 kw_3_185 kw_1_6 kw_3_186 sth_M_in ⟨Nat.le_of_ble_eq_true rfl, Nat.le_of_ble_eq_true rfl⟩) rfl rfl (Nat.le_of_ble_eq_true rfl) std_M_noChoice_8 ⟨Nat.le_of_ble_eq_true rfl, Nat.le_of_ble_eq_true rfl⟩ [] [0, 1] rfl rfl rfl rfl (by decide) (fun r1 u2 h3 => ?_)
  subst h3
  refine g_ws (ws' := [(m0, .inr (5, [.int (iI 0), .int (iI steps), .ref k_ch, .ref k_co, .ref k_ua, .ref k_ub, .ref k_ba, .int (iI (fle 0)), .int (iI (fle 1)), .int (iI (fmo 0)), .int (iI (fmo 1)), .int (iI (bI HM)), .ref k_rt, .ref k_rf, .ref k_ct, .ref k_cf, .ref k_nd, .ref k_na, .ref k_no, .ref k_bt, .ref k_bc, .ref k_br, .int (iI bg), .int (iI pn), .ref k_pc, .ref k_pr, .ref k_la, .ref k_lb, .ref k_ha, .ref k_hb, .ref k_ls, .ref k_wc, .int (iI wd), .int (iI mg), .int (iI mw), .int (iI mc)])), (k_ch, .inl (cI, aI 13 fsz))]) rfl ?_
  refine g_ifeq_b (tgt := 30) C std_M_noChoice_11 (by decide) (fun c4 => ?_) (fun c4 => ?_)
  · refine g_iconst C std_M_noChoice_30 ?_
    refine g_goto (tgt := 35) C std_M_noChoice_31 (by decide) ?_
    refine g_wide (k := 0) (n := 0) (Nat.le_of_ble_eq_true rfl) (Nat.le_of_ble_eq_true rfl) ?_
    exact hret _ _ _ () (by rw [bI_t (by omega)]) (by decide) std_M_noChoice_35
  · have hq := ksz a (by omega) (by omega)
    refine g_iload_n C 2 std_M_noChoice_14 rfl ?_
    refine g_iconst C std_M_noChoice_15 ?_
    refine g_aload_n C 0 std_M_noChoice_16 rfl ?_
    refine g_get C (st_sub sti_M) 0 rfl rfl 2 (by decide) (List.mem_cons_of_mem _ kw_3_68) rfl rfl std_M_noChoice_17 ?_
    refine g_iload_n C 1 std_M_noChoice_20 rfl ?_
    refine g_iald C 1 0 rfl rfl (by omega) (by omega) (by omega) std_M_noChoice_21 ?_
    refine g_iconst C std_M_noChoice_22 ?_
    refine g_isub C std_M_noChoice_23 ?_
    refine g_S_i (wc := []) (wr := [(m0, .inr (5, [.int (iI 0), .int (iI steps), .ref k_ch, .ref k_co, .ref k_ua, .ref k_ub, .ref k_ba, .int (iI (fle 0)), .int (iI (fle 1)), .int (iI (fmo 0)), .int (iI (fmo 1)), .int (iI (bI HM)), .ref k_rt, .ref k_rf, .ref k_ct, .ref k_cf, .ref k_nd, .ref k_na, .ref k_no, .ref k_bt, .ref k_bc, .ref k_br, .int (iI bg), .int (iI pn), .ref k_pc, .ref k_pr, .ref k_la, .ref k_lb, .ref k_ha, .ref k_hb, .ref k_ls, .ref k_wc, .int (iI wd), .int (iI mg), .int (iI mw), .int (iI mc)])), (k_ch, .inl (cI, aI 13 fsz))]) (rest := []) C (c_m_in l dC dI cI cJ cZ b 0 ((fsz a) - 1) (by unfold rI at *; omega) (by unfold rI at *; omega) (by unfold rI at *; omega)) (st_cS C kw_3_187 kw_3_185 kw_1_6 kw_3_186 sth_M_in ⟨Nat.le_of_ble_eq_true rfl, Nat.le_of_ble_eq_true rfl⟩) rfl rfl (Nat.le_of_ble_eq_true rfl) std_M_noChoice_24 ⟨Nat.le_of_ble_eq_true rfl, Nat.le_of_ble_eq_true rfl⟩ [] [0, 1] rfl rfl rfl rfl (by decide) (fun r5 u6 h7 => ?_)
    subst h7
    refine g_ws (ws' := [(m0, .inr (5, [.int (iI 0), .int (iI steps), .ref k_ch, .ref k_co, .ref k_ua, .ref k_ub, .ref k_ba, .int (iI (fle 0)), .int (iI (fle 1)), .int (iI (fmo 0)), .int (iI (fmo 1)), .int (iI (bI HM)), .ref k_rt, .ref k_rf, .ref k_ct, .ref k_cf, .ref k_nd, .ref k_na, .ref k_no, .ref k_bt, .ref k_bc, .ref k_br, .int (iI bg), .int (iI pn), .ref k_pc, .ref k_pr, .ref k_la, .ref k_lb, .ref k_ha, .ref k_hb, .ref k_ls, .ref k_wc, .int (iI wd), .int (iI mg), .int (iI mw), .int (iI mc)])), (k_ch, .inl (cI, aI 13 fsz))]) rfl ?_
    refine g_ifne_b (tgt := 34) C std_M_noChoice_27 (by decide) (fun c8 => ?_) (fun c8 => ?_)
    · refine g_iconst C std_M_noChoice_34 ?_
      refine g_wide (k := 0) (n := 0) (Nat.le_of_ble_eq_true rfl) (Nat.le_of_ble_eq_true rfl) ?_
      exact hret _ _ _ () (by rw [bI_f (by omega)]) (by decide) std_M_noChoice_35
    · refine g_iconst C std_M_noChoice_30 ?_
      refine g_goto (tgt := 35) C std_M_noChoice_31 (by decide) ?_
      refine g_wide (k := 0) (n := 0) (Nat.le_of_ble_eq_true rfl) (Nat.le_of_ble_eq_true rfl) ?_
      exact hret _ _ _ () (by rw [bI_t (by omega)]) (by decide) std_M_noChoice_35

abbrev sty_M_pair : MethodName := ⟨"StateTablesModel", "pair", "(III)I"⟩
abbrev stc_M_pair : ByteArray := prog_7_method_9_code
theorem sth_M_pair : (sty_M_pair).cls ≠ "java/lang/invoke/MethodHandle" ∧ (sty_M_pair).cls ≠ "java/lang/invoke/VarHandle" ∧ (parseMethodDescriptor (sty_M_pair).desc).map (fun d => d.parameters.length) = some 3 := by decide +kernel
theorem std_M_pair_0 : decode stc_M_pair 0 = .ok (.bipush 36, 2) := by decide +kernel
theorem std_M_pair_2 : decode stc_M_pair 2 = .ok (.iload_n 1, 1) := by decide +kernel
theorem std_M_pair_3 : decode stc_M_pair 3 = .ok (.imul, 1) := by decide +kernel
theorem std_M_pair_4 : decode stc_M_pair 4 = .ok (.bipush 6, 2) := by decide +kernel
theorem std_M_pair_6 : decode stc_M_pair 6 = .ok (.iload_n 2, 1) := by decide +kernel
theorem std_M_pair_7 : decode stc_M_pair 7 = .ok (.imul, 1) := by decide +kernel
theorem std_M_pair_8 : decode stc_M_pair 8 = .ok (.iadd, 1) := by decide +kernel
theorem std_M_pair_9 : decode stc_M_pair 9 = .ok (.iload_n 3, 1) := by decide +kernel
theorem std_M_pair_10 : decode stc_M_pair 10 = .ok (.iadd, 1) := by decide +kernel
theorem std_M_pair_11 : decode stc_M_pair 11 = .ok (.ireturn, 1) := by decide +kernel
set_option maxHeartbeats 4000000 in
set_option maxRecDepth 100000 in
theorem c_m_pair (l : Launch) (dC : Nat → ClassId) (dI : Nat → Nat → Nat) (cI cJ cZ : ClassId) (m0 : Nat) (k_ch : Nat) (k_co : Nat) (k_ua : Nat) (k_ub : Nat) (k_ba : Nat) (k_rt : Nat) (k_rf : Nat) (k_ct : Nat) (k_cf : Nat) (k_nd : Nat) (k_na : Nat) (k_no : Nat) (k_bt : Nat) (k_bc : Nat) (k_br : Nat) (k_pc : Nat) (k_pr : Nat) (k_la : Nat) (k_lb : Nat) (k_ha : Nat) (k_hb : Nat) (k_ls : Nat) (k_wc : Nat) (HM : Prop) (bg : Int) (pn : Int) (wd : Int) (mg : Int) (mw : Int) (mc : Int) (steps : Int) (fle : Int → Int) (fmo : Int → Int) (a : Int) (b : Int) (d : Int)  : ∀ sz, Met l sty_M_pair (Cond.code sty_M_pair stc_M_pair 4 (some .int) :: stGW) ({ frames := 0, cells := 0, slots := 0, locals := 0 } : Room) (va_Pc [.ref m0, .int (iI a), .int (iI b), .int (iI d)] (zPre (dC, dI) stCl [(cI, .int), (cJ, .long), (cZ, .boolean)] st_nw [(m0, .inr (5, [.int (iI 0), .int (iI steps), .ref k_ch, .ref k_co, .ref k_ua, .ref k_ub, .ref k_ba, .int (iI (fle 0)), .int (iI (fle 1)), .int (iI (fmo 0)), .int (iI (fmo 1)), .int (iI (bI HM)), .ref k_rt, .ref k_rf, .ref k_ct, .ref k_cf, .ref k_nd, .ref k_na, .ref k_no, .ref k_bt, .ref k_bc, .ref k_br, .int (iI bg), .int (iI pn), .ref k_pc, .ref k_pr, .ref k_la, .ref k_lb, .ref k_ha, .ref k_hb, .ref k_ls, .ref k_wc, .int (iI wd), .int (iI mg), .int (iI mw), .int (iI mc)]))] sz)) (va_Qi (fun (r : Int32) (_ : Unit) => r = iI ((((36 * a) + (6 * b)) + d))) (zPost (dC, dI) stCl [(cI, .int), (cJ, .long), (cZ, .boolean)] [(m0, .inr (5, [.int (iI 0), .int (iI steps), .ref k_ch, .ref k_co, .ref k_ua, .ref k_ub, .ref k_ba, .int (iI (fle 0)), .int (iI (fle 1)), .int (iI (fmo 0)), .int (iI (fmo 1)), .int (iI (bI HM)), .ref k_rt, .ref k_rf, .ref k_ct, .ref k_cf, .ref k_nd, .ref k_na, .ref k_no, .ref k_bt, .ref k_bc, .ref k_br, .int (iI bg), .int (iI pn), .ref k_pc, .ref k_pr, .ref k_la, .ref k_lb, .ref k_ha, .ref k_hb, .ref k_ls, .ref k_wc, .int (iI wd), .int (iI mg), .int (iI mw), .int (iI mc)]))] sz (fun _ : Unit => [(m0, .inr (5, [.int (iI 0), .int (iI steps), .ref k_ch, .ref k_co, .ref k_ua, .ref k_ub, .ref k_ba, .int (iI (fle 0)), .int (iI (fle 1)), .int (iI (fmo 0)), .int (iI (fmo 1)), .int (iI (bI HM)), .ref k_rt, .ref k_rf, .ref k_ct, .ref k_cf, .ref k_nd, .ref k_na, .ref k_no, .ref k_bt, .ref k_bc, .ref k_br, .int (iI bg), .int (iI pn), .ref k_pc, .ref k_pr, .ref k_la, .ref k_lb, .ref k_ha, .ref k_hb, .ref k_ls, .ref k_wc, .int (iI wd), .int (iI mg), .int (iI mw), .int (iI mc)]))])) (va_A [(m0, .inr (5, [.int (iI 0), .int (iI steps), .ref k_ch, .ref k_co, .ref k_ua, .ref k_ub, .ref k_ba, .int (iI (fle 0)), .int (iI (fle 1)), .int (iI (fmo 0)), .int (iI (fmo 1)), .int (iI (bI HM)), .ref k_rt, .ref k_rf, .ref k_ct, .ref k_cf, .ref k_nd, .ref k_na, .ref k_no, .ref k_bt, .ref k_bc, .ref k_br, .int (iI bg), .int (iI pn), .ref k_pc, .ref k_pr, .ref k_la, .ref k_lb, .ref k_ha, .ref k_hb, .ref k_ls, .ref k_wc, .int (iI wd), .int (iI mg), .int (iI mw), .int (iI mc)]))] sz)) 0 0 (va_A [(m0, .inr (5, [.int (iI 0), .int (iI steps), .ref k_ch, .ref k_co, .ref k_ua, .ref k_ub, .ref k_ba, .int (iI (fle 0)), .int (iI (fle 1)), .int (iI (fmo 0)), .int (iI (fmo 1)), .int (iI (bI HM)), .ref k_rt, .ref k_rf, .ref k_ct, .ref k_cf, .ref k_nd, .ref k_na, .ref k_no, .ref k_bt, .ref k_bc, .ref k_br, .int (iI bg), .int (iI pn), .ref k_pc, .ref k_pr, .ref k_la, .ref k_lb, .ref k_ha, .ref k_hb, .ref k_ls, .ref k_wc, .int (iI wd), .int (iI mg), .int (iI mw), .int (iI mc)]))] sz) := by
  refine met_i (by decide) rfl (Nat.le_of_ble_eq_true rfl) ?_
  intro p e s m below meth c A Q C hmn hret
  refine g_bipush C std_M_pair_0 (by decide) ?_
  refine g_iload_n C 1 std_M_pair_2 rfl ?_
  refine g_imul C std_M_pair_3 ?_
  refine g_bipush C std_M_pair_4 (by decide) ?_
  refine g_iload_n C 2 std_M_pair_6 rfl ?_
  refine g_imul C std_M_pair_7 ?_
  refine g_iadd C std_M_pair_8 ?_
  refine g_iload_n C 3 std_M_pair_9 rfl ?_
  refine g_iadd C std_M_pair_10 ?_
  exact hret _ _ _ () (rfl) std_M_pair_11

abbrev sty_M_next : MethodName := ⟨"StateTablesModel", "next", "(II)I"⟩
abbrev stc_M_next : ByteArray := prog_7_method_15_code
theorem sth_M_next : (sty_M_next).cls ≠ "java/lang/invoke/MethodHandle" ∧ (sty_M_next).cls ≠ "java/lang/invoke/VarHandle" ∧ (parseMethodDescriptor (sty_M_next).desc).map (fun d => d.parameters.length) = some 2 := by decide +kernel
theorem std_M_next_0 : decode stc_M_next 0 = .ok (.iload_n 1, 1) := by decide +kernel
theorem std_M_next_1 : decode stc_M_next 1 = .ok (.sipush 11767, 3) := by decide +kernel
theorem std_M_next_4 : decode stc_M_next 4 = .ok (.idiv, 1) := by decide +kernel
theorem std_M_next_5 : decode stc_M_next 5 = .ok (.istore_n 3, 1) := by decide +kernel
theorem std_M_next_6 : decode stc_M_next 6 = .ok (.bipush 6, 2) := by decide +kernel
theorem std_M_next_8 : decode stc_M_next 8 = .ok (.iload_n 3, 1) := by decide +kernel
theorem std_M_next_9 : decode stc_M_next 9 = .ok (.imul, 1) := by decide +kernel
theorem std_M_next_10 : decode stc_M_next 10 = .ok (.iload_n 2, 1) := by decide +kernel
theorem std_M_next_11 : decode stc_M_next 11 = .ok (.iadd, 1) := by decide +kernel
theorem std_M_next_12 : decode stc_M_next 12 = .ok (.istore 4, 2) := by decide +kernel
theorem std_M_next_14 : decode stc_M_next 14 = .ok (.iload_n 1, 1) := by decide +kernel
theorem std_M_next_15 : decode stc_M_next 15 = .ok (.invokestatic 119, 3) := by decide +kernel
theorem kw_3_227 : Cond.code sty_M_lastOf stc_M_lastOf 1 (some .int) ∈ stGW := st_t3 (List.mem_of_getElem? (i := 227) (by decide +kernel)) (by decide +kernel)
theorem kw_3_225 : Cond.methodLink "StateTablesModel" 119 (sty_M_lastOf) ∈ stGW := st_t3 (List.mem_of_getElem? (i := 225) (by decide +kernel)) (by decide +kernel)
theorem kw_3_226 : Cond.static (sty_M_lastOf) ∈ stGW := st_t3 (List.mem_of_getElem? (i := 226) (by decide +kernel)) (by decide +kernel)
theorem std_M_next_18 : decode stc_M_next 18 = .ok (.ifCond .lt 27, 3) := by decide +kernel
theorem std_M_next_45 : decode stc_M_next 45 = .ok (.iconst 0, 1) := by decide +kernel
theorem std_M_next_46 : decode stc_M_next 46 = .ok (.istore 5, 2) := by decide +kernel
theorem std_M_next_48 : decode stc_M_next 48 = .ok (.iload_n 1, 1) := by decide +kernel
theorem std_M_next_49 : decode stc_M_next 49 = .ok (.invokestatic 123, 3) := by decide +kernel
theorem kw_3_230 : Cond.code sty_M_aOf stc_M_aOf 1 (some .int) ∈ stGW := st_t3 (List.mem_of_getElem? (i := 230) (by decide +kernel)) (by decide +kernel)
theorem kw_3_228 : Cond.methodLink "StateTablesModel" 123 (sty_M_aOf) ∈ stGW := st_t3 (List.mem_of_getElem? (i := 228) (by decide +kernel)) (by decide +kernel)
theorem kw_3_229 : Cond.static (sty_M_aOf) ∈ stGW := st_t3 (List.mem_of_getElem? (i := 229) (by decide +kernel)) (by decide +kernel)
theorem std_M_next_52 : decode stc_M_next 52 = .ok (.aload_n 0, 1) := by decide +kernel
theorem std_M_next_53 : decode stc_M_next 53 = .ok (.getfield 20, 3) := by decide +kernel
theorem kw_3_70 : Cond.fieldLink "StateTablesModel" 20 "StateTablesModel" "useA" "[I" ∈ stGW := st_t3 (List.mem_of_getElem? (i := 70) (by decide +kernel)) (by decide +kernel)
theorem std_M_next_56 : decode stc_M_next 56 = .ok (.iload 4, 2) := by decide +kernel
theorem std_M_next_58 : decode stc_M_next 58 = .ok (.iaload, 1) := by decide +kernel
theorem std_M_next_59 : decode stc_M_next 59 = .ok (.iadd, 1) := by decide +kernel
theorem std_M_next_60 : decode stc_M_next 60 = .ok (.istore 6, 2) := by decide +kernel
theorem std_M_next_62 : decode stc_M_next 62 = .ok (.iload_n 1, 1) := by decide +kernel
theorem std_M_next_63 : decode stc_M_next 63 = .ok (.invokestatic 126, 3) := by decide +kernel
theorem kw_3_233 : Cond.code sty_M_bOf stc_M_bOf 1 (some .int) ∈ stGW := st_t3 (List.mem_of_getElem? (i := 233) (by decide +kernel)) (by decide +kernel)
theorem kw_3_231 : Cond.methodLink "StateTablesModel" 126 (sty_M_bOf) ∈ stGW := st_t3 (List.mem_of_getElem? (i := 231) (by decide +kernel)) (by decide +kernel)
theorem kw_3_232 : Cond.static (sty_M_bOf) ∈ stGW := st_t3 (List.mem_of_getElem? (i := 232) (by decide +kernel)) (by decide +kernel)
theorem std_M_next_66 : decode stc_M_next 66 = .ok (.aload_n 0, 1) := by decide +kernel
theorem std_M_next_67 : decode stc_M_next 67 = .ok (.getfield 23, 3) := by decide +kernel
theorem kw_3_71 : Cond.fieldLink "StateTablesModel" 23 "StateTablesModel" "useB" "[I" ∈ stGW := st_t3 (List.mem_of_getElem? (i := 71) (by decide +kernel)) (by decide +kernel)
theorem std_M_next_70 : decode stc_M_next 70 = .ok (.iload 4, 2) := by decide +kernel
theorem std_M_next_72 : decode stc_M_next 72 = .ok (.iaload, 1) := by decide +kernel
theorem std_M_next_73 : decode stc_M_next 73 = .ok (.iadd, 1) := by decide +kernel
theorem std_M_next_74 : decode stc_M_next 74 = .ok (.istore 7, 2) := by decide +kernel
theorem std_M_next_76 : decode stc_M_next 76 = .ok (.iload 5, 2) := by decide +kernel
theorem std_M_next_78 : decode stc_M_next 78 = .ok (.ifCond .ne 21, 3) := by decide +kernel
theorem std_M_next_81 : decode stc_M_next 81 = .ok (.iload 6, 2) := by decide +kernel
theorem std_M_next_83 : decode stc_M_next 83 = .ok (.aload_n 0, 1) := by decide +kernel
theorem std_M_next_84 : decode stc_M_next 84 = .ok (.getfield 30, 3) := by decide +kernel
theorem kw_3_75 : Cond.fieldLink "StateTablesModel" 30 "StateTablesModel" "mostA" "I" ∈ stGW := st_t3 (List.mem_of_getElem? (i := 75) (by decide +kernel)) (by decide +kernel)
theorem std_M_next_87 : decode stc_M_next 87 = .ok (.if_icmp .gt 12, 3) := by decide +kernel
theorem std_M_next_99 : decode stc_M_next 99 = .ok (.ldc 129, 2) := by decide +kernel
theorem kw_3_234 : Cond.constant "StateTablesModel" 129 (-1000000) ∈ stGW := st_t3 (List.mem_of_getElem? (i := 234) (by decide +kernel)) (by decide +kernel)
theorem std_M_next_101 : decode stc_M_next 101 = .ok (.goto 14, 3) := by decide +kernel
theorem std_M_next_115 : decode stc_M_next 115 = .ok (.ireturn, 1) := by decide +kernel
theorem std_M_next_90 : decode stc_M_next 90 = .ok (.iload 7, 2) := by decide +kernel
theorem std_M_next_92 : decode stc_M_next 92 = .ok (.aload_n 0, 1) := by decide +kernel
theorem std_M_next_93 : decode stc_M_next 93 = .ok (.getfield 33, 3) := by decide +kernel
theorem kw_3_76 : Cond.fieldLink "StateTablesModel" 33 "StateTablesModel" "mostB" "I" ∈ stGW := st_t3 (List.mem_of_getElem? (i := 76) (by decide +kernel)) (by decide +kernel)
theorem std_M_next_96 : decode stc_M_next 96 = .ok (.if_icmp .le 8, 3) := by decide +kernel
theorem std_M_next_104 : decode stc_M_next 104 = .ok (.iload_n 3, 1) := by decide +kernel
theorem std_M_next_105 : decode stc_M_next 105 = .ok (.iconst 1, 1) := by decide +kernel
theorem std_M_next_106 : decode stc_M_next 106 = .ok (.iadd, 1) := by decide +kernel
theorem std_M_next_107 : decode stc_M_next 107 = .ok (.iload 6, 2) := by decide +kernel
theorem std_M_next_109 : decode stc_M_next 109 = .ok (.iload 7, 2) := by decide +kernel
theorem std_M_next_111 : decode stc_M_next 111 = .ok (.iload_n 2, 1) := by decide +kernel
theorem std_M_next_112 : decode stc_M_next 112 = .ok (.invokestatic 130, 3) := by decide +kernel
theorem kw_3_216 : Cond.code sty_M_place stc_M_place 4 (some .int) ∈ stGW := st_t3 (List.mem_of_getElem? (i := 216) (by decide +kernel)) (by decide +kernel)
theorem kw_3_214 : Cond.methodLink "StateTablesModel" 130 (sty_M_place) ∈ stGW := st_t3 (List.mem_of_getElem? (i := 214) (by decide +kernel)) (by decide +kernel)
theorem kw_3_215 : Cond.static (sty_M_place) ∈ stGW := st_t3 (List.mem_of_getElem? (i := 215) (by decide +kernel)) (by decide +kernel)
theorem std_M_next_21 : decode stc_M_next 21 = .ok (.aload_n 0, 1) := by decide +kernel
theorem std_M_next_22 : decode stc_M_next 22 = .ok (.getfield 26, 3) := by decide +kernel
theorem kw_3_72 : Cond.fieldLink "StateTablesModel" 26 "StateTablesModel" "isBarred" "[Z" ∈ stGW := st_t3 (List.mem_of_getElem? (i := 72) (by decide +kernel)) (by decide +kernel)
theorem std_M_next_25 : decode stc_M_next 25 = .ok (.aload_n 0, 1) := by decide +kernel
theorem std_M_next_26 : decode stc_M_next 26 = .ok (.iload_n 3, 1) := by decide +kernel
theorem std_M_next_27 : decode stc_M_next 27 = .ok (.iconst 1, 1) := by decide +kernel
theorem std_M_next_28 : decode stc_M_next 28 = .ok (.isub, 1) := by decide +kernel
theorem std_M_next_29 : decode stc_M_next 29 = .ok (.iload_n 1, 1) := by decide +kernel
theorem std_M_next_30 : decode stc_M_next 30 = .ok (.invokestatic 119, 3) := by decide +kernel
theorem std_M_next_33 : decode stc_M_next 33 = .ok (.iload_n 2, 1) := by decide +kernel
theorem std_M_next_34 : decode stc_M_next 34 = .ok (.invokevirtual 115, 3) := by decide +kernel
theorem kw_3_208 : Cond.code sty_M_pair stc_M_pair 4 (some .int) ∈ stGW := st_t3 (List.mem_of_getElem? (i := 208) (by decide +kernel)) (by decide +kernel)
theorem kw_3_205 : Cond.methodLink "StateTablesModel" 115 (sty_M_pair) ∈ stGW := st_t3 (List.mem_of_getElem? (i := 205) (by decide +kernel)) (by decide +kernel)
theorem kw_3_207 : Cond.instanceMethod (sty_M_pair) ∈ stGW := st_t3 (List.mem_of_getElem? (i := 207) (by decide +kernel)) (by decide +kernel)
theorem kw_0_19 : Cond.selects "StateTablesModel" (sty_M_pair) (sty_M_pair) ∈ stGW := st_t0 (List.mem_of_getElem? (i := 19) (by decide +kernel)) (by decide +kernel)
theorem std_M_next_37 : decode stc_M_next 37 = .ok (.baload, 1) := by decide +kernel
theorem std_M_next_38 : decode stc_M_next 38 = .ok (.ifCond .eq 7, 3) := by decide +kernel
theorem std_M_next_41 : decode stc_M_next 41 = .ok (.iconst 1, 1) := by decide +kernel
theorem std_M_next_42 : decode stc_M_next 42 = .ok (.goto 4, 3) := by decide +kernel
set_option maxHeartbeats 4000000 in
set_option maxRecDepth 100000 in
theorem c_m_next (l : Launch) (dC : Nat → ClassId) (dI : Nat → Nat → Nat) (cI cJ cZ : ClassId) (m0 : Nat) (k_ch : Nat) (k_co : Nat) (k_ua : Nat) (k_ub : Nat) (k_ba : Nat) (k_rt : Nat) (k_rf : Nat) (k_ct : Nat) (k_cf : Nat) (k_nd : Nat) (k_na : Nat) (k_no : Nat) (k_bt : Nat) (k_bc : Nat) (k_br : Nat) (k_pc : Nat) (k_pr : Nat) (k_la : Nat) (k_lb : Nat) (k_ha : Nat) (k_hb : Nat) (k_ls : Nat) (k_wc : Nat) (HM : Prop) (bg : Int) (pn : Int) (wd : Int) (mg : Int) (mw : Int) (mc : Int) (steps : Int) (d : Nat) (fle : Int → Int) (fba : Int → Int) (fsz : Int → Int) (fco : Int → Int) (ffu : Int → Int) (fsu : Int → Int) (fbb : Int → Int) (fmo : Int → Int) (a : Int) (b : Int) (k : Int) (kBR : BR fbb fba) (kT : TB fsz fco ffu fsu fbb fmo) (kd : d < 12) (kb : 0 ≤ b ∧ b < 6) (kv : vk k) (k0 : d = 0 → k % 8 = 0) (ka : a = 11767 * ((d : Nat) : Int) + kat k) : ∀ sz, Met l sty_M_next (Cond.code sty_M_next stc_M_next 8 (some .int) :: stGW) ({ frames := 1, cells := 0, slots := 0, locals := 23 } : Room) (va_Pc [.ref m0, .int (iI a), .int (iI b)] (zPre (dC, dI) stCl [(cI, .int), (cJ, .long), (cZ, .boolean)] st_nw [(m0, .inr (5, [.int (iI 0), .int (iI steps), .ref k_ch, .ref k_co, .ref k_ua, .ref k_ub, .ref k_ba, .int (iI (fle 0)), .int (iI (fle 1)), .int (iI (fmo 0)), .int (iI (fmo 1)), .int (iI (bI HM)), .ref k_rt, .ref k_rf, .ref k_ct, .ref k_cf, .ref k_nd, .ref k_na, .ref k_no, .ref k_bt, .ref k_bc, .ref k_br, .int (iI bg), .int (iI pn), .ref k_pc, .ref k_pr, .ref k_la, .ref k_lb, .ref k_ha, .ref k_hb, .ref k_ls, .ref k_wc, .int (iI wd), .int (iI mg), .int (iI mw), .int (iI mc)])), (k_ba, .inl (cZ, aI 468 fba)), (k_ua, .inl (cI, aI 78 ffu)), (k_ub, .inl (cI, aI 78 fsu))] sz)) (va_Qi (fun (r : Int32) (_ : Unit) => r = iI ((nxt fbb ffu fsu fmo ((d : Nat) : Int) b k))) (zPost (dC, dI) stCl [(cI, .int), (cJ, .long), (cZ, .boolean)] [(m0, .inr (5, [.int (iI 0), .int (iI steps), .ref k_ch, .ref k_co, .ref k_ua, .ref k_ub, .ref k_ba, .int (iI (fle 0)), .int (iI (fle 1)), .int (iI (fmo 0)), .int (iI (fmo 1)), .int (iI (bI HM)), .ref k_rt, .ref k_rf, .ref k_ct, .ref k_cf, .ref k_nd, .ref k_na, .ref k_no, .ref k_bt, .ref k_bc, .ref k_br, .int (iI bg), .int (iI pn), .ref k_pc, .ref k_pr, .ref k_la, .ref k_lb, .ref k_ha, .ref k_hb, .ref k_ls, .ref k_wc, .int (iI wd), .int (iI mg), .int (iI mw), .int (iI mc)])), (k_ba, .inl (cZ, aI 468 fba)), (k_ua, .inl (cI, aI 78 ffu)), (k_ub, .inl (cI, aI 78 fsu))] sz (fun _ : Unit => [(m0, .inr (5, [.int (iI 0), .int (iI steps), .ref k_ch, .ref k_co, .ref k_ua, .ref k_ub, .ref k_ba, .int (iI (fle 0)), .int (iI (fle 1)), .int (iI (fmo 0)), .int (iI (fmo 1)), .int (iI (bI HM)), .ref k_rt, .ref k_rf, .ref k_ct, .ref k_cf, .ref k_nd, .ref k_na, .ref k_no, .ref k_bt, .ref k_bc, .ref k_br, .int (iI bg), .int (iI pn), .ref k_pc, .ref k_pr, .ref k_la, .ref k_lb, .ref k_ha, .ref k_hb, .ref k_ls, .ref k_wc, .int (iI wd), .int (iI mg), .int (iI mw), .int (iI mc)])), (k_ba, .inl (cZ, aI 468 fba)), (k_ua, .inl (cI, aI 78 ffu)), (k_ub, .inl (cI, aI 78 fsu))])) (va_A [(m0, .inr (5, [.int (iI 0), .int (iI steps), .ref k_ch, .ref k_co, .ref k_ua, .ref k_ub, .ref k_ba, .int (iI (fle 0)), .int (iI (fle 1)), .int (iI (fmo 0)), .int (iI (fmo 1)), .int (iI (bI HM)), .ref k_rt, .ref k_rf, .ref k_ct, .ref k_cf, .ref k_nd, .ref k_na, .ref k_no, .ref k_bt, .ref k_bc, .ref k_br, .int (iI bg), .int (iI pn), .ref k_pc, .ref k_pr, .ref k_la, .ref k_lb, .ref k_ha, .ref k_hb, .ref k_ls, .ref k_wc, .int (iI wd), .int (iI mg), .int (iI mw), .int (iI mc)])), (k_ba, .inl (cZ, aI 468 fba)), (k_ua, .inl (cI, aI 78 ffu)), (k_ub, .inl (cI, aI 78 fsu))] sz)) 0 0 (va_A [(m0, .inr (5, [.int (iI 0), .int (iI steps), .ref k_ch, .ref k_co, .ref k_ua, .ref k_ub, .ref k_ba, .int (iI (fle 0)), .int (iI (fle 1)), .int (iI (fmo 0)), .int (iI (fmo 1)), .int (iI (bI HM)), .ref k_rt, .ref k_rf, .ref k_ct, .ref k_cf, .ref k_nd, .ref k_na, .ref k_no, .ref k_bt, .ref k_bc, .ref k_br, .int (iI bg), .int (iI pn), .ref k_pc, .ref k_pr, .ref k_la, .ref k_lb, .ref k_ha, .ref k_hb, .ref k_ls, .ref k_wc, .int (iI wd), .int (iI mg), .int (iI mw), .int (iI mc)])), (k_ba, .inl (cZ, aI 468 fba)), (k_ua, .inl (cI, aI 78 ffu)), (k_ub, .inl (cI, aI 78 fsu))] sz) := by
  refine met_i (by decide) rfl (Nat.le_of_ble_eq_true rfl) ?_
  intro p e s m below meth c A Q C hmn hret
  have hvk := kv
  unfold vk at hvk
  have hat := kat_at kv ka
  have hkr := kat_r kv
  have hT1 := kT.2.2.1 ((((d : Nat) : Int) * 6) + b) (by omega) (by omega)
  have hT2 := kT.2.2.2 0 (by omega) (by omega)
  have hT3 := kT.2.2.2 1 (by omega) (by omega)
  have hfu : ffu ((6 * (a / 11767)) + b) = ffu ((((d : Nat) : Int) * 6) + b) := by rw [hat.1, Int.mul_comm 6]
  have hfs : fsu ((6 * (a / 11767)) + b) = fsu ((((d : Nat) : Int) * 6) + b) := by rw [hat.1, Int.mul_comm 6]
  refine g_iload_n C 1 std_M_next_0 rfl ?_
  refine g_sipush C std_M_next_1 (by decide) ?_
  refine g_idiv C std_M_next_4 (by omega) (by decide) ?_
  refine g_istore_n C (lv' := [(3, .int (iI (a / 11767))), (0, .ref m0), (1, .int (iI a)), (2, .int (iI b))]) std_M_next_5 (by decide) rfl ?_
  refine g_bipush C std_M_next_6 (by decide) ?_
  refine g_iload_n C 0 std_M_next_8 rfl ?_
  refine g_imul C std_M_next_9 ?_
  refine g_iload_n C 3 std_M_next_10 rfl ?_
  refine g_iadd C std_M_next_11 ?_
  refine g_istore C (lv' := [(4, .int (iI ((6 * (a / 11767)) + b))), (3, .int (iI (a / 11767))), (0, .ref m0), (1, .int (iI a)), (2, .int (iI b))]) std_M_next_12 (by decide) rfl ?_
  refine g_iload_n C 3 std_M_next_14 rfl ?_
  refine g_S_i (wc := []) (wr := [(m0, .inr (5, [.int (iI 0), .int (iI steps), .ref k_ch, .ref k_co, .ref k_ua, .ref k_ub, .ref k_ba, .int (iI (fle 0)), .int (iI (fle 1)), .int (iI (fmo 0)), .int (iI (fmo 1)), .int (iI (bI HM)), .ref k_rt, .ref k_rf, .ref k_ct, .ref k_cf, .ref k_nd, .ref k_na, .ref k_no, .ref k_bt, .ref k_bc, .ref k_br, .int (iI bg), .int (iI pn), .ref k_pc, .ref k_pr, .ref k_la, .ref k_lb, .ref k_ha, .ref k_hb, .ref k_ls, .ref k_wc, .int (iI wd), .int (iI mg), .int (iI mw), .int (iI mc)])), (k_ba, .inl (cZ, aI 468 fba)), (k_ua, .inl (cI, aI 78 ffu)), (k_ub, .inl (cI, aI 78 fsu))]) (rest := []) C (c_m_lastOf l dC dI cI cJ cZ a (by omega)) (st_cS C kw_3_227 kw_3_225 kw_1_6 kw_3_226 sth_M_lastOf ⟨Nat.le_of_ble_eq_true rfl, Nat.le_of_ble_eq_true rfl⟩) rfl rfl (Nat.le_of_ble_eq_true rfl) std_M_next_15 ⟨Nat.le_of_ble_eq_true rfl, Nat.le_of_ble_eq_true rfl⟩ [] [0, 1, 2, 3] rfl rfl rfl rfl (by decide) (fun r1 u2 h3 => ?_)
  subst h3
  refine g_ws (ws' := [(m0, .inr (5, [.int (iI 0), .int (iI steps), .ref k_ch, .ref k_co, .ref k_ua, .ref k_ub, .ref k_ba, .int (iI (fle 0)), .int (iI (fle 1)), .int (iI (fmo 0)), .int (iI (fmo 1)), .int (iI (bI HM)), .ref k_rt, .ref k_rf, .ref k_ct, .ref k_cf, .ref k_nd, .ref k_na, .ref k_no, .ref k_bt, .ref k_bc, .ref k_br, .int (iI bg), .int (iI pn), .ref k_pc, .ref k_pr, .ref k_la, .ref k_lb, .ref k_ha, .ref k_hb, .ref k_ls, .ref k_wc, .int (iI wd), .int (iI mg), .int (iI mw), .int (iI mc)])), (k_ba, .inl (cZ, aI 468 fba)), (k_ua, .inl (cI, aI 78 ffu)), (k_ub, .inl (cI, aI 78 fsu))]) rfl ?_
  refine g_if_lt (tgt := 45) C std_M_next_18 (by decide) ⟨by omega, by omega⟩ (fun c4 => ?_) (fun c4 => ?_)
  · refine g_iconst C std_M_next_45 ?_
    refine g_istore C (lv' := [(5, .int (iI 0)), (4, .int (iI ((6 * (a / 11767)) + b))), (3, .int (iI (a / 11767))), (0, .ref m0), (1, .int (iI a)), (2, .int (iI b))]) std_M_next_46 (by decide) rfl ?_
    refine g_iload_n C 4 std_M_next_48 rfl ?_
    refine g_S_i (wc := []) (wr := [(m0, .inr (5, [.int (iI 0), .int (iI steps), .ref k_ch, .ref k_co, .ref k_ua, .ref k_ub, .ref k_ba, .int (iI (fle 0)), .int (iI (fle 1)), .int (iI (fmo 0)), .int (iI (fmo 1)), .int (iI (bI HM)), .ref k_rt, .ref k_rf, .ref k_ct, .ref k_cf, .ref k_nd, .ref k_na, .ref k_no, .ref k_bt, .ref k_bc, .ref k_br, .int (iI bg), .int (iI pn), .ref k_pc, .ref k_pr, .ref k_la, .ref k_lb, .ref k_ha, .ref k_hb, .ref k_ls, .ref k_wc, .int (iI wd), .int (iI mg), .int (iI mw), .int (iI mc)])), (k_ba, .inl (cZ, aI 468 fba)), (k_ua, .inl (cI, aI 78 ffu)), (k_ub, .inl (cI, aI 78 fsu))]) (rest := []) C (c_m_aOf l dC dI cI cJ cZ a (by omega)) (st_cS C kw_3_230 kw_3_228 kw_1_6 kw_3_229 sth_M_aOf ⟨Nat.le_of_ble_eq_true rfl, Nat.le_of_ble_eq_true rfl⟩) rfl rfl (Nat.le_of_ble_eq_true rfl) std_M_next_49 ⟨Nat.le_of_ble_eq_true rfl, Nat.le_of_ble_eq_true rfl⟩ [] [0, 1, 2, 3] rfl rfl rfl rfl (by decide) (fun r5 u6 h7 => ?_)
    subst h7
    refine g_ws (ws' := [(m0, .inr (5, [.int (iI 0), .int (iI steps), .ref k_ch, .ref k_co, .ref k_ua, .ref k_ub, .ref k_ba, .int (iI (fle 0)), .int (iI (fle 1)), .int (iI (fmo 0)), .int (iI (fmo 1)), .int (iI (bI HM)), .ref k_rt, .ref k_rf, .ref k_ct, .ref k_cf, .ref k_nd, .ref k_na, .ref k_no, .ref k_bt, .ref k_bc, .ref k_br, .int (iI bg), .int (iI pn), .ref k_pc, .ref k_pr, .ref k_la, .ref k_lb, .ref k_ha, .ref k_hb, .ref k_ls, .ref k_wc, .int (iI wd), .int (iI mg), .int (iI mw), .int (iI mc)])), (k_ba, .inl (cZ, aI 468 fba)), (k_ua, .inl (cI, aI 78 ffu)), (k_ub, .inl (cI, aI 78 fsu))]) rfl ?_
    refine g_aload_n C 3 std_M_next_52 rfl ?_
    refine g_get C (st_sub sti_M) 0 rfl rfl 4 (by decide) (List.mem_cons_of_mem _ kw_3_70) rfl rfl std_M_next_53 ?_
    refine g_iload C 1 std_M_next_56 rfl ?_
    refine g_iald C 2 0 rfl rfl (by omega) (by omega) (by omega) std_M_next_58 ?_
    refine g_iadd C std_M_next_59 ?_
    refine g_istore C (lv' := [(6, .int (iI ((((a % 11767) / 7) / 41) + (ffu ((6 * (a / 11767)) + b))))), (5, .int (iI 0)), (4, .int (iI ((6 * (a / 11767)) + b))), (3, .int (iI (a / 11767))), (0, .ref m0), (1, .int (iI a)), (2, .int (iI b))]) std_M_next_60 (by decide) rfl ?_
    refine g_iload_n C 5 std_M_next_62 rfl ?_
    refine g_S_i (wc := []) (wr := [(m0, .inr (5, [.int (iI 0), .int (iI steps), .ref k_ch, .ref k_co, .ref k_ua, .ref k_ub, .ref k_ba, .int (iI (fle 0)), .int (iI (fle 1)), .int (iI (fmo 0)), .int (iI (fmo 1)), .int (iI (bI HM)), .ref k_rt, .ref k_rf, .ref k_ct, .ref k_cf, .ref k_nd, .ref k_na, .ref k_no, .ref k_bt, .ref k_bc, .ref k_br, .int (iI bg), .int (iI pn), .ref k_pc, .ref k_pr, .ref k_la, .ref k_lb, .ref k_ha, .ref k_hb, .ref k_ls, .ref k_wc, .int (iI wd), .int (iI mg), .int (iI mw), .int (iI mc)])), (k_ba, .inl (cZ, aI 468 fba)), (k_ua, .inl (cI, aI 78 ffu)), (k_ub, .inl (cI, aI 78 fsu))]) (rest := []) C (c_m_bOf l dC dI cI cJ cZ a (by omega)) (st_cS C kw_3_233 kw_3_231 kw_1_6 kw_3_232 sth_M_bOf ⟨Nat.le_of_ble_eq_true rfl, Nat.le_of_ble_eq_true rfl⟩) rfl rfl (Nat.le_of_ble_eq_true rfl) std_M_next_63 ⟨Nat.le_of_ble_eq_true rfl, Nat.le_of_ble_eq_true rfl⟩ [] [0, 1, 2, 3] rfl rfl rfl rfl (by decide) (fun r8 u9 h10 => ?_)
    subst h10
    refine g_ws (ws' := [(m0, .inr (5, [.int (iI 0), .int (iI steps), .ref k_ch, .ref k_co, .ref k_ua, .ref k_ub, .ref k_ba, .int (iI (fle 0)), .int (iI (fle 1)), .int (iI (fmo 0)), .int (iI (fmo 1)), .int (iI (bI HM)), .ref k_rt, .ref k_rf, .ref k_ct, .ref k_cf, .ref k_nd, .ref k_na, .ref k_no, .ref k_bt, .ref k_bc, .ref k_br, .int (iI bg), .int (iI pn), .ref k_pc, .ref k_pr, .ref k_la, .ref k_lb, .ref k_ha, .ref k_hb, .ref k_ls, .ref k_wc, .int (iI wd), .int (iI mg), .int (iI mw), .int (iI mc)])), (k_ba, .inl (cZ, aI 468 fba)), (k_ua, .inl (cI, aI 78 ffu)), (k_ub, .inl (cI, aI 78 fsu))]) rfl ?_
    refine g_aload_n C 4 std_M_next_66 rfl ?_
    refine g_get C (st_sub sti_M) 0 rfl rfl 5 (by decide) (List.mem_cons_of_mem _ kw_3_71) rfl rfl std_M_next_67 ?_
    refine g_iload C 2 std_M_next_70 rfl ?_
    refine g_iald C 3 0 rfl rfl (by omega) (by omega) (by omega) std_M_next_72 ?_
    refine g_iadd C std_M_next_73 ?_
    refine g_istore C (lv' := [(7, .int (iI ((((a % 11767) / 7) % 41) + (fsu ((6 * (a / 11767)) + b))))), (6, .int (iI ((((a % 11767) / 7) / 41) + (ffu ((6 * (a / 11767)) + b))))), (5, .int (iI 0)), (4, .int (iI ((6 * (a / 11767)) + b))), (3, .int (iI (a / 11767))), (0, .ref m0), (1, .int (iI a)), (2, .int (iI b))]) std_M_next_74 (by decide) rfl ?_
    refine g_iload C 2 std_M_next_76 rfl ?_
    refine g_if_ne (tgt := 99) C std_M_next_78 (by decide) (by decide) (fun c11 => ?_) (fun c11 => ?_)
    · exfalso; omega
    · refine g_iload C 1 std_M_next_81 rfl ?_
      refine g_aload_n C 5 std_M_next_83 rfl ?_
      refine g_get C (st_sub sti_M) 0 rfl rfl 9 (by decide) (List.mem_cons_of_mem _ kw_3_75) rfl rfl std_M_next_84 ?_
      refine g_icmp_gt (tgt := 99) C std_M_next_87 (by decide) ⟨by omega, by omega⟩ ⟨by omega, by omega⟩ (fun c12 => ?_) (fun c12 => ?_)
      · refine g_ldc C (z := (-1000000)) (List.mem_cons_of_mem _ kw_3_234) (by decide) std_M_next_99 ?_
        refine g_goto (tgt := 115) C std_M_next_101 (by decide) ?_
        refine g_wide (k := 0) (n := 0) (Nat.le_of_ble_eq_true rfl) (Nat.le_of_ble_eq_true rfl) ?_
        exact hret _ _ _ () (congrArg iI (nx_b (fun h => by have := h.2; omega)).symm) std_M_next_115
      · refine g_iload C 0 std_M_next_90 rfl ?_
        refine g_aload_n C 5 std_M_next_92 rfl ?_
        refine g_get C (st_sub sti_M) 0 rfl rfl 10 (by decide) (List.mem_cons_of_mem _ kw_3_76) rfl rfl std_M_next_93 ?_
        refine g_icmp_le (tgt := 104) C std_M_next_96 (by decide) ⟨by omega, by omega⟩ ⟨by omega, by omega⟩ (fun c13 => ?_) (fun c13 => ?_)
        · refine g_iload_n C 4 std_M_next_104 rfl ?_
          refine g_iconst C std_M_next_105 ?_
          refine g_iadd C std_M_next_106 ?_
          refine g_iload C 1 std_M_next_107 rfl ?_
          refine g_iload C 0 std_M_next_109 rfl ?_
          refine g_iload_n C 7 std_M_next_111 rfl ?_
          refine g_S_i (wc := []) (wr := [(m0, .inr (5, [.int (iI 0), .int (iI steps), .ref k_ch, .ref k_co, .ref k_ua, .ref k_ub, .ref k_ba, .int (iI (fle 0)), .int (iI (fle 1)), .int (iI (fmo 0)), .int (iI (fmo 1)), .int (iI (bI HM)), .ref k_rt, .ref k_rf, .ref k_ct, .ref k_cf, .ref k_nd, .ref k_na, .ref k_no, .ref k_bt, .ref k_bc, .ref k_br, .int (iI bg), .int (iI pn), .ref k_pc, .ref k_pr, .ref k_la, .ref k_lb, .ref k_ha, .ref k_hb, .ref k_ls, .ref k_wc, .int (iI wd), .int (iI mg), .int (iI mw), .int (iI mc)])), (k_ba, .inl (cZ, aI 468 fba)), (k_ua, .inl (cI, aI 78 ffu)), (k_ub, .inl (cI, aI 78 fsu))]) (rest := []) C (c_m_place l dC dI cI cJ cZ ((a / 11767) + 1) ((((a % 11767) / 7) / 41) + (ffu ((6 * (a / 11767)) + b))) ((((a % 11767) / 7) % 41) + (fsu ((6 * (a / 11767)) + b))) b ) (st_cS C kw_3_216 kw_3_214 kw_1_6 kw_3_215 sth_M_place ⟨Nat.le_of_ble_eq_true rfl, Nat.le_of_ble_eq_true rfl⟩) rfl rfl (Nat.le_of_ble_eq_true rfl) std_M_next_112 ⟨Nat.le_of_ble_eq_true rfl, Nat.le_of_ble_eq_true rfl⟩ [] [0, 1, 2, 3] rfl rfl rfl rfl (by decide) (fun r14 u15 h16 => ?_)
          subst h16
          refine g_ws (ws' := [(m0, .inr (5, [.int (iI 0), .int (iI steps), .ref k_ch, .ref k_co, .ref k_ua, .ref k_ub, .ref k_ba, .int (iI (fle 0)), .int (iI (fle 1)), .int (iI (fmo 0)), .int (iI (fmo 1)), .int (iI (bI HM)), .ref k_rt, .ref k_rf, .ref k_ct, .ref k_cf, .ref k_nd, .ref k_na, .ref k_no, .ref k_bt, .ref k_bc, .ref k_br, .int (iI bg), .int (iI pn), .ref k_pc, .ref k_pr, .ref k_la, .ref k_lb, .ref k_ha, .ref k_hb, .ref k_ls, .ref k_wc, .int (iI wd), .int (iI mg), .int (iI mw), .int (iI mc)])), (k_ba, .inl (cZ, aI 468 fba)), (k_ua, .inl (cI, aI 78 ffu)), (k_ub, .inl (cI, aI 78 fsu))]) rfl ?_
          refine g_wide (k := 0) (n := 0) (Nat.le_of_ble_eq_true rfl) (Nat.le_of_ble_eq_true rfl) ?_
          exact hret _ _ _ () (congrArg iI (by rw [nx_o (show kop fbb ffu fsu fmo ((((d : Nat) : Int) * 6) + b) k from ⟨fun h => by omega, by omega, by omega⟩) (by omega) ⟨by omega, by omega⟩ (by omega) (by omega) (by omega)]; omega)) std_M_next_115
        · refine g_ldc C (z := (-1000000)) (List.mem_cons_of_mem _ kw_3_234) (by decide) std_M_next_99 ?_
          refine g_goto (tgt := 115) C std_M_next_101 (by decide) ?_
          refine g_wide (k := 0) (n := 0) (Nat.le_of_ble_eq_true rfl) (Nat.le_of_ble_eq_true rfl) ?_
          exact hret _ _ _ () (congrArg iI (nx_b (fun h => by have := h.2; omega)).symm) std_M_next_115
  · have hba : fba (((36 * ((a / 11767) - 1)) + (6 * ((a % 7) - 1))) + b) = fbb ((((d : Nat) : Int) * 6) + b) / 2 ^ ((k % 8) - 1).toNat % 2 := by rw [kBR.2 ((d : Nat) : Int) b ((k % 8) - 1) (by omega) (by omega) (by omega) (by omega) (by omega) (by omega), hat.1, hat.2.2.2]
    have hb01 := kBR.1 (((36 * ((a / 11767) - 1)) + (6 * ((a % 7) - 1))) + b)
    refine g_aload_n C 2 std_M_next_21 rfl ?_
    refine g_get C (st_sub sti_M) 0 rfl rfl 6 (by decide) (List.mem_cons_of_mem _ kw_3_72) rfl rfl std_M_next_22 ?_
    refine g_aload_n C 2 std_M_next_25 rfl ?_
    refine g_iload_n C 1 std_M_next_26 rfl ?_
    refine g_iconst C std_M_next_27 ?_
    refine g_isub C std_M_next_28 ?_
    refine g_iload_n C 3 std_M_next_29 rfl ?_
    refine g_S_i (wc := []) (wr := [(m0, .inr (5, [.int (iI 0), .int (iI steps), .ref k_ch, .ref k_co, .ref k_ua, .ref k_ub, .ref k_ba, .int (iI (fle 0)), .int (iI (fle 1)), .int (iI (fmo 0)), .int (iI (fmo 1)), .int (iI (bI HM)), .ref k_rt, .ref k_rf, .ref k_ct, .ref k_cf, .ref k_nd, .ref k_na, .ref k_no, .ref k_bt, .ref k_bc, .ref k_br, .int (iI bg), .int (iI pn), .ref k_pc, .ref k_pr, .ref k_la, .ref k_lb, .ref k_ha, .ref k_hb, .ref k_ls, .ref k_wc, .int (iI wd), .int (iI mg), .int (iI mw), .int (iI mc)])), (k_ba, .inl (cZ, aI 468 fba)), (k_ua, .inl (cI, aI 78 ffu)), (k_ub, .inl (cI, aI 78 fsu))]) (rest := [.int (iI ((a / 11767) - 1)), .ref m0, .ref k_ba]) C (c_m_lastOf l dC dI cI cJ cZ a (by omega)) (st_cS C kw_3_227 kw_3_225 kw_1_6 kw_3_226 sth_M_lastOf ⟨Nat.le_of_ble_eq_true rfl, Nat.le_of_ble_eq_true rfl⟩) rfl rfl (Nat.le_of_ble_eq_true rfl) std_M_next_30 ⟨Nat.le_of_ble_eq_true rfl, Nat.le_of_ble_eq_true rfl⟩ [] [0, 1, 2, 3] rfl rfl rfl rfl (by decide) (fun r17 u18 h19 => ?_)
    subst h19
    refine g_ws (ws' := [(m0, .inr (5, [.int (iI 0), .int (iI steps), .ref k_ch, .ref k_co, .ref k_ua, .ref k_ub, .ref k_ba, .int (iI (fle 0)), .int (iI (fle 1)), .int (iI (fmo 0)), .int (iI (fmo 1)), .int (iI (bI HM)), .ref k_rt, .ref k_rf, .ref k_ct, .ref k_cf, .ref k_nd, .ref k_na, .ref k_no, .ref k_bt, .ref k_bc, .ref k_br, .int (iI bg), .int (iI pn), .ref k_pc, .ref k_pr, .ref k_la, .ref k_lb, .ref k_ha, .ref k_hb, .ref k_ls, .ref k_wc, .int (iI wd), .int (iI mg), .int (iI mw), .int (iI mc)])), (k_ba, .inl (cZ, aI 468 fba)), (k_ua, .inl (cI, aI 78 ffu)), (k_ub, .inl (cI, aI 78 fsu))]) rfl ?_
    refine g_iload_n C 4 std_M_next_33 rfl ?_
    refine g_V_i (wc := [(m0, .inr (5, [.int (iI 0), .int (iI steps), .ref k_ch, .ref k_co, .ref k_ua, .ref k_ub, .ref k_ba, .int (iI (fle 0)), .int (iI (fle 1)), .int (iI (fmo 0)), .int (iI (fmo 1)), .int (iI (bI HM)), .ref k_rt, .ref k_rf, .ref k_ct, .ref k_cf, .ref k_nd, .ref k_na, .ref k_no, .ref k_bt, .ref k_bc, .ref k_br, .int (iI bg), .int (iI pn), .ref k_pc, .ref k_pr, .ref k_la, .ref k_lb, .ref k_ha, .ref k_hb, .ref k_ls, .ref k_wc, .int (iI wd), .int (iI mg), .int (iI mw), .int (iI mc)]))]) (wr := [(k_ba, .inl (cZ, aI 468 fba)), (k_ua, .inl (cI, aI 78 ffu)), (k_ub, .inl (cI, aI 78 fsu))]) (rest := [.ref k_ba]) C (c_m_pair l dC dI cI cJ cZ m0 k_ch k_co k_ua k_ub k_ba k_rt k_rf k_ct k_cf k_nd k_na k_no k_bt k_bc k_br k_pc k_pr k_la k_lb k_ha k_hb k_ls k_wc HM bg pn wd mg mw mc steps fle fmo ((a / 11767) - 1) ((a % 7) - 1) b ) (st_cV C kw_3_208 kw_3_205 kw_1_6 kw_3_207 kw_0_19 sth_M_pair ⟨Nat.le_of_ble_eq_true rfl, Nat.le_of_ble_eq_true rfl⟩) 0 rfl rfl rfl rfl (Nat.le_of_ble_eq_true rfl) std_M_next_34 ⟨Nat.le_of_ble_eq_true rfl, Nat.le_of_ble_eq_true rfl⟩ [0] [1, 2, 3] rfl rfl rfl rfl (by decide) (fun r20 u21 h22 => ?_)
    subst h22
    refine g_ws (ws' := [(k_ba, .inl (cZ, aI 468 fba)), (k_ua, .inl (cI, aI 78 ffu)), (k_ub, .inl (cI, aI 78 fsu)), (m0, .inr (5, [.int (iI 0), .int (iI steps), .ref k_ch, .ref k_co, .ref k_ua, .ref k_ub, .ref k_ba, .int (iI (fle 0)), .int (iI (fle 1)), .int (iI (fmo 0)), .int (iI (fmo 1)), .int (iI (bI HM)), .ref k_rt, .ref k_rf, .ref k_ct, .ref k_cf, .ref k_nd, .ref k_na, .ref k_no, .ref k_bt, .ref k_bc, .ref k_br, .int (iI bg), .int (iI pn), .ref k_pc, .ref k_pr, .ref k_la, .ref k_lb, .ref k_ha, .ref k_hb, .ref k_ls, .ref k_wc, .int (iI wd), .int (iI mg), .int (iI mw), .int (iI mc)]))]) rfl ?_
    refine g_zald C 0 2 rfl rfl (by omega) (by omega) (by omega) std_M_next_37 ?_
    refine g_if_eq (tgt := 45) C std_M_next_38 (by decide) ⟨by omega, by omega⟩ (fun c23 => ?_) (fun c23 => ?_)
    · refine g_iconst C std_M_next_45 ?_
      refine g_istore C (lv' := [(5, .int (iI 0)), (4, .int (iI ((6 * (a / 11767)) + b))), (3, .int (iI (a / 11767))), (0, .ref m0), (1, .int (iI a)), (2, .int (iI b))]) std_M_next_46 (by decide) rfl ?_
      refine g_iload_n C 4 std_M_next_48 rfl ?_
      refine g_S_i (wc := []) (wr := [(k_ba, .inl (cZ, aI 468 fba)), (k_ua, .inl (cI, aI 78 ffu)), (k_ub, .inl (cI, aI 78 fsu)), (m0, .inr (5, [.int (iI 0), .int (iI steps), .ref k_ch, .ref k_co, .ref k_ua, .ref k_ub, .ref k_ba, .int (iI (fle 0)), .int (iI (fle 1)), .int (iI (fmo 0)), .int (iI (fmo 1)), .int (iI (bI HM)), .ref k_rt, .ref k_rf, .ref k_ct, .ref k_cf, .ref k_nd, .ref k_na, .ref k_no, .ref k_bt, .ref k_bc, .ref k_br, .int (iI bg), .int (iI pn), .ref k_pc, .ref k_pr, .ref k_la, .ref k_lb, .ref k_ha, .ref k_hb, .ref k_ls, .ref k_wc, .int (iI wd), .int (iI mg), .int (iI mw), .int (iI mc)]))]) (rest := []) C (c_m_aOf l dC dI cI cJ cZ a (by omega)) (st_cS C kw_3_230 kw_3_228 kw_1_6 kw_3_229 sth_M_aOf ⟨Nat.le_of_ble_eq_true rfl, Nat.le_of_ble_eq_true rfl⟩) rfl rfl (Nat.le_of_ble_eq_true rfl) std_M_next_49 ⟨Nat.le_of_ble_eq_true rfl, Nat.le_of_ble_eq_true rfl⟩ [] [0, 1, 2, 3] rfl rfl rfl rfl (by decide) (fun r24 u25 h26 => ?_)
      subst h26
      refine g_ws (ws' := [(k_ba, .inl (cZ, aI 468 fba)), (k_ua, .inl (cI, aI 78 ffu)), (k_ub, .inl (cI, aI 78 fsu)), (m0, .inr (5, [.int (iI 0), .int (iI steps), .ref k_ch, .ref k_co, .ref k_ua, .ref k_ub, .ref k_ba, .int (iI (fle 0)), .int (iI (fle 1)), .int (iI (fmo 0)), .int (iI (fmo 1)), .int (iI (bI HM)), .ref k_rt, .ref k_rf, .ref k_ct, .ref k_cf, .ref k_nd, .ref k_na, .ref k_no, .ref k_bt, .ref k_bc, .ref k_br, .int (iI bg), .int (iI pn), .ref k_pc, .ref k_pr, .ref k_la, .ref k_lb, .ref k_ha, .ref k_hb, .ref k_ls, .ref k_wc, .int (iI wd), .int (iI mg), .int (iI mw), .int (iI mc)]))]) rfl ?_
      refine g_aload_n C 3 std_M_next_52 rfl ?_
      refine g_get C (st_sub sti_M) 3 rfl rfl 4 (by decide) (List.mem_cons_of_mem _ kw_3_70) rfl rfl std_M_next_53 ?_
      refine g_iload C 1 std_M_next_56 rfl ?_
      refine g_iald C 1 0 rfl rfl (by omega) (by omega) (by omega) std_M_next_58 ?_
      refine g_iadd C std_M_next_59 ?_
      refine g_istore C (lv' := [(6, .int (iI ((((a % 11767) / 7) / 41) + (ffu ((6 * (a / 11767)) + b))))), (5, .int (iI 0)), (4, .int (iI ((6 * (a / 11767)) + b))), (3, .int (iI (a / 11767))), (0, .ref m0), (1, .int (iI a)), (2, .int (iI b))]) std_M_next_60 (by decide) rfl ?_
      refine g_iload_n C 5 std_M_next_62 rfl ?_
      refine g_S_i (wc := []) (wr := [(k_ba, .inl (cZ, aI 468 fba)), (k_ua, .inl (cI, aI 78 ffu)), (k_ub, .inl (cI, aI 78 fsu)), (m0, .inr (5, [.int (iI 0), .int (iI steps), .ref k_ch, .ref k_co, .ref k_ua, .ref k_ub, .ref k_ba, .int (iI (fle 0)), .int (iI (fle 1)), .int (iI (fmo 0)), .int (iI (fmo 1)), .int (iI (bI HM)), .ref k_rt, .ref k_rf, .ref k_ct, .ref k_cf, .ref k_nd, .ref k_na, .ref k_no, .ref k_bt, .ref k_bc, .ref k_br, .int (iI bg), .int (iI pn), .ref k_pc, .ref k_pr, .ref k_la, .ref k_lb, .ref k_ha, .ref k_hb, .ref k_ls, .ref k_wc, .int (iI wd), .int (iI mg), .int (iI mw), .int (iI mc)]))]) (rest := []) C (c_m_bOf l dC dI cI cJ cZ a (by omega)) (st_cS C kw_3_233 kw_3_231 kw_1_6 kw_3_232 sth_M_bOf ⟨Nat.le_of_ble_eq_true rfl, Nat.le_of_ble_eq_true rfl⟩) rfl rfl (Nat.le_of_ble_eq_true rfl) std_M_next_63 ⟨Nat.le_of_ble_eq_true rfl, Nat.le_of_ble_eq_true rfl⟩ [] [0, 1, 2, 3] rfl rfl rfl rfl (by decide) (fun r27 u28 h29 => ?_)
      subst h29
      refine g_ws (ws' := [(k_ba, .inl (cZ, aI 468 fba)), (k_ua, .inl (cI, aI 78 ffu)), (k_ub, .inl (cI, aI 78 fsu)), (m0, .inr (5, [.int (iI 0), .int (iI steps), .ref k_ch, .ref k_co, .ref k_ua, .ref k_ub, .ref k_ba, .int (iI (fle 0)), .int (iI (fle 1)), .int (iI (fmo 0)), .int (iI (fmo 1)), .int (iI (bI HM)), .ref k_rt, .ref k_rf, .ref k_ct, .ref k_cf, .ref k_nd, .ref k_na, .ref k_no, .ref k_bt, .ref k_bc, .ref k_br, .int (iI bg), .int (iI pn), .ref k_pc, .ref k_pr, .ref k_la, .ref k_lb, .ref k_ha, .ref k_hb, .ref k_ls, .ref k_wc, .int (iI wd), .int (iI mg), .int (iI mw), .int (iI mc)]))]) rfl ?_
      refine g_aload_n C 4 std_M_next_66 rfl ?_
      refine g_get C (st_sub sti_M) 3 rfl rfl 5 (by decide) (List.mem_cons_of_mem _ kw_3_71) rfl rfl std_M_next_67 ?_
      refine g_iload C 2 std_M_next_70 rfl ?_
      refine g_iald C 2 0 rfl rfl (by omega) (by omega) (by omega) std_M_next_72 ?_
      refine g_iadd C std_M_next_73 ?_
      refine g_istore C (lv' := [(7, .int (iI ((((a % 11767) / 7) % 41) + (fsu ((6 * (a / 11767)) + b))))), (6, .int (iI ((((a % 11767) / 7) / 41) + (ffu ((6 * (a / 11767)) + b))))), (5, .int (iI 0)), (4, .int (iI ((6 * (a / 11767)) + b))), (3, .int (iI (a / 11767))), (0, .ref m0), (1, .int (iI a)), (2, .int (iI b))]) std_M_next_74 (by decide) rfl ?_
      refine g_iload C 2 std_M_next_76 rfl ?_
      refine g_if_ne (tgt := 99) C std_M_next_78 (by decide) (by decide) (fun c30 => ?_) (fun c30 => ?_)
      · exfalso; omega
      · refine g_iload C 1 std_M_next_81 rfl ?_
        refine g_aload_n C 5 std_M_next_83 rfl ?_
        refine g_get C (st_sub sti_M) 3 rfl rfl 9 (by decide) (List.mem_cons_of_mem _ kw_3_75) rfl rfl std_M_next_84 ?_
        refine g_icmp_gt (tgt := 99) C std_M_next_87 (by decide) ⟨by omega, by omega⟩ ⟨by omega, by omega⟩ (fun c31 => ?_) (fun c31 => ?_)
        · refine g_ldc C (z := (-1000000)) (List.mem_cons_of_mem _ kw_3_234) (by decide) std_M_next_99 ?_
          refine g_goto (tgt := 115) C std_M_next_101 (by decide) ?_
          refine g_sub (ws' := [(m0, .inr (5, [.int (iI 0), .int (iI steps), .ref k_ch, .ref k_co, .ref k_ua, .ref k_ub, .ref k_ba, .int (iI (fle 0)), .int (iI (fle 1)), .int (iI (fmo 0)), .int (iI (fmo 1)), .int (iI (bI HM)), .ref k_rt, .ref k_rf, .ref k_ct, .ref k_cf, .ref k_nd, .ref k_na, .ref k_no, .ref k_bt, .ref k_bc, .ref k_br, .int (iI bg), .int (iI pn), .ref k_pc, .ref k_pr, .ref k_la, .ref k_lb, .ref k_ha, .ref k_hb, .ref k_ls, .ref k_wc, .int (iI wd), .int (iI mg), .int (iI mw), .int (iI mc)])), (k_ba, .inl (cZ, aI 468 fba)), (k_ua, .inl (cI, aI 78 ffu)), (k_ub, .inl (cI, aI 78 fsu))]) [3, 0, 1, 2] rfl rfl ?_
          refine g_wide (k := 0) (n := 0) (Nat.le_of_ble_eq_true rfl) (Nat.le_of_ble_eq_true rfl) ?_
          exact hret _ _ _ () (congrArg iI (nx_b (fun h => by have := h.2; omega)).symm) std_M_next_115
        · refine g_iload C 0 std_M_next_90 rfl ?_
          refine g_aload_n C 5 std_M_next_92 rfl ?_
          refine g_get C (st_sub sti_M) 3 rfl rfl 10 (by decide) (List.mem_cons_of_mem _ kw_3_76) rfl rfl std_M_next_93 ?_
          refine g_icmp_le (tgt := 104) C std_M_next_96 (by decide) ⟨by omega, by omega⟩ ⟨by omega, by omega⟩ (fun c32 => ?_) (fun c32 => ?_)
          · refine g_iload_n C 4 std_M_next_104 rfl ?_
            refine g_iconst C std_M_next_105 ?_
            refine g_iadd C std_M_next_106 ?_
            refine g_iload C 1 std_M_next_107 rfl ?_
            refine g_iload C 0 std_M_next_109 rfl ?_
            refine g_iload_n C 7 std_M_next_111 rfl ?_
            refine g_S_i (wc := []) (wr := [(k_ba, .inl (cZ, aI 468 fba)), (k_ua, .inl (cI, aI 78 ffu)), (k_ub, .inl (cI, aI 78 fsu)), (m0, .inr (5, [.int (iI 0), .int (iI steps), .ref k_ch, .ref k_co, .ref k_ua, .ref k_ub, .ref k_ba, .int (iI (fle 0)), .int (iI (fle 1)), .int (iI (fmo 0)), .int (iI (fmo 1)), .int (iI (bI HM)), .ref k_rt, .ref k_rf, .ref k_ct, .ref k_cf, .ref k_nd, .ref k_na, .ref k_no, .ref k_bt, .ref k_bc, .ref k_br, .int (iI bg), .int (iI pn), .ref k_pc, .ref k_pr, .ref k_la, .ref k_lb, .ref k_ha, .ref k_hb, .ref k_ls, .ref k_wc, .int (iI wd), .int (iI mg), .int (iI mw), .int (iI mc)]))]) (rest := []) C (c_m_place l dC dI cI cJ cZ ((a / 11767) + 1) ((((a % 11767) / 7) / 41) + (ffu ((6 * (a / 11767)) + b))) ((((a % 11767) / 7) % 41) + (fsu ((6 * (a / 11767)) + b))) b ) (st_cS C kw_3_216 kw_3_214 kw_1_6 kw_3_215 sth_M_place ⟨Nat.le_of_ble_eq_true rfl, Nat.le_of_ble_eq_true rfl⟩) rfl rfl (Nat.le_of_ble_eq_true rfl) std_M_next_112 ⟨Nat.le_of_ble_eq_true rfl, Nat.le_of_ble_eq_true rfl⟩ [] [0, 1, 2, 3] rfl rfl rfl rfl (by decide) (fun r33 u34 h35 => ?_)
            subst h35
            refine g_ws (ws' := [(k_ba, .inl (cZ, aI 468 fba)), (k_ua, .inl (cI, aI 78 ffu)), (k_ub, .inl (cI, aI 78 fsu)), (m0, .inr (5, [.int (iI 0), .int (iI steps), .ref k_ch, .ref k_co, .ref k_ua, .ref k_ub, .ref k_ba, .int (iI (fle 0)), .int (iI (fle 1)), .int (iI (fmo 0)), .int (iI (fmo 1)), .int (iI (bI HM)), .ref k_rt, .ref k_rf, .ref k_ct, .ref k_cf, .ref k_nd, .ref k_na, .ref k_no, .ref k_bt, .ref k_bc, .ref k_br, .int (iI bg), .int (iI pn), .ref k_pc, .ref k_pr, .ref k_la, .ref k_lb, .ref k_ha, .ref k_hb, .ref k_ls, .ref k_wc, .int (iI wd), .int (iI mg), .int (iI mw), .int (iI mc)]))]) rfl ?_
            refine g_sub (ws' := [(m0, .inr (5, [.int (iI 0), .int (iI steps), .ref k_ch, .ref k_co, .ref k_ua, .ref k_ub, .ref k_ba, .int (iI (fle 0)), .int (iI (fle 1)), .int (iI (fmo 0)), .int (iI (fmo 1)), .int (iI (bI HM)), .ref k_rt, .ref k_rf, .ref k_ct, .ref k_cf, .ref k_nd, .ref k_na, .ref k_no, .ref k_bt, .ref k_bc, .ref k_br, .int (iI bg), .int (iI pn), .ref k_pc, .ref k_pr, .ref k_la, .ref k_lb, .ref k_ha, .ref k_hb, .ref k_ls, .ref k_wc, .int (iI wd), .int (iI mg), .int (iI mw), .int (iI mc)])), (k_ba, .inl (cZ, aI 468 fba)), (k_ua, .inl (cI, aI 78 ffu)), (k_ub, .inl (cI, aI 78 fsu))]) [3, 0, 1, 2] rfl rfl ?_
            refine g_wide (k := 0) (n := 0) (Nat.le_of_ble_eq_true rfl) (Nat.le_of_ble_eq_true rfl) ?_
            exact hret _ _ _ () (congrArg iI (by rw [nx_o (show kop fbb ffu fsu fmo ((((d : Nat) : Int) * 6) + b) k from ⟨fun h => by omega, by omega, by omega⟩) (by omega) ⟨by omega, by omega⟩ (by omega) (by omega) (by omega)]; omega)) std_M_next_115
          · refine g_ldc C (z := (-1000000)) (List.mem_cons_of_mem _ kw_3_234) (by decide) std_M_next_99 ?_
            refine g_goto (tgt := 115) C std_M_next_101 (by decide) ?_
            refine g_sub (ws' := [(m0, .inr (5, [.int (iI 0), .int (iI steps), .ref k_ch, .ref k_co, .ref k_ua, .ref k_ub, .ref k_ba, .int (iI (fle 0)), .int (iI (fle 1)), .int (iI (fmo 0)), .int (iI (fmo 1)), .int (iI (bI HM)), .ref k_rt, .ref k_rf, .ref k_ct, .ref k_cf, .ref k_nd, .ref k_na, .ref k_no, .ref k_bt, .ref k_bc, .ref k_br, .int (iI bg), .int (iI pn), .ref k_pc, .ref k_pr, .ref k_la, .ref k_lb, .ref k_ha, .ref k_hb, .ref k_ls, .ref k_wc, .int (iI wd), .int (iI mg), .int (iI mw), .int (iI mc)])), (k_ba, .inl (cZ, aI 468 fba)), (k_ua, .inl (cI, aI 78 ffu)), (k_ub, .inl (cI, aI 78 fsu))]) [3, 0, 1, 2] rfl rfl ?_
            refine g_wide (k := 0) (n := 0) (Nat.le_of_ble_eq_true rfl) (Nat.le_of_ble_eq_true rfl) ?_
            exact hret _ _ _ () (congrArg iI (nx_b (fun h => by have := h.2; omega)).symm) std_M_next_115
    · refine g_iconst C std_M_next_41 ?_
      refine g_goto (tgt := 46) C std_M_next_42 (by decide) ?_
      refine g_istore C (lv' := [(5, .int (iI 1)), (4, .int (iI ((6 * (a / 11767)) + b))), (3, .int (iI (a / 11767))), (0, .ref m0), (1, .int (iI a)), (2, .int (iI b))]) std_M_next_46 (by decide) rfl ?_
      refine g_iload_n C 4 std_M_next_48 rfl ?_
      refine g_S_i (wc := []) (wr := [(k_ba, .inl (cZ, aI 468 fba)), (k_ua, .inl (cI, aI 78 ffu)), (k_ub, .inl (cI, aI 78 fsu)), (m0, .inr (5, [.int (iI 0), .int (iI steps), .ref k_ch, .ref k_co, .ref k_ua, .ref k_ub, .ref k_ba, .int (iI (fle 0)), .int (iI (fle 1)), .int (iI (fmo 0)), .int (iI (fmo 1)), .int (iI (bI HM)), .ref k_rt, .ref k_rf, .ref k_ct, .ref k_cf, .ref k_nd, .ref k_na, .ref k_no, .ref k_bt, .ref k_bc, .ref k_br, .int (iI bg), .int (iI pn), .ref k_pc, .ref k_pr, .ref k_la, .ref k_lb, .ref k_ha, .ref k_hb, .ref k_ls, .ref k_wc, .int (iI wd), .int (iI mg), .int (iI mw), .int (iI mc)]))]) (rest := []) C (c_m_aOf l dC dI cI cJ cZ a (by omega)) (st_cS C kw_3_230 kw_3_228 kw_1_6 kw_3_229 sth_M_aOf ⟨Nat.le_of_ble_eq_true rfl, Nat.le_of_ble_eq_true rfl⟩) rfl rfl (Nat.le_of_ble_eq_true rfl) std_M_next_49 ⟨Nat.le_of_ble_eq_true rfl, Nat.le_of_ble_eq_true rfl⟩ [] [0, 1, 2, 3] rfl rfl rfl rfl (by decide) (fun r36 u37 h38 => ?_)
      subst h38
      refine g_ws (ws' := [(k_ba, .inl (cZ, aI 468 fba)), (k_ua, .inl (cI, aI 78 ffu)), (k_ub, .inl (cI, aI 78 fsu)), (m0, .inr (5, [.int (iI 0), .int (iI steps), .ref k_ch, .ref k_co, .ref k_ua, .ref k_ub, .ref k_ba, .int (iI (fle 0)), .int (iI (fle 1)), .int (iI (fmo 0)), .int (iI (fmo 1)), .int (iI (bI HM)), .ref k_rt, .ref k_rf, .ref k_ct, .ref k_cf, .ref k_nd, .ref k_na, .ref k_no, .ref k_bt, .ref k_bc, .ref k_br, .int (iI bg), .int (iI pn), .ref k_pc, .ref k_pr, .ref k_la, .ref k_lb, .ref k_ha, .ref k_hb, .ref k_ls, .ref k_wc, .int (iI wd), .int (iI mg), .int (iI mw), .int (iI mc)]))]) rfl ?_
      refine g_aload_n C 3 std_M_next_52 rfl ?_
      refine g_get C (st_sub sti_M) 3 rfl rfl 4 (by decide) (List.mem_cons_of_mem _ kw_3_70) rfl rfl std_M_next_53 ?_
      refine g_iload C 1 std_M_next_56 rfl ?_
      refine g_iald C 1 0 rfl rfl (by omega) (by omega) (by omega) std_M_next_58 ?_
      refine g_iadd C std_M_next_59 ?_
      refine g_istore C (lv' := [(6, .int (iI ((((a % 11767) / 7) / 41) + (ffu ((6 * (a / 11767)) + b))))), (5, .int (iI 1)), (4, .int (iI ((6 * (a / 11767)) + b))), (3, .int (iI (a / 11767))), (0, .ref m0), (1, .int (iI a)), (2, .int (iI b))]) std_M_next_60 (by decide) rfl ?_
      refine g_iload_n C 5 std_M_next_62 rfl ?_
      refine g_S_i (wc := []) (wr := [(k_ba, .inl (cZ, aI 468 fba)), (k_ua, .inl (cI, aI 78 ffu)), (k_ub, .inl (cI, aI 78 fsu)), (m0, .inr (5, [.int (iI 0), .int (iI steps), .ref k_ch, .ref k_co, .ref k_ua, .ref k_ub, .ref k_ba, .int (iI (fle 0)), .int (iI (fle 1)), .int (iI (fmo 0)), .int (iI (fmo 1)), .int (iI (bI HM)), .ref k_rt, .ref k_rf, .ref k_ct, .ref k_cf, .ref k_nd, .ref k_na, .ref k_no, .ref k_bt, .ref k_bc, .ref k_br, .int (iI bg), .int (iI pn), .ref k_pc, .ref k_pr, .ref k_la, .ref k_lb, .ref k_ha, .ref k_hb, .ref k_ls, .ref k_wc, .int (iI wd), .int (iI mg), .int (iI mw), .int (iI mc)]))]) (rest := []) C (c_m_bOf l dC dI cI cJ cZ a (by omega)) (st_cS C kw_3_233 kw_3_231 kw_1_6 kw_3_232 sth_M_bOf ⟨Nat.le_of_ble_eq_true rfl, Nat.le_of_ble_eq_true rfl⟩) rfl rfl (Nat.le_of_ble_eq_true rfl) std_M_next_63 ⟨Nat.le_of_ble_eq_true rfl, Nat.le_of_ble_eq_true rfl⟩ [] [0, 1, 2, 3] rfl rfl rfl rfl (by decide) (fun r39 u40 h41 => ?_)
      subst h41
      refine g_ws (ws' := [(k_ba, .inl (cZ, aI 468 fba)), (k_ua, .inl (cI, aI 78 ffu)), (k_ub, .inl (cI, aI 78 fsu)), (m0, .inr (5, [.int (iI 0), .int (iI steps), .ref k_ch, .ref k_co, .ref k_ua, .ref k_ub, .ref k_ba, .int (iI (fle 0)), .int (iI (fle 1)), .int (iI (fmo 0)), .int (iI (fmo 1)), .int (iI (bI HM)), .ref k_rt, .ref k_rf, .ref k_ct, .ref k_cf, .ref k_nd, .ref k_na, .ref k_no, .ref k_bt, .ref k_bc, .ref k_br, .int (iI bg), .int (iI pn), .ref k_pc, .ref k_pr, .ref k_la, .ref k_lb, .ref k_ha, .ref k_hb, .ref k_ls, .ref k_wc, .int (iI wd), .int (iI mg), .int (iI mw), .int (iI mc)]))]) rfl ?_
      refine g_aload_n C 4 std_M_next_66 rfl ?_
      refine g_get C (st_sub sti_M) 3 rfl rfl 5 (by decide) (List.mem_cons_of_mem _ kw_3_71) rfl rfl std_M_next_67 ?_
      refine g_iload C 2 std_M_next_70 rfl ?_
      refine g_iald C 2 0 rfl rfl (by omega) (by omega) (by omega) std_M_next_72 ?_
      refine g_iadd C std_M_next_73 ?_
      refine g_istore C (lv' := [(7, .int (iI ((((a % 11767) / 7) % 41) + (fsu ((6 * (a / 11767)) + b))))), (6, .int (iI ((((a % 11767) / 7) / 41) + (ffu ((6 * (a / 11767)) + b))))), (5, .int (iI 1)), (4, .int (iI ((6 * (a / 11767)) + b))), (3, .int (iI (a / 11767))), (0, .ref m0), (1, .int (iI a)), (2, .int (iI b))]) std_M_next_74 (by decide) rfl ?_
      refine g_iload C 2 std_M_next_76 rfl ?_
      refine g_if_ne (tgt := 99) C std_M_next_78 (by decide) (by decide) (fun c42 => ?_) (fun c42 => ?_)
      · refine g_ldc C (z := (-1000000)) (List.mem_cons_of_mem _ kw_3_234) (by decide) std_M_next_99 ?_
        refine g_goto (tgt := 115) C std_M_next_101 (by decide) ?_
        refine g_sub (ws' := [(m0, .inr (5, [.int (iI 0), .int (iI steps), .ref k_ch, .ref k_co, .ref k_ua, .ref k_ub, .ref k_ba, .int (iI (fle 0)), .int (iI (fle 1)), .int (iI (fmo 0)), .int (iI (fmo 1)), .int (iI (bI HM)), .ref k_rt, .ref k_rf, .ref k_ct, .ref k_cf, .ref k_nd, .ref k_na, .ref k_no, .ref k_bt, .ref k_bc, .ref k_br, .int (iI bg), .int (iI pn), .ref k_pc, .ref k_pr, .ref k_la, .ref k_lb, .ref k_ha, .ref k_hb, .ref k_ls, .ref k_wc, .int (iI wd), .int (iI mg), .int (iI mw), .int (iI mc)])), (k_ba, .inl (cZ, aI 468 fba)), (k_ua, .inl (cI, aI 78 ffu)), (k_ub, .inl (cI, aI 78 fsu))]) [3, 0, 1, 2] rfl rfl ?_
        refine g_wide (k := 0) (n := 0) (Nat.le_of_ble_eq_true rfl) (Nat.le_of_ble_eq_true rfl) ?_
        exact hret _ _ _ () (congrArg iI (nx_b (fun h => h.1 ⟨by omega, by omega⟩)).symm) std_M_next_115
      · exfalso; omega

