/-! Arrays.copyOf, Layers.growTo -/
abbrev sty_A_copyOfI : MethodName := ⟨"java/util/Arrays", "copyOf", "([II)[I"⟩
abbrev stc_A_copyOfI : ByteArray := prog_11_method_123_code
theorem sth_A_copyOfI : (sty_A_copyOfI).cls ≠ "java/lang/invoke/MethodHandle" ∧ (sty_A_copyOfI).cls ≠ "java/lang/invoke/VarHandle" ∧ (parseMethodDescriptor (sty_A_copyOfI).desc).map (fun d => d.parameters.length) = some 2 := by decide +kernel
theorem std_A_copyOfI_0 : decode stc_A_copyOfI 0 = .ok (.iload_n 1, 1) := by decide +kernel
theorem std_A_copyOfI_1 : decode stc_A_copyOfI 1 = .ok (.aload_n 0, 1) := by decide +kernel
theorem std_A_copyOfI_2 : decode stc_A_copyOfI 2 = .ok (.arraylength, 1) := by decide +kernel
theorem std_A_copyOfI_3 : decode stc_A_copyOfI 3 = .ok (.if_icmp .ne 11, 3) := by decide +kernel
theorem std_A_copyOfI_14 : decode stc_A_copyOfI 14 = .ok (.iload_n 1, 1) := by decide +kernel
theorem std_A_copyOfI_15 : decode stc_A_copyOfI 15 = .ok (.newarray .int, 2) := by decide +kernel
theorem kw_1_76 : Cond.arrayClass Jvm.ClassFile.FieldType.int ∈ stGW := st_t1 (List.mem_of_getElem? (i := 76) (by decide +kernel)) (by decide +kernel)
theorem std_A_copyOfI_17 : decode stc_A_copyOfI 17 = .ok (.astore_n 2, 1) := by decide +kernel
theorem std_A_copyOfI_18 : decode stc_A_copyOfI 18 = .ok (.aload_n 0, 1) := by decide +kernel
theorem std_A_copyOfI_19 : decode stc_A_copyOfI 19 = .ok (.iconst 0, 1) := by decide +kernel
theorem std_A_copyOfI_20 : decode stc_A_copyOfI 20 = .ok (.aload_n 2, 1) := by decide +kernel
theorem std_A_copyOfI_21 : decode stc_A_copyOfI 21 = .ok (.iconst 0, 1) := by decide +kernel
theorem std_A_copyOfI_22 : decode stc_A_copyOfI 22 = .ok (.aload_n 0, 1) := by decide +kernel
theorem std_A_copyOfI_23 : decode stc_A_copyOfI 23 = .ok (.arraylength, 1) := by decide +kernel
theorem std_A_copyOfI_24 : decode stc_A_copyOfI 24 = .ok (.iload_n 1, 1) := by decide +kernel
theorem std_A_copyOfI_25 : decode stc_A_copyOfI 25 = .ok (.invokestatic 304, 3) := by decide +kernel
theorem kw_2_64 : Cond.methodLink "java/util/Arrays" 304 (Lib.Math.min.name) ∈ stGW := st_t2 (List.mem_of_getElem? (i := 64) (by decide +kernel)) (by decide +kernel)
theorem std_A_copyOfI_28 : decode stc_A_copyOfI 28 = .ok (.invokestatic 150, 3) := by decide +kernel
theorem kw_2_65 : Cond.methodLink "java/util/Arrays" 150 (arraycopyName) ∈ stGW := st_t2 (List.mem_of_getElem? (i := 65) (by decide +kernel)) (by decide +kernel)
theorem kw_2_67 : Cond.native (arraycopyName) ∈ stGW := st_t2 (List.mem_of_getElem? (i := 67) (by decide +kernel)) (by decide +kernel)
theorem kw_2_66 : Cond.static (arraycopyName) ∈ stGW := st_t2 (List.mem_of_getElem? (i := 66) (by decide +kernel)) (by decide +kernel)
theorem kw_1_9 : Cond.initialized "java/lang/System" ∈ stGW := st_t1 (List.mem_of_getElem? (i := 9) (by decide +kernel)) (by decide +kernel)
theorem std_A_copyOfI_31 : decode stc_A_copyOfI 31 = .ok (.aload_n 2, 1) := by decide +kernel
theorem std_A_copyOfI_32 : decode stc_A_copyOfI 32 = .ok (.areturn, 1) := by decide +kernel
set_option maxHeartbeats 4000000 in
set_option maxRecDepth 100000 in
theorem c_copyOfI (l : Launch) (dC : Nat → ClassId) (dI : Nat → Nat → Nat) (cI cJ cZ : ClassId) (h : Nat) (n : Nat) (N : Nat) (f : Int → Int) (kn : n < N) (kN : N ≤ 100000) : ∀ sz, Met l sty_A_copyOfI (Cond.code sty_A_copyOfI stc_A_copyOfI 3 (some (.array .int)) :: stGW) ({ frames := 1, cells := 1, slots := N, locals := 40 } : Room) (va_Pc [.ref h, .int (iI ((N : Nat) : Int))] (zPre (dC, dI) stCl [(cI, .int), (cJ, .long), (cZ, .boolean)] st_nw [(h, .inl (cI, aI n f))] sz)) (va_Qr (fun (_ : Unit) => True) (fun u r => zPost (dC, dI) stCl [(cI, .int), (cJ, .long), (cZ, .boolean)] [(h, .inl (cI, aI n f))] sz (fun u : Unit => (fun (_ : Unit) (r : Nat) => [(h, .inl (cI, aI n f)), (r, .inl (cI, aI N (cpZ f (fun _ => 0) 0 0 (n : Int))))]) u r) u) (va_A [(h, .inl (cI, aI n f))] sz)) 1 N (va_A [(h, .inl (cI, aI n f))] sz) := by
  refine met_r (by decide) rfl (Nat.le_of_ble_eq_true rfl) ?_
  intro p e s m below meth c A Q C hmn hret
  refine g_iload_n C 1 std_A_copyOfI_0 rfl ?_
  refine g_aload_n C 0 std_A_copyOfI_1 rfl ?_
  refine g_alenI C 0 0 rfl rfl std_A_copyOfI_2 ?_
  refine g_icmp_ne (tgt := 14) C std_A_copyOfI_3 (by decide) ⟨by omega, by omega⟩ ⟨by omega, by omega⟩ (fun c1 => ?_) (fun c1 => ?_)
  · refine g_iload_n C 1 std_A_copyOfI_14 rfl ?_
    refine g_newI C (N := N) 0 rfl (List.mem_cons_of_mem _ kw_1_76) (rfl) (by omega) (Nat.le_of_ble_eq_true rfl) (by show _ ≤ N; omega) std_A_copyOfI_15 (fun q2 => ?_)
    refine g_ws (ws' := [(h, .inl (cI, aI n f)), (q2, .inl (cI, aI N (fun _ => 0)))]) rfl ?_
    refine g_astore_n C (lv' := [(2, .ref q2), (0, .ref h), (1, .int (iI ((N : Nat) : Int)))]) std_A_copyOfI_17 (by decide) rfl ?_
    refine g_aload_n C 1 std_A_copyOfI_18 rfl ?_
    refine g_iconst C std_A_copyOfI_19 ?_
    refine g_aload_n C 0 std_A_copyOfI_20 rfl ?_
    refine g_iconst C std_A_copyOfI_21 ?_
    refine g_aload_n C 1 std_A_copyOfI_22 rfl ?_
    refine g_alenI C 0 0 rfl rfl std_A_copyOfI_23 ?_
    refine g_iload_n C 2 std_A_copyOfI_24 rfl ?_
    refine g_min C ⟨by omega, by omega⟩ ⟨by omega, by omega⟩ (List.mem_cons_of_mem _ kw_2_64) (List.mem_cons_of_mem _ kw_2_45) (List.mem_cons_of_mem _ kw_1_7) (List.mem_cons_of_mem _ kw_2_46) (Nat.le_of_ble_eq_true rfl) (Nat.le_of_ble_eq_true rfl) (Nat.le_of_ble_eq_true rfl) (by show _ ≤ N; omega) std_A_copyOfI_25 ?_
    refine g_st (st' := [.int (iI ((n : Nat) : Int)), .int (iI 0), .ref q2, .int (iI 0), .ref h]) (by rw [Int.min_eq_left (by omega)]) ?_
    refine g_copyI C (ws' := [(h, .inl (cI, aI n f)), (q2, .inl (cI, aI N (cpZ f (fun _ => 0) 0 0 ((n : Nat) : Int))))]) 0 1 0 rfl rfl rfl (by omega) (by omega) (by omega) (by omega) (by omega) (by omega) (by omega) (List.mem_cons_of_mem _ kw_2_65) (List.mem_cons_of_mem _ kw_2_67) (List.mem_cons_of_mem _ kw_2_66) (List.mem_cons_of_mem _ kw_1_9) (Nat.le_of_ble_eq_true rfl) (Nat.le_of_ble_eq_true rfl) std_A_copyOfI_28 rfl ?_
    refine g_aload_n C 0 std_A_copyOfI_31 rfl ?_
    refine g_wide (k := 1) (n := N) (Nat.le_of_ble_eq_true rfl) (by omega) ?_
    exact hret _ _ () q2 (trivial) std_A_copyOfI_32
  · exfalso; omega

abbrev sty_A_copyOfL : MethodName := ⟨"java/util/Arrays", "copyOf", "([JI)[J"⟩
abbrev stc_A_copyOfL : ByteArray := prog_11_method_124_code
theorem sth_A_copyOfL : (sty_A_copyOfL).cls ≠ "java/lang/invoke/MethodHandle" ∧ (sty_A_copyOfL).cls ≠ "java/lang/invoke/VarHandle" ∧ (parseMethodDescriptor (sty_A_copyOfL).desc).map (fun d => d.parameters.length) = some 2 := by decide +kernel
theorem std_A_copyOfL_0 : decode stc_A_copyOfL 0 = .ok (.iload_n 1, 1) := by decide +kernel
theorem std_A_copyOfL_1 : decode stc_A_copyOfL 1 = .ok (.aload_n 0, 1) := by decide +kernel
theorem std_A_copyOfL_2 : decode stc_A_copyOfL 2 = .ok (.arraylength, 1) := by decide +kernel
theorem std_A_copyOfL_3 : decode stc_A_copyOfL 3 = .ok (.if_icmp .ne 11, 3) := by decide +kernel
theorem std_A_copyOfL_14 : decode stc_A_copyOfL 14 = .ok (.iload_n 1, 1) := by decide +kernel
theorem std_A_copyOfL_15 : decode stc_A_copyOfL 15 = .ok (.newarray .long, 2) := by decide +kernel
theorem kw_1_122 : Cond.arrayClass Jvm.ClassFile.FieldType.long ∈ stGW := st_t1 (List.mem_of_getElem? (i := 122) (by decide +kernel)) (by decide +kernel)
theorem std_A_copyOfL_17 : decode stc_A_copyOfL 17 = .ok (.astore_n 2, 1) := by decide +kernel
theorem std_A_copyOfL_18 : decode stc_A_copyOfL 18 = .ok (.aload_n 0, 1) := by decide +kernel
theorem std_A_copyOfL_19 : decode stc_A_copyOfL 19 = .ok (.iconst 0, 1) := by decide +kernel
theorem std_A_copyOfL_20 : decode stc_A_copyOfL 20 = .ok (.aload_n 2, 1) := by decide +kernel
theorem std_A_copyOfL_21 : decode stc_A_copyOfL 21 = .ok (.iconst 0, 1) := by decide +kernel
theorem std_A_copyOfL_22 : decode stc_A_copyOfL 22 = .ok (.aload_n 0, 1) := by decide +kernel
theorem std_A_copyOfL_23 : decode stc_A_copyOfL 23 = .ok (.arraylength, 1) := by decide +kernel
theorem std_A_copyOfL_24 : decode stc_A_copyOfL 24 = .ok (.iload_n 1, 1) := by decide +kernel
theorem std_A_copyOfL_25 : decode stc_A_copyOfL 25 = .ok (.invokestatic 304, 3) := by decide +kernel
theorem std_A_copyOfL_28 : decode stc_A_copyOfL 28 = .ok (.invokestatic 150, 3) := by decide +kernel
theorem std_A_copyOfL_31 : decode stc_A_copyOfL 31 = .ok (.aload_n 2, 1) := by decide +kernel
theorem std_A_copyOfL_32 : decode stc_A_copyOfL 32 = .ok (.areturn, 1) := by decide +kernel
set_option maxHeartbeats 4000000 in
set_option maxRecDepth 100000 in
theorem c_copyOfL (l : Launch) (dC : Nat → ClassId) (dI : Nat → Nat → Nat) (cI cJ cZ : ClassId) (h : Nat) (n : Nat) (N : Nat) (f : Int → Int) (kn : n < N) (kN : N ≤ 100000) : ∀ sz, Met l sty_A_copyOfL (Cond.code sty_A_copyOfL stc_A_copyOfL 3 (some (.array .long)) :: stGW) ({ frames := 1, cells := 1, slots := N, locals := 40 } : Room) (va_Pc [.ref h, .int (iI ((N : Nat) : Int))] (zPre (dC, dI) stCl [(cI, .int), (cJ, .long), (cZ, .boolean)] st_nw [(h, .inl (cJ, aL n f))] sz)) (va_Qr (fun (_ : Unit) => True) (fun u r => zPost (dC, dI) stCl [(cI, .int), (cJ, .long), (cZ, .boolean)] [(h, .inl (cJ, aL n f))] sz (fun u : Unit => (fun (_ : Unit) (r : Nat) => [(h, .inl (cJ, aL n f)), (r, .inl (cJ, aL N (cpZ f (fun _ => 0) 0 0 (n : Int))))]) u r) u) (va_A [(h, .inl (cJ, aL n f))] sz)) 1 N (va_A [(h, .inl (cJ, aL n f))] sz) := by
  refine met_r (by decide) rfl (Nat.le_of_ble_eq_true rfl) ?_
  intro p e s m below meth c A Q C hmn hret
  refine g_iload_n C 1 std_A_copyOfL_0 rfl ?_
  refine g_aload_n C 0 std_A_copyOfL_1 rfl ?_
  refine g_alenL C 0 1 rfl rfl std_A_copyOfL_2 ?_
  refine g_icmp_ne (tgt := 14) C std_A_copyOfL_3 (by decide) ⟨by omega, by omega⟩ ⟨by omega, by omega⟩ (fun c1 => ?_) (fun c1 => ?_)
  · refine g_iload_n C 1 std_A_copyOfL_14 rfl ?_
    refine g_newL C (N := N) 1 rfl (List.mem_cons_of_mem _ kw_1_122) (rfl) (by omega) (Nat.le_of_ble_eq_true rfl) (by show _ ≤ N; omega) std_A_copyOfL_15 (fun q2 => ?_)
    refine g_ws (ws' := [(h, .inl (cJ, aL n f)), (q2, .inl (cJ, aL N (fun _ => 0)))]) rfl ?_
    refine g_astore_n C (lv' := [(2, .ref q2), (0, .ref h), (1, .int (iI ((N : Nat) : Int)))]) std_A_copyOfL_17 (by decide) rfl ?_
    refine g_aload_n C 1 std_A_copyOfL_18 rfl ?_
    refine g_iconst C std_A_copyOfL_19 ?_
    refine g_aload_n C 0 std_A_copyOfL_20 rfl ?_
    refine g_iconst C std_A_copyOfL_21 ?_
    refine g_aload_n C 1 std_A_copyOfL_22 rfl ?_
    refine g_alenL C 0 1 rfl rfl std_A_copyOfL_23 ?_
    refine g_iload_n C 2 std_A_copyOfL_24 rfl ?_
    refine g_min C ⟨by omega, by omega⟩ ⟨by omega, by omega⟩ (List.mem_cons_of_mem _ kw_2_64) (List.mem_cons_of_mem _ kw_2_45) (List.mem_cons_of_mem _ kw_1_7) (List.mem_cons_of_mem _ kw_2_46) (Nat.le_of_ble_eq_true rfl) (Nat.le_of_ble_eq_true rfl) (Nat.le_of_ble_eq_true rfl) (by show _ ≤ N; omega) std_A_copyOfL_25 ?_
    refine g_st (st' := [.int (iI ((n : Nat) : Int)), .int (iI 0), .ref q2, .int (iI 0), .ref h]) (by rw [Int.min_eq_left (by omega)]) ?_
    refine g_copyL C (ws' := [(h, .inl (cJ, aL n f)), (q2, .inl (cJ, aL N (cpZ f (fun _ => 0) 0 0 ((n : Nat) : Int))))]) 0 1 1 rfl rfl rfl (by omega) (by omega) (by omega) (by omega) (by omega) (by omega) (by omega) (List.mem_cons_of_mem _ kw_2_65) (List.mem_cons_of_mem _ kw_2_67) (List.mem_cons_of_mem _ kw_2_66) (List.mem_cons_of_mem _ kw_1_9) (Nat.le_of_ble_eq_true rfl) (Nat.le_of_ble_eq_true rfl) std_A_copyOfL_28 rfl ?_
    refine g_aload_n C 0 std_A_copyOfL_31 rfl ?_
    refine g_wide (k := 1) (n := N) (Nat.le_of_ble_eq_true rfl) (by omega) ?_
    exact hret _ _ () q2 (trivial) std_A_copyOfL_32
  · exfalso; omega

abbrev sty_Y_growTo : MethodName := ⟨"StateTables$Layers", "growTo", "(I)V"⟩
abbrev stc_Y_growTo : ByteArray := prog_3_method_9_code
theorem sth_Y_growTo : (sty_Y_growTo).cls ≠ "java/lang/invoke/MethodHandle" ∧ (sty_Y_growTo).cls ≠ "java/lang/invoke/VarHandle" ∧ (parseMethodDescriptor (sty_Y_growTo).desc).map (fun d => d.parameters.length) = some 1 := by decide +kernel
theorem std_Y_growTo_0 : decode stc_Y_growTo 0 = .ok (.iload_n 1, 1) := by decide +kernel
theorem std_Y_growTo_1 : decode stc_Y_growTo 1 = .ok (.aload_n 0, 1) := by decide +kernel
theorem std_Y_growTo_2 : decode stc_Y_growTo 2 = .ok (.getfield 15, 3) := by decide +kernel
theorem std_Y_growTo_5 : decode stc_Y_growTo 5 = .ok (.arraylength, 1) := by decide +kernel
theorem std_Y_growTo_6 : decode stc_Y_growTo 6 = .ok (.if_icmp .gt 4, 3) := by decide +kernel
theorem std_Y_growTo_10 : decode stc_Y_growTo 10 = .ok (.iload_n 1, 1) := by decide +kernel
theorem std_Y_growTo_11 : decode stc_Y_growTo 11 = .ok (.iconst 2, 1) := by decide +kernel
theorem std_Y_growTo_12 : decode stc_Y_growTo 12 = .ok (.aload_n 0, 1) := by decide +kernel
theorem std_Y_growTo_13 : decode stc_Y_growTo 13 = .ok (.getfield 15, 3) := by decide +kernel
theorem std_Y_growTo_16 : decode stc_Y_growTo 16 = .ok (.arraylength, 1) := by decide +kernel
theorem std_Y_growTo_17 : decode stc_Y_growTo 17 = .ok (.imul, 1) := by decide +kernel
theorem std_Y_growTo_18 : decode stc_Y_growTo 18 = .ok (.sipush 4801, 3) := by decide +kernel
theorem std_Y_growTo_21 : decode stc_Y_growTo 21 = .ok (.invokestatic 69, 3) := by decide +kernel
theorem std_Y_growTo_24 : decode stc_Y_growTo 24 = .ok (.invokestatic 92, 3) := by decide +kernel
theorem kw_2_51 : Cond.methodLink "StateTables$Layers" 92 (Lib.Math.max.name) ∈ stGW := st_t2 (List.mem_of_getElem? (i := 51) (by decide +kernel)) (by decide +kernel)
theorem kw_2_52 : Cond.static (Lib.Math.max.name) ∈ stGW := st_t2 (List.mem_of_getElem? (i := 52) (by decide +kernel)) (by decide +kernel)
theorem kw_2_53 : Cond.code Lib.Math.max.name Lib.Math.max.code 2 (some .int) ∈ stGW := st_t2 (List.mem_of_getElem? (i := 53) (by decide +kernel)) (by decide +kernel)
theorem std_Y_growTo_27 : decode stc_Y_growTo 27 = .ok (.istore_n 2, 1) := by decide +kernel
theorem std_Y_growTo_28 : decode stc_Y_growTo 28 = .ok (.aload_n 0, 1) := by decide +kernel
theorem std_Y_growTo_29 : decode stc_Y_growTo 29 = .ok (.aload_n 0, 1) := by decide +kernel
theorem std_Y_growTo_30 : decode stc_Y_growTo 30 = .ok (.getfield 15, 3) := by decide +kernel
theorem std_Y_growTo_33 : decode stc_Y_growTo 33 = .ok (.iload_n 2, 1) := by decide +kernel
theorem std_Y_growTo_34 : decode stc_Y_growTo 34 = .ok (.invokestatic 95, 3) := by decide +kernel
theorem kw_2_56 : Cond.code sty_A_copyOfI stc_A_copyOfI 3 (some (.array .int)) ∈ stGW := st_t2 (List.mem_of_getElem? (i := 56) (by decide +kernel)) (by decide +kernel)
theorem kw_1_8 : Cond.initialized "java/util/Arrays" ∈ stGW := st_t1 (List.mem_of_getElem? (i := 8) (by decide +kernel)) (by decide +kernel)
theorem kw_2_54 : Cond.methodLink "StateTables$Layers" 95 (sty_A_copyOfI) ∈ stGW := st_t2 (List.mem_of_getElem? (i := 54) (by decide +kernel)) (by decide +kernel)
theorem kw_2_55 : Cond.static (sty_A_copyOfI) ∈ stGW := st_t2 (List.mem_of_getElem? (i := 55) (by decide +kernel)) (by decide +kernel)
theorem std_Y_growTo_37 : decode stc_Y_growTo 37 = .ok (.putfield 15, 3) := by decide +kernel
theorem std_Y_growTo_40 : decode stc_Y_growTo 40 = .ok (.aload_n 0, 1) := by decide +kernel
theorem std_Y_growTo_41 : decode stc_Y_growTo 41 = .ok (.aload_n 0, 1) := by decide +kernel
theorem std_Y_growTo_42 : decode stc_Y_growTo 42 = .ok (.getfield 18, 3) := by decide +kernel
theorem std_Y_growTo_45 : decode stc_Y_growTo 45 = .ok (.iload_n 2, 1) := by decide +kernel
theorem std_Y_growTo_46 : decode stc_Y_growTo 46 = .ok (.invokestatic 95, 3) := by decide +kernel
theorem std_Y_growTo_49 : decode stc_Y_growTo 49 = .ok (.putfield 18, 3) := by decide +kernel
theorem std_Y_growTo_52 : decode stc_Y_growTo 52 = .ok (.aload_n 0, 1) := by decide +kernel
theorem std_Y_growTo_53 : decode stc_Y_growTo 53 = .ok (.aload_n 0, 1) := by decide +kernel
theorem std_Y_growTo_54 : decode stc_Y_growTo 54 = .ok (.getfield 21, 3) := by decide +kernel
theorem std_Y_growTo_57 : decode stc_Y_growTo 57 = .ok (.iload_n 2, 1) := by decide +kernel
theorem std_Y_growTo_58 : decode stc_Y_growTo 58 = .ok (.invokestatic 95, 3) := by decide +kernel
theorem std_Y_growTo_61 : decode stc_Y_growTo 61 = .ok (.putfield 21, 3) := by decide +kernel
theorem std_Y_growTo_64 : decode stc_Y_growTo 64 = .ok (.aload_n 0, 1) := by decide +kernel
theorem std_Y_growTo_65 : decode stc_Y_growTo 65 = .ok (.aload_n 0, 1) := by decide +kernel
theorem std_Y_growTo_66 : decode stc_Y_growTo 66 = .ok (.getfield 24, 3) := by decide +kernel
theorem std_Y_growTo_69 : decode stc_Y_growTo 69 = .ok (.iload_n 2, 1) := by decide +kernel
theorem std_Y_growTo_70 : decode stc_Y_growTo 70 = .ok (.invokestatic 101, 3) := by decide +kernel
theorem kw_2_70 : Cond.code sty_A_copyOfL stc_A_copyOfL 3 (some (.array .long)) ∈ stGW := st_t2 (List.mem_of_getElem? (i := 70) (by decide +kernel)) (by decide +kernel)
theorem kw_2_68 : Cond.methodLink "StateTables$Layers" 101 (sty_A_copyOfL) ∈ stGW := st_t2 (List.mem_of_getElem? (i := 68) (by decide +kernel)) (by decide +kernel)
theorem kw_2_69 : Cond.static (sty_A_copyOfL) ∈ stGW := st_t2 (List.mem_of_getElem? (i := 69) (by decide +kernel)) (by decide +kernel)
theorem std_Y_growTo_73 : decode stc_Y_growTo 73 = .ok (.putfield 24, 3) := by decide +kernel
theorem std_Y_growTo_76 : decode stc_Y_growTo 76 = .ok (.aload_n 0, 1) := by decide +kernel
theorem std_Y_growTo_77 : decode stc_Y_growTo 77 = .ok (.aload_n 0, 1) := by decide +kernel
theorem std_Y_growTo_78 : decode stc_Y_growTo 78 = .ok (.getfield 28, 3) := by decide +kernel
theorem std_Y_growTo_81 : decode stc_Y_growTo 81 = .ok (.iload_n 2, 1) := by decide +kernel
theorem std_Y_growTo_82 : decode stc_Y_growTo 82 = .ok (.invokestatic 101, 3) := by decide +kernel
theorem std_Y_growTo_85 : decode stc_Y_growTo 85 = .ok (.putfield 28, 3) := by decide +kernel
theorem std_Y_growTo_88 : decode stc_Y_growTo 88 = .ok (.aload_n 0, 1) := by decide +kernel
theorem std_Y_growTo_89 : decode stc_Y_growTo 89 = .ok (.aload_n 0, 1) := by decide +kernel
theorem std_Y_growTo_90 : decode stc_Y_growTo 90 = .ok (.getfield 31, 3) := by decide +kernel
theorem std_Y_growTo_93 : decode stc_Y_growTo 93 = .ok (.iload_n 2, 1) := by decide +kernel
theorem std_Y_growTo_94 : decode stc_Y_growTo 94 = .ok (.bipush 6, 2) := by decide +kernel
theorem std_Y_growTo_96 : decode stc_Y_growTo 96 = .ok (.imul, 1) := by decide +kernel
theorem std_Y_growTo_97 : decode stc_Y_growTo 97 = .ok (.invokestatic 95, 3) := by decide +kernel
theorem std_Y_growTo_100 : decode stc_Y_growTo 100 = .ok (.putfield 31, 3) := by decide +kernel
theorem std_Y_growTo_103 : decode stc_Y_growTo 103 = .ok (.return_, 1) := by decide +kernel
theorem std_Y_growTo_9 : decode stc_Y_growTo 9 = .ok (.return_, 1) := by decide +kernel
set_option maxHeartbeats 4000000 in
set_option maxRecDepth 100000 in
theorem c_growTo (l : Launch) (dC : Nat → ClassId) (dI : Nat → Nat → Nat) (cI cJ cZ : ClassId) (y0 : Nat) (ys : Nat) (yk : Nat) (yc : Nat) (yd : Nat) (yw : Nat) (yx : Nat) (yb : Nat) (yu : Nat) (total : Int) (t0 : Nat) (cap : Nat) (N : Nat) (q : Nat) (gk : Int → Int) (gct : Int → Int) (gcf : Int → Int) (gwt : Int → Int) (gwf : Int → Int) (gbe : Int → Int) (a : Int) (kcap : cap ≤ 4801) (ka : 0 ≤ a ∧ a ≤ 4801) (kN : (a ≤ (cap : Int) ∧ N = cap) ∨ ((cap : Int) < a ∧ (N : Int) = max a (min (2 * (cap : Int)) 4801))) (kq : a ≤ (cap : Int) ∨ 11 * N ≤ q) : ∀ sz, Met l sty_Y_growTo (Cond.code sty_Y_growTo stc_Y_growTo 3 none :: stGW) ({ frames := 2, cells := 6, slots := q, locals := 62 } : Room) (va_Pc [.ref y0, .int (iI a)] (zPre (dC, dI) stCl [(cI, .int), (cJ, .long), (cZ, .boolean)] st_nw [(y0, .inr (2, [.ref t0, .int (iI total), .ref ys, .ref yk, .ref yc, .ref yd, .ref yw, .ref yx, .ref yb, .ref yu])), (yk, .inl (cI, aI cap gk)), (yc, .inl (cI, aI cap gct)), (yd, .inl (cI, aI cap gcf)), (yw, .inl (cJ, aL cap gwt)), (yx, .inl (cJ, aL cap gwf)), (yb, .inl (cI, aI (6 * cap) gbe))] sz)) (va_Qv (fun (u : Nat × Nat × Nat × Nat × Nat × Nat × (Int → Int) × (Int → Int) × (Int → Int) × (Int → Int) × (Int → Int) × (Int → Int)) => (∀ j, 0 ≤ j → j < (cap : Int) → u.2.2.2.2.2.2.1 j = gk j) ∧ (∀ j, 0 ≤ j → j < (cap : Int) → u.2.2.2.2.2.2.2.1 j = gct j) ∧ (∀ j, 0 ≤ j → j < (cap : Int) → u.2.2.2.2.2.2.2.2.1 j = gcf j) ∧ (∀ j, 0 ≤ j → j < (cap : Int) → u.2.2.2.2.2.2.2.2.2.1 j = gwt j) ∧ (∀ j, 0 ≤ j → j < (cap : Int) → u.2.2.2.2.2.2.2.2.2.2.1 j = gwf j) ∧ (∀ j, 0 ≤ j → j < 6 * (cap : Int) → u.2.2.2.2.2.2.2.2.2.2.2 j = gbe j)) (zPost (dC, dI) stCl [(cI, .int), (cJ, .long), (cZ, .boolean)] [(y0, .inr (2, [.ref t0, .int (iI total), .ref ys, .ref yk, .ref yc, .ref yd, .ref yw, .ref yx, .ref yb, .ref yu])), (yk, .inl (cI, aI cap gk)), (yc, .inl (cI, aI cap gct)), (yd, .inl (cI, aI cap gcf)), (yw, .inl (cJ, aL cap gwt)), (yx, .inl (cJ, aL cap gwf)), (yb, .inl (cI, aI (6 * cap) gbe))] sz (fun u : Nat × Nat × Nat × Nat × Nat × Nat × (Int → Int) × (Int → Int) × (Int → Int) × (Int → Int) × (Int → Int) × (Int → Int) => [(y0, .inr (2, [.ref t0, .int (iI total), .ref ys, .ref u.1, .ref u.2.1, .ref u.2.2.1, .ref u.2.2.2.1, .ref u.2.2.2.2.1, .ref u.2.2.2.2.2.1, .ref yu])), (u.1, .inl (cI, aI N (u.2.2.2.2.2.2.1))), (u.2.1, .inl (cI, aI N (u.2.2.2.2.2.2.2.1))), (u.2.2.1, .inl (cI, aI N (u.2.2.2.2.2.2.2.2.1))), (u.2.2.2.1, .inl (cJ, aL N (u.2.2.2.2.2.2.2.2.2.1))), (u.2.2.2.2.1, .inl (cJ, aL N (u.2.2.2.2.2.2.2.2.2.2.1))), (u.2.2.2.2.2.1, .inl (cI, aI (6 * N) (u.2.2.2.2.2.2.2.2.2.2.2)))])) (va_A [(y0, .inr (2, [.ref t0, .int (iI total), .ref ys, .ref yk, .ref yc, .ref yd, .ref yw, .ref yx, .ref yb, .ref yu])), (yk, .inl (cI, aI cap gk)), (yc, .inl (cI, aI cap gct)), (yd, .inl (cI, aI cap gcf)), (yw, .inl (cJ, aL cap gwt)), (yx, .inl (cJ, aL cap gwf)), (yb, .inl (cI, aI (6 * cap) gbe))] sz)) 6 q (va_A [(y0, .inr (2, [.ref t0, .int (iI total), .ref ys, .ref yk, .ref yc, .ref yd, .ref yw, .ref yx, .ref yb, .ref yu])), (yk, .inl (cI, aI cap gk)), (yc, .inl (cI, aI cap gct)), (yd, .inl (cI, aI cap gcf)), (yw, .inl (cJ, aL cap gwt)), (yx, .inl (cJ, aL cap gwf)), (yb, .inl (cI, aI (6 * cap) gbe))] sz) := by
  refine met_v (by decide) rfl (Nat.le_of_ble_eq_true rfl) ?_
  intro p e s m below meth c A Q C hmn hret
  refine g_iload_n C 1 std_Y_growTo_0 rfl ?_
  refine g_aload_n C 0 std_Y_growTo_1 rfl ?_
  refine g_get C (st_sub sti_Y) 0 rfl rfl 3 (by decide) (List.mem_cons_of_mem _ kw_1_88) rfl rfl std_Y_growTo_2 ?_
  refine g_alenI C 1 0 rfl rfl std_Y_growTo_5 ?_
  refine g_icmp_gt (tgt := 10) C std_Y_growTo_6 (by decide) ⟨by omega, by omega⟩ ⟨by omega, by omega⟩ (fun c1 => ?_) (fun c1 => ?_)
  · refine g_iload_n C 1 std_Y_growTo_10 rfl ?_
    refine g_iconst C std_Y_growTo_11 ?_
    refine g_aload_n C 0 std_Y_growTo_12 rfl ?_
    refine g_get C (st_sub sti_Y) 0 rfl rfl 3 (by decide) (List.mem_cons_of_mem _ kw_1_88) rfl rfl std_Y_growTo_13 ?_
    refine g_alenI C 1 0 rfl rfl std_Y_growTo_16 ?_
    refine g_imul C std_Y_growTo_17 ?_
    refine g_sipush C std_Y_growTo_18 (by decide) ?_
    refine g_min C ⟨by omega, by omega⟩ ⟨by omega, by omega⟩ (List.mem_cons_of_mem _ kw_2_44) (List.mem_cons_of_mem _ kw_2_45) (List.mem_cons_of_mem _ kw_1_7) (List.mem_cons_of_mem _ kw_2_46) (Nat.le_of_ble_eq_true rfl) (Nat.le_of_ble_eq_true rfl) (Nat.le_of_ble_eq_true rfl) (by show _ ≤ q; omega) std_Y_growTo_21 ?_
    refine g_max C ⟨by omega, by omega⟩ ⟨by omega, by omega⟩ (List.mem_cons_of_mem _ kw_2_51) (List.mem_cons_of_mem _ kw_2_52) (List.mem_cons_of_mem _ kw_1_7) (List.mem_cons_of_mem _ kw_2_53) (Nat.le_of_ble_eq_true rfl) (Nat.le_of_ble_eq_true rfl) (Nat.le_of_ble_eq_true rfl) (by show _ ≤ q; omega) std_Y_growTo_24 ?_
    refine g_istore_n C (lv' := [(2, .int (iI (max a (min (2 * ((cap : Nat) : Int)) 4801)))), (0, .ref y0), (1, .int (iI a))]) std_Y_growTo_27 (by decide) rfl ?_
    obtain ⟨kN1, kN2⟩ : (cap : Int) < a ∧ (N : Int) = max a (min (2 * (cap : Int)) 4801) := by omega
    rw [← kN2]
    refine g_aload_n C 1 std_Y_growTo_28 rfl ?_
    refine g_aload_n C 1 std_Y_growTo_29 rfl ?_
    refine g_get C (st_sub sti_Y) 0 rfl rfl 3 (by decide) (List.mem_cons_of_mem _ kw_1_88) rfl rfl std_Y_growTo_30 ?_
    refine g_iload_n C 0 std_Y_growTo_33 rfl ?_
    refine g_S_r (wc := [(yk, .inl (cI, aI cap gk))]) (wr := [(y0, .inr (2, [.ref t0, .int (iI total), .ref ys, .ref yk, .ref yc, .ref yd, .ref yw, .ref yx, .ref yb, .ref yu])), (yc, .inl (cI, aI cap gct)), (yd, .inl (cI, aI cap gcf)), (yw, .inl (cJ, aL cap gwt)), (yx, .inl (cJ, aL cap gwf)), (yb, .inl (cI, aI (6 * cap) gbe))]) (rest := [.ref y0]) C (c_copyOfI l dC dI cI cJ cZ yk cap N gk (by omega) (by omega)) (st_cS C kw_2_56 kw_2_54 kw_1_8 kw_2_55 sth_A_copyOfI ⟨Nat.le_of_ble_eq_true rfl, Nat.le_of_ble_eq_true rfl⟩) rfl rfl (Nat.le_of_ble_eq_true rfl) std_Y_growTo_34 ⟨Nat.le_of_ble_eq_true rfl, by show _ ≤ q; omega⟩ [1] [0, 2, 3, 4, 5, 6] rfl rfl rfl rfl (by decide) (fun u3 r2 h4 => ?_)
    refine g_ws (ws' := [(y0, .inr (2, [.ref t0, .int (iI total), .ref ys, .ref yk, .ref yc, .ref yd, .ref yw, .ref yx, .ref yb, .ref yu])), (yc, .inl (cI, aI cap gct)), (yd, .inl (cI, aI cap gcf)), (yw, .inl (cJ, aL cap gwt)), (yx, .inl (cJ, aL cap gwf)), (yb, .inl (cI, aI (6 * cap) gbe)), (yk, .inl (cI, aI cap gk)), (r2, .inl (cI, aI N (cpZ gk (fun _ => 0) 0 0 ((cap : Nat) : Int))))]) rfl ?_
    refine g_put C (ws' := [(y0, .inr (2, [.ref t0, .int (iI total), .ref ys, .ref r2, .ref yc, .ref yd, .ref yw, .ref yx, .ref yb, .ref yu])), (yc, .inl (cI, aI cap gct)), (yd, .inl (cI, aI cap gcf)), (yw, .inl (cJ, aL cap gwt)), (yx, .inl (cJ, aL cap gwf)), (yb, .inl (cI, aI (6 * cap) gbe)), (yk, .inl (cI, aI cap gk)), (r2, .inl (cI, aI N (cpZ gk (fun _ => 0) 0 0 ((cap : Nat) : Int))))]) (st_sub sti_Y) stt_Y sto_Y stn_Y 0 rfl rfl 3 (by decide) (List.mem_cons_of_mem _ kw_1_88) rfl rfl rfl rfl (Nat.le_of_ble_eq_true rfl) std_Y_growTo_37 rfl ?_
    refine g_aload_n C 1 std_Y_growTo_40 rfl ?_
    refine g_aload_n C 1 std_Y_growTo_41 rfl ?_
    refine g_get C (st_sub sti_Y) 0 rfl rfl 4 (by decide) (List.mem_cons_of_mem _ kw_1_90) rfl rfl std_Y_growTo_42 ?_
    refine g_iload_n C 0 std_Y_growTo_45 rfl ?_
    refine g_S_r (wc := [(yc, .inl (cI, aI cap gct))]) (wr := [(y0, .inr (2, [.ref t0, .int (iI total), .ref ys, .ref r2, .ref yc, .ref yd, .ref yw, .ref yx, .ref yb, .ref yu])), (yd, .inl (cI, aI cap gcf)), (yw, .inl (cJ, aL cap gwt)), (yx, .inl (cJ, aL cap gwf)), (yb, .inl (cI, aI (6 * cap) gbe)), (yk, .inl (cI, aI cap gk)), (r2, .inl (cI, aI N (cpZ gk (fun _ => 0) 0 0 ((cap : Nat) : Int))))]) (rest := [.ref y0]) C (c_copyOfI l dC dI cI cJ cZ yc cap N gct (by omega) (by omega)) (st_cS C kw_2_56 kw_2_54 kw_1_8 kw_2_55 sth_A_copyOfI ⟨Nat.le_of_ble_eq_true rfl, Nat.le_of_ble_eq_true rfl⟩) rfl rfl (Nat.le_of_ble_eq_true rfl) std_Y_growTo_46 ⟨Nat.le_of_ble_eq_true rfl, by show _ ≤ q; omega⟩ [1] [0, 2, 3, 4, 5, 6, 7] rfl rfl rfl rfl (by decide) (fun u6 r5 h7 => ?_)
    refine g_ws (ws' := [(y0, .inr (2, [.ref t0, .int (iI total), .ref ys, .ref r2, .ref yc, .ref yd, .ref yw, .ref yx, .ref yb, .ref yu])), (yd, .inl (cI, aI cap gcf)), (yw, .inl (cJ, aL cap gwt)), (yx, .inl (cJ, aL cap gwf)), (yb, .inl (cI, aI (6 * cap) gbe)), (yk, .inl (cI, aI cap gk)), (r2, .inl (cI, aI N (cpZ gk (fun _ => 0) 0 0 ((cap : Nat) : Int)))), (yc, .inl (cI, aI cap gct)), (r5, .inl (cI, aI N (cpZ gct (fun _ => 0) 0 0 ((cap : Nat) : Int))))]) rfl ?_
    refine g_put C (ws' := [(y0, .inr (2, [.ref t0, .int (iI total), .ref ys, .ref r2, .ref r5, .ref yd, .ref yw, .ref yx, .ref yb, .ref yu])), (yd, .inl (cI, aI cap gcf)), (yw, .inl (cJ, aL cap gwt)), (yx, .inl (cJ, aL cap gwf)), (yb, .inl (cI, aI (6 * cap) gbe)), (yk, .inl (cI, aI cap gk)), (r2, .inl (cI, aI N (cpZ gk (fun _ => 0) 0 0 ((cap : Nat) : Int)))), (yc, .inl (cI, aI cap gct)), (r5, .inl (cI, aI N (cpZ gct (fun _ => 0) 0 0 ((cap : Nat) : Int))))]) (st_sub sti_Y) stt_Y sto_Y stn_Y 0 rfl rfl 4 (by decide) (List.mem_cons_of_mem _ kw_1_90) rfl rfl rfl rfl (Nat.le_of_ble_eq_true rfl) std_Y_growTo_49 rfl ?_
    refine g_aload_n C 1 std_Y_growTo_52 rfl ?_
    refine g_aload_n C 1 std_Y_growTo_53 rfl ?_
    refine g_get C (st_sub sti_Y) 0 rfl rfl 5 (by decide) (List.mem_cons_of_mem _ kw_1_92) rfl rfl std_Y_growTo_54 ?_
    refine g_iload_n C 0 std_Y_growTo_57 rfl ?_
    refine g_S_r (wc := [(yd, .inl (cI, aI cap gcf))]) (wr := [(y0, .inr (2, [.ref t0, .int (iI total), .ref ys, .ref r2, .ref r5, .ref yd, .ref yw, .ref yx, .ref yb, .ref yu])), (yw, .inl (cJ, aL cap gwt)), (yx, .inl (cJ, aL cap gwf)), (yb, .inl (cI, aI (6 * cap) gbe)), (yk, .inl (cI, aI cap gk)), (r2, .inl (cI, aI N (cpZ gk (fun _ => 0) 0 0 ((cap : Nat) : Int)))), (yc, .inl (cI, aI cap gct)), (r5, .inl (cI, aI N (cpZ gct (fun _ => 0) 0 0 ((cap : Nat) : Int))))]) (rest := [.ref y0]) C (c_copyOfI l dC dI cI cJ cZ yd cap N gcf (by omega) (by omega)) (st_cS C kw_2_56 kw_2_54 kw_1_8 kw_2_55 sth_A_copyOfI ⟨Nat.le_of_ble_eq_true rfl, Nat.le_of_ble_eq_true rfl⟩) rfl rfl (Nat.le_of_ble_eq_true rfl) std_Y_growTo_58 ⟨Nat.le_of_ble_eq_true rfl, by show _ ≤ q; omega⟩ [1] [0, 2, 3, 4, 5, 6, 7, 8] rfl rfl rfl rfl (by decide) (fun u9 r8 h10 => ?_)
    refine g_ws (ws' := [(y0, .inr (2, [.ref t0, .int (iI total), .ref ys, .ref r2, .ref r5, .ref yd, .ref yw, .ref yx, .ref yb, .ref yu])), (yw, .inl (cJ, aL cap gwt)), (yx, .inl (cJ, aL cap gwf)), (yb, .inl (cI, aI (6 * cap) gbe)), (yk, .inl (cI, aI cap gk)), (r2, .inl (cI, aI N (cpZ gk (fun _ => 0) 0 0 ((cap : Nat) : Int)))), (yc, .inl (cI, aI cap gct)), (r5, .inl (cI, aI N (cpZ gct (fun _ => 0) 0 0 ((cap : Nat) : Int)))), (yd, .inl (cI, aI cap gcf)), (r8, .inl (cI, aI N (cpZ gcf (fun _ => 0) 0 0 ((cap : Nat) : Int))))]) rfl ?_
    refine g_put C (ws' := [(y0, .inr (2, [.ref t0, .int (iI total), .ref ys, .ref r2, .ref r5, .ref r8, .ref yw, .ref yx, .ref yb, .ref yu])), (yw, .inl (cJ, aL cap gwt)), (yx, .inl (cJ, aL cap gwf)), (yb, .inl (cI, aI (6 * cap) gbe)), (yk, .inl (cI, aI cap gk)), (r2, .inl (cI, aI N (cpZ gk (fun _ => 0) 0 0 ((cap : Nat) : Int)))), (yc, .inl (cI, aI cap gct)), (r5, .inl (cI, aI N (cpZ gct (fun _ => 0) 0 0 ((cap : Nat) : Int)))), (yd, .inl (cI, aI cap gcf)), (r8, .inl (cI, aI N (cpZ gcf (fun _ => 0) 0 0 ((cap : Nat) : Int))))]) (st_sub sti_Y) stt_Y sto_Y stn_Y 0 rfl rfl 5 (by decide) (List.mem_cons_of_mem _ kw_1_92) rfl rfl rfl rfl (Nat.le_of_ble_eq_true rfl) std_Y_growTo_61 rfl ?_
    refine g_aload_n C 1 std_Y_growTo_64 rfl ?_
    refine g_aload_n C 1 std_Y_growTo_65 rfl ?_
    refine g_get C (st_sub sti_Y) 0 rfl rfl 6 (by decide) (List.mem_cons_of_mem _ kw_1_94) rfl rfl std_Y_growTo_66 ?_
    refine g_iload_n C 0 std_Y_growTo_69 rfl ?_
    refine g_S_r (wc := [(yw, .inl (cJ, aL cap gwt))]) (wr := [(y0, .inr (2, [.ref t0, .int (iI total), .ref ys, .ref r2, .ref r5, .ref r8, .ref yw, .ref yx, .ref yb, .ref yu])), (yx, .inl (cJ, aL cap gwf)), (yb, .inl (cI, aI (6 * cap) gbe)), (yk, .inl (cI, aI cap gk)), (r2, .inl (cI, aI N (cpZ gk (fun _ => 0) 0 0 ((cap : Nat) : Int)))), (yc, .inl (cI, aI cap gct)), (r5, .inl (cI, aI N (cpZ gct (fun _ => 0) 0 0 ((cap : Nat) : Int)))), (yd, .inl (cI, aI cap gcf)), (r8, .inl (cI, aI N (cpZ gcf (fun _ => 0) 0 0 ((cap : Nat) : Int))))]) (rest := [.ref y0]) C (c_copyOfL l dC dI cI cJ cZ yw cap N gwt (by omega) (by omega)) (st_cS C kw_2_70 kw_2_68 kw_1_8 kw_2_69 sth_A_copyOfL ⟨Nat.le_of_ble_eq_true rfl, Nat.le_of_ble_eq_true rfl⟩) rfl rfl (Nat.le_of_ble_eq_true rfl) std_Y_growTo_70 ⟨Nat.le_of_ble_eq_true rfl, by show _ ≤ q; omega⟩ [1] [0, 2, 3, 4, 5, 6, 7, 8, 9] rfl rfl rfl rfl (by decide) (fun u12 r11 h13 => ?_)
    refine g_ws (ws' := [(y0, .inr (2, [.ref t0, .int (iI total), .ref ys, .ref r2, .ref r5, .ref r8, .ref yw, .ref yx, .ref yb, .ref yu])), (yx, .inl (cJ, aL cap gwf)), (yb, .inl (cI, aI (6 * cap) gbe)), (yk, .inl (cI, aI cap gk)), (r2, .inl (cI, aI N (cpZ gk (fun _ => 0) 0 0 ((cap : Nat) : Int)))), (yc, .inl (cI, aI cap gct)), (r5, .inl (cI, aI N (cpZ gct (fun _ => 0) 0 0 ((cap : Nat) : Int)))), (yd, .inl (cI, aI cap gcf)), (r8, .inl (cI, aI N (cpZ gcf (fun _ => 0) 0 0 ((cap : Nat) : Int)))), (yw, .inl (cJ, aL cap gwt)), (r11, .inl (cJ, aL N (cpZ gwt (fun _ => 0) 0 0 ((cap : Nat) : Int))))]) rfl ?_
    refine g_put C (ws' := [(y0, .inr (2, [.ref t0, .int (iI total), .ref ys, .ref r2, .ref r5, .ref r8, .ref r11, .ref yx, .ref yb, .ref yu])), (yx, .inl (cJ, aL cap gwf)), (yb, .inl (cI, aI (6 * cap) gbe)), (yk, .inl (cI, aI cap gk)), (r2, .inl (cI, aI N (cpZ gk (fun _ => 0) 0 0 ((cap : Nat) : Int)))), (yc, .inl (cI, aI cap gct)), (r5, .inl (cI, aI N (cpZ gct (fun _ => 0) 0 0 ((cap : Nat) : Int)))), (yd, .inl (cI, aI cap gcf)), (r8, .inl (cI, aI N (cpZ gcf (fun _ => 0) 0 0 ((cap : Nat) : Int)))), (yw, .inl (cJ, aL cap gwt)), (r11, .inl (cJ, aL N (cpZ gwt (fun _ => 0) 0 0 ((cap : Nat) : Int))))]) (st_sub sti_Y) stt_Y sto_Y stn_Y 0 rfl rfl 6 (by decide) (List.mem_cons_of_mem _ kw_1_94) rfl rfl rfl rfl (Nat.le_of_ble_eq_true rfl) std_Y_growTo_73 rfl ?_
    refine g_aload_n C 1 std_Y_growTo_76 rfl ?_
    refine g_aload_n C 1 std_Y_growTo_77 rfl ?_
    refine g_get C (st_sub sti_Y) 0 rfl rfl 7 (by decide) (List.mem_cons_of_mem _ kw_1_96) rfl rfl std_Y_growTo_78 ?_
    refine g_iload_n C 0 std_Y_growTo_81 rfl ?_
    refine g_S_r (wc := [(yx, .inl (cJ, aL cap gwf))]) (wr := [(y0, .inr (2, [.ref t0, .int (iI total), .ref ys, .ref r2, .ref r5, .ref r8, .ref r11, .ref yx, .ref yb, .ref yu])), (yb, .inl (cI, aI (6 * cap) gbe)), (yk, .inl (cI, aI cap gk)), (r2, .inl (cI, aI N (cpZ gk (fun _ => 0) 0 0 ((cap : Nat) : Int)))), (yc, .inl (cI, aI cap gct)), (r5, .inl (cI, aI N (cpZ gct (fun _ => 0) 0 0 ((cap : Nat) : Int)))), (yd, .inl (cI, aI cap gcf)), (r8, .inl (cI, aI N (cpZ gcf (fun _ => 0) 0 0 ((cap : Nat) : Int)))), (yw, .inl (cJ, aL cap gwt)), (r11, .inl (cJ, aL N (cpZ gwt (fun _ => 0) 0 0 ((cap : Nat) : Int))))]) (rest := [.ref y0]) C (c_copyOfL l dC dI cI cJ cZ yx cap N gwf (by omega) (by omega)) (st_cS C kw_2_70 kw_2_68 kw_1_8 kw_2_69 sth_A_copyOfL ⟨Nat.le_of_ble_eq_true rfl, Nat.le_of_ble_eq_true rfl⟩) rfl rfl (Nat.le_of_ble_eq_true rfl) std_Y_growTo_82 ⟨Nat.le_of_ble_eq_true rfl, by show _ ≤ q; omega⟩ [1] [0, 2, 3, 4, 5, 6, 7, 8, 9, 10] rfl rfl rfl rfl (by decide) (fun u15 r14 h16 => ?_)
    refine g_ws (ws' := [(y0, .inr (2, [.ref t0, .int (iI total), .ref ys, .ref r2, .ref r5, .ref r8, .ref r11, .ref yx, .ref yb, .ref yu])), (yb, .inl (cI, aI (6 * cap) gbe)), (yk, .inl (cI, aI cap gk)), (r2, .inl (cI, aI N (cpZ gk (fun _ => 0) 0 0 ((cap : Nat) : Int)))), (yc, .inl (cI, aI cap gct)), (r5, .inl (cI, aI N (cpZ gct (fun _ => 0) 0 0 ((cap : Nat) : Int)))), (yd, .inl (cI, aI cap gcf)), (r8, .inl (cI, aI N (cpZ gcf (fun _ => 0) 0 0 ((cap : Nat) : Int)))), (yw, .inl (cJ, aL cap gwt)), (r11, .inl (cJ, aL N (cpZ gwt (fun _ => 0) 0 0 ((cap : Nat) : Int)))), (yx, .inl (cJ, aL cap gwf)), (r14, .inl (cJ, aL N (cpZ gwf (fun _ => 0) 0 0 ((cap : Nat) : Int))))]) rfl ?_
    refine g_put C (ws' := [(y0, .inr (2, [.ref t0, .int (iI total), .ref ys, .ref r2, .ref r5, .ref r8, .ref r11, .ref r14, .ref yb, .ref yu])), (yb, .inl (cI, aI (6 * cap) gbe)), (yk, .inl (cI, aI cap gk)), (r2, .inl (cI, aI N (cpZ gk (fun _ => 0) 0 0 ((cap : Nat) : Int)))), (yc, .inl (cI, aI cap gct)), (r5, .inl (cI, aI N (cpZ gct (fun _ => 0) 0 0 ((cap : Nat) : Int)))), (yd, .inl (cI, aI cap gcf)), (r8, .inl (cI, aI N (cpZ gcf (fun _ => 0) 0 0 ((cap : Nat) : Int)))), (yw, .inl (cJ, aL cap gwt)), (r11, .inl (cJ, aL N (cpZ gwt (fun _ => 0) 0 0 ((cap : Nat) : Int)))), (yx, .inl (cJ, aL cap gwf)), (r14, .inl (cJ, aL N (cpZ gwf (fun _ => 0) 0 0 ((cap : Nat) : Int))))]) (st_sub sti_Y) stt_Y sto_Y stn_Y 0 rfl rfl 7 (by decide) (List.mem_cons_of_mem _ kw_1_96) rfl rfl rfl rfl (Nat.le_of_ble_eq_true rfl) std_Y_growTo_85 rfl ?_
    refine g_aload_n C 1 std_Y_growTo_88 rfl ?_
    refine g_aload_n C 1 std_Y_growTo_89 rfl ?_
    refine g_get C (st_sub sti_Y) 0 rfl rfl 8 (by decide) (List.mem_cons_of_mem _ kw_1_99) rfl rfl std_Y_growTo_90 ?_
    refine g_iload_n C 0 std_Y_growTo_93 rfl ?_
    refine g_bipush C std_Y_growTo_94 (by decide) ?_
    refine g_imul C std_Y_growTo_96 ?_
    refine g_st (st' := [.int (iI ((6 * N : Nat) : Int)), .ref yb, .ref y0]) (by rw [show ((N : Nat) : Int) * 6 = ((6 * N : Nat) : Int) by omega]) ?_
    refine g_S_r (wc := [(yb, .inl (cI, aI (6 * cap) gbe))]) (wr := [(y0, .inr (2, [.ref t0, .int (iI total), .ref ys, .ref r2, .ref r5, .ref r8, .ref r11, .ref r14, .ref yb, .ref yu])), (yk, .inl (cI, aI cap gk)), (r2, .inl (cI, aI N (cpZ gk (fun _ => 0) 0 0 ((cap : Nat) : Int)))), (yc, .inl (cI, aI cap gct)), (r5, .inl (cI, aI N (cpZ gct (fun _ => 0) 0 0 ((cap : Nat) : Int)))), (yd, .inl (cI, aI cap gcf)), (r8, .inl (cI, aI N (cpZ gcf (fun _ => 0) 0 0 ((cap : Nat) : Int)))), (yw, .inl (cJ, aL cap gwt)), (r11, .inl (cJ, aL N (cpZ gwt (fun _ => 0) 0 0 ((cap : Nat) : Int)))), (yx, .inl (cJ, aL cap gwf)), (r14, .inl (cJ, aL N (cpZ gwf (fun _ => 0) 0 0 ((cap : Nat) : Int))))]) (rest := [.ref y0]) C (c_copyOfI l dC dI cI cJ cZ yb (6 * cap) (6 * N) gbe (by omega) (by omega)) (st_cS C kw_2_56 kw_2_54 kw_1_8 kw_2_55 sth_A_copyOfI ⟨Nat.le_of_ble_eq_true rfl, Nat.le_of_ble_eq_true rfl⟩) rfl rfl (Nat.le_of_ble_eq_true rfl) std_Y_growTo_97 ⟨Nat.le_of_ble_eq_true rfl, by show _ ≤ q; omega⟩ [1] [0, 2, 3, 4, 5, 6, 7, 8, 9, 10, 11] rfl rfl rfl rfl (by decide) (fun u18 r17 h19 => ?_)
    refine g_ws (ws' := [(y0, .inr (2, [.ref t0, .int (iI total), .ref ys, .ref r2, .ref r5, .ref r8, .ref r11, .ref r14, .ref yb, .ref yu])), (yk, .inl (cI, aI cap gk)), (r2, .inl (cI, aI N (cpZ gk (fun _ => 0) 0 0 ((cap : Nat) : Int)))), (yc, .inl (cI, aI cap gct)), (r5, .inl (cI, aI N (cpZ gct (fun _ => 0) 0 0 ((cap : Nat) : Int)))), (yd, .inl (cI, aI cap gcf)), (r8, .inl (cI, aI N (cpZ gcf (fun _ => 0) 0 0 ((cap : Nat) : Int)))), (yw, .inl (cJ, aL cap gwt)), (r11, .inl (cJ, aL N (cpZ gwt (fun _ => 0) 0 0 ((cap : Nat) : Int)))), (yx, .inl (cJ, aL cap gwf)), (r14, .inl (cJ, aL N (cpZ gwf (fun _ => 0) 0 0 ((cap : Nat) : Int)))), (yb, .inl (cI, aI (6 * cap) gbe)), (r17, .inl (cI, aI (6 * N) (cpZ gbe (fun _ => 0) 0 0 (((6 * cap) : Nat) : Int))))]) rfl ?_
    refine g_put C (ws' := [(y0, .inr (2, [.ref t0, .int (iI total), .ref ys, .ref r2, .ref r5, .ref r8, .ref r11, .ref r14, .ref r17, .ref yu])), (yk, .inl (cI, aI cap gk)), (r2, .inl (cI, aI N (cpZ gk (fun _ => 0) 0 0 ((cap : Nat) : Int)))), (yc, .inl (cI, aI cap gct)), (r5, .inl (cI, aI N (cpZ gct (fun _ => 0) 0 0 ((cap : Nat) : Int)))), (yd, .inl (cI, aI cap gcf)), (r8, .inl (cI, aI N (cpZ gcf (fun _ => 0) 0 0 ((cap : Nat) : Int)))), (yw, .inl (cJ, aL cap gwt)), (r11, .inl (cJ, aL N (cpZ gwt (fun _ => 0) 0 0 ((cap : Nat) : Int)))), (yx, .inl (cJ, aL cap gwf)), (r14, .inl (cJ, aL N (cpZ gwf (fun _ => 0) 0 0 ((cap : Nat) : Int)))), (yb, .inl (cI, aI (6 * cap) gbe)), (r17, .inl (cI, aI (6 * N) (cpZ gbe (fun _ => 0) 0 0 (((6 * cap) : Nat) : Int))))]) (st_sub sti_Y) stt_Y sto_Y stn_Y 0 rfl rfl 8 (by decide) (List.mem_cons_of_mem _ kw_1_99) rfl rfl rfl rfl (Nat.le_of_ble_eq_true rfl) std_Y_growTo_100 rfl ?_
    refine g_sub (ws' := [(y0, .inr (2, [.ref t0, .int (iI total), .ref ys, .ref r2, .ref r5, .ref r8, .ref r11, .ref r14, .ref r17, .ref yu])), (r2, .inl (cI, aI N (cpZ gk (fun _ => 0) 0 0 ((cap : Nat) : Int)))), (r5, .inl (cI, aI N (cpZ gct (fun _ => 0) 0 0 ((cap : Nat) : Int)))), (r8, .inl (cI, aI N (cpZ gcf (fun _ => 0) 0 0 ((cap : Nat) : Int)))), (r11, .inl (cJ, aL N (cpZ gwt (fun _ => 0) 0 0 ((cap : Nat) : Int)))), (r14, .inl (cJ, aL N (cpZ gwf (fun _ => 0) 0 0 ((cap : Nat) : Int)))), (r17, .inl (cI, aI (6 * N) (cpZ gbe (fun _ => 0) 0 0 (((6 * cap) : Nat) : Int))))]) [0, 2, 4, 6, 8, 10, 12] rfl rfl ?_
    refine g_wide (k := 6) (n := q) (Nat.le_of_ble_eq_true rfl) (by omega) ?_
    exact hret _ _ (r2, r5, r8, r11, r14, r17, (cpZ gk (fun _ => 0) 0 0 ((cap : Nat) : Int)), (cpZ gct (fun _ => 0) 0 0 ((cap : Nat) : Int)), (cpZ gcf (fun _ => 0) 0 0 ((cap : Nat) : Int)), (cpZ gwt (fun _ => 0) 0 0 ((cap : Nat) : Int)), (cpZ gwf (fun _ => 0) 0 0 ((cap : Nat) : Int)), (cpZ gbe (fun _ => 0) 0 0 (((6 * cap) : Nat) : Int))) (⟨fun j h1 h2 => cpZ_lo (f := gk) (g := fun _ => 0) (n := ((cap : Nat) : Int)) h1 (by omega), fun j h1 h2 => cpZ_lo (f := gct) (g := fun _ => 0) (n := ((cap : Nat) : Int)) h1 (by omega), fun j h1 h2 => cpZ_lo (f := gcf) (g := fun _ => 0) (n := ((cap : Nat) : Int)) h1 (by omega), fun j h1 h2 => cpZ_lo (f := gwt) (g := fun _ => 0) (n := ((cap : Nat) : Int)) h1 (by omega), fun j h1 h2 => cpZ_lo (f := gwf) (g := fun _ => 0) (n := ((cap : Nat) : Int)) h1 (by omega), fun j h1 h2 => cpZ_lo (f := gbe) (g := fun _ => 0) (n := (((6 * cap) : Nat) : Int)) h1 (by omega)⟩) std_Y_growTo_103
  · refine g_wide (k := 6) (n := q) (Nat.le_of_ble_eq_true rfl) (by omega) ?_
    have hNc : N = cap := by omega
    subst hNc
    exact hret _ _ (yk, yc, yd, yw, yx, yb, gk, gct, gcf, gwt, gwf, gbe) (⟨fun _ _ _ => rfl, fun _ _ _ => rfl, fun _ _ _ => rfl, fun _ _ _ => rfl, fun _ _ _ => rfl, fun _ _ _ => rfl⟩) std_Y_growTo_9

