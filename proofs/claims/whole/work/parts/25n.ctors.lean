/-! constructors -/
abbrev sty_T_init : MethodName := ⟨"StateTables$Told", "<init>", "()V"⟩
abbrev stc_T_init : ByteArray := prog_5_method_1_code
theorem sth_T_init : (sty_T_init).cls ≠ "java/lang/invoke/MethodHandle" ∧ (sty_T_init).cls ≠ "java/lang/invoke/VarHandle" ∧ (parseMethodDescriptor (sty_T_init).desc).map (fun d => d.parameters.length) = some 0 := by decide +kernel
theorem std_T_init_0 : decode stc_T_init 0 = .ok (.aload_n 0, 1) := by decide +kernel
theorem std_T_init_1 : decode stc_T_init 1 = .ok (.invokespecial 3, 3) := by decide +kernel
theorem kw_1_23 : Cond.methodLink "StateTables$Told" 3 (Lib.objectInit) ∈ stGW := st_t1 (List.mem_of_getElem? (i := 23) (by decide +kernel)) (by decide +kernel)
theorem kw_1_16 : Cond.instanceMethod (Lib.objectInit) ∈ stGW := st_t1 (List.mem_of_getElem? (i := 16) (by decide +kernel)) (by decide +kernel)
theorem kw_1_17 : Cond.code Lib.objectInit ⟨#[0xb1]⟩ 1 none ∈ stGW := st_t1 (List.mem_of_getElem? (i := 17) (by decide +kernel)) (by decide +kernel)
theorem std_T_init_4 : decode stc_T_init 4 = .ok (.aload_n 0, 1) := by decide +kernel
theorem std_T_init_5 : decode stc_T_init 5 = .ok (.bipush 12, 2) := by decide +kernel
theorem std_T_init_7 : decode stc_T_init 7 = .ok (.newarray .int, 2) := by decide +kernel
theorem std_T_init_9 : decode stc_T_init 9 = .ok (.putfield 9, 3) := by decide +kernel
theorem std_T_init_12 : decode stc_T_init 12 = .ok (.aload_n 0, 1) := by decide +kernel
theorem std_T_init_13 : decode stc_T_init 13 = .ok (.bipush 72, 2) := by decide +kernel
theorem std_T_init_15 : decode stc_T_init 15 = .ok (.newarray .int, 2) := by decide +kernel
theorem std_T_init_17 : decode stc_T_init 17 = .ok (.putfield 15, 3) := by decide +kernel
theorem std_T_init_20 : decode stc_T_init 20 = .ok (.aload_n 0, 1) := by decide +kernel
theorem std_T_init_21 : decode stc_T_init 21 = .ok (.bipush 72, 2) := by decide +kernel
theorem std_T_init_23 : decode stc_T_init 23 = .ok (.newarray .int, 2) := by decide +kernel
theorem std_T_init_25 : decode stc_T_init 25 = .ok (.putfield 18, 3) := by decide +kernel
theorem std_T_init_28 : decode stc_T_init 28 = .ok (.aload_n 0, 1) := by decide +kernel
theorem std_T_init_29 : decode stc_T_init 29 = .ok (.bipush 72, 2) := by decide +kernel
theorem std_T_init_31 : decode stc_T_init 31 = .ok (.newarray .int, 2) := by decide +kernel
theorem std_T_init_33 : decode stc_T_init 33 = .ok (.putfield 21, 3) := by decide +kernel
theorem std_T_init_36 : decode stc_T_init 36 = .ok (.aload_n 0, 1) := by decide +kernel
theorem std_T_init_37 : decode stc_T_init 37 = .ok (.bipush 72, 2) := by decide +kernel
theorem std_T_init_39 : decode stc_T_init 39 = .ok (.newarray .int, 2) := by decide +kernel
theorem std_T_init_41 : decode stc_T_init 41 = .ok (.putfield 24, 3) := by decide +kernel
theorem std_T_init_44 : decode stc_T_init 44 = .ok (.aload_n 0, 1) := by decide +kernel
theorem std_T_init_45 : decode stc_T_init 45 = .ok (.iconst 2, 1) := by decide +kernel
theorem std_T_init_46 : decode stc_T_init 46 = .ok (.newarray .int, 2) := by decide +kernel
theorem std_T_init_48 : decode stc_T_init 48 = .ok (.dup, 1) := by decide +kernel
theorem std_T_init_49 : decode stc_T_init 49 = .ok (.iconst 0, 1) := by decide +kernel
theorem std_T_init_50 : decode stc_T_init 50 = .ok (.iconst 0, 1) := by decide +kernel
theorem std_T_init_51 : decode stc_T_init 51 = .ok (.iastore, 1) := by decide +kernel
theorem std_T_init_52 : decode stc_T_init 52 = .ok (.dup, 1) := by decide +kernel
theorem std_T_init_53 : decode stc_T_init 53 = .ok (.iconst 1, 1) := by decide +kernel
theorem std_T_init_54 : decode stc_T_init 54 = .ok (.iconst 0, 1) := by decide +kernel
theorem std_T_init_55 : decode stc_T_init 55 = .ok (.iastore, 1) := by decide +kernel
theorem std_T_init_56 : decode stc_T_init 56 = .ok (.putfield 27, 3) := by decide +kernel
theorem std_T_init_59 : decode stc_T_init 59 = .ok (.aload_n 0, 1) := by decide +kernel
theorem std_T_init_60 : decode stc_T_init 60 = .ok (.iconst 2, 1) := by decide +kernel
theorem std_T_init_61 : decode stc_T_init 61 = .ok (.newarray .int, 2) := by decide +kernel
theorem std_T_init_63 : decode stc_T_init 63 = .ok (.dup, 1) := by decide +kernel
theorem std_T_init_64 : decode stc_T_init 64 = .ok (.iconst 0, 1) := by decide +kernel
theorem std_T_init_65 : decode stc_T_init 65 = .ok (.bipush 40, 2) := by decide +kernel
theorem std_T_init_67 : decode stc_T_init 67 = .ok (.iastore, 1) := by decide +kernel
theorem std_T_init_68 : decode stc_T_init 68 = .ok (.dup, 1) := by decide +kernel
theorem std_T_init_69 : decode stc_T_init 69 = .ok (.iconst 1, 1) := by decide +kernel
theorem std_T_init_70 : decode stc_T_init 70 = .ok (.bipush 40, 2) := by decide +kernel
theorem std_T_init_72 : decode stc_T_init 72 = .ok (.iastore, 1) := by decide +kernel
theorem std_T_init_73 : decode stc_T_init 73 = .ok (.putfield 30, 3) := by decide +kernel
theorem std_T_init_76 : decode stc_T_init 76 = .ok (.return_, 1) := by decide +kernel
set_option maxHeartbeats 4000000 in
set_option maxRecDepth 100000 in
theorem c_Told_init (l : Launch) (dC : Nat → ClassId) (dI : Nat → Nat → Nat) (cI cJ cZ : ClassId) (t0 : Nat)  : ∀ sz, Met l sty_T_init (Cond.code sty_T_init stc_T_init 1 none :: stGW) ({ frames := 1, cells := 7, slots := 304, locals := 12 } : Room) (va_Pc [.ref t0] (zPre (dC, dI) stCl [(cI, .int), (cJ, .long), (cZ, .boolean)] st_nw [(t0, .inr (1, [.int (iI 0), .int (iI 0), .int (iI 0), .null, .null, .null, .null, .null, .null, .null]))] sz)) (va_Qv (fun (_ : Nat × Nat × Nat × Nat × Nat × Nat × Nat) => True) (zPost (dC, dI) stCl [(cI, .int), (cJ, .long), (cZ, .boolean)] [(t0, .inr (1, [.int (iI 0), .int (iI 0), .int (iI 0), .null, .null, .null, .null, .null, .null, .null]))] sz (fun u : Nat × Nat × Nat × Nat × Nat × Nat × Nat => [(t0, .inr (1, [.int (iI 0), .int (iI 0), .int (iI 0), .ref u.1, .ref u.2.1, .ref u.2.2.1, .ref u.2.2.2.1, .ref u.2.2.2.2.1, .ref u.2.2.2.2.2.1, .ref u.2.2.2.2.2.2])), (u.1, .inl (cI, aI 12 (fun _ => 0))), (u.2.1, .inl (cI, aI 72 (fun _ => 0))), (u.2.2.1, .inl (cI, aI 72 (fun _ => 0))), (u.2.2.2.1, .inl (cI, aI 72 (fun _ => 0))), (u.2.2.2.2.1, .inl (cI, aI 72 (fun _ => 0))), (u.2.2.2.2.2.1, .inl (cI, aI 2 (uZ (uZ (fun _ => 0) 0 0) 1 0))), (u.2.2.2.2.2.2, .inl (cI, aI 2 (uZ (uZ (fun _ => 0) 0 40) 1 40)))])) (va_A [(t0, .inr (1, [.int (iI 0), .int (iI 0), .int (iI 0), .null, .null, .null, .null, .null, .null, .null]))] sz)) 7 304 (va_A [(t0, .inr (1, [.int (iI 0), .int (iI 0), .int (iI 0), .null, .null, .null, .null, .null, .null, .null]))] sz) := by
  refine met_v (by decide) rfl (Nat.le_of_ble_eq_true rfl) ?_
  intro p e s m below meth c A Q C hmn hret
  refine g_aload_n C 0 std_T_init_0 rfl ?_
  refine g_objInit C (List.mem_cons_of_mem _ kw_1_23) (List.mem_cons_of_mem _ kw_1_16) (List.mem_cons_of_mem _ kw_1_17) std_T_init_1 (Nat.le_of_ble_eq_true rfl) (Nat.le_of_ble_eq_true rfl) ?_
  refine g_aload_n C 0 std_T_init_4 rfl ?_
  refine g_bipush C std_T_init_5 (by decide) ?_
  refine g_newI C (N := 12) 0 rfl (List.mem_cons_of_mem _ kw_1_76) (rfl) (by decide) (Nat.le_of_ble_eq_true rfl) (Nat.le_of_ble_eq_true rfl) std_T_init_7 (fun q1 => ?_)
  refine g_ws (ws' := [(t0, .inr (1, [.int (iI 0), .int (iI 0), .int (iI 0), .null, .null, .null, .null, .null, .null, .null])), (q1, .inl (cI, aI 12 (fun _ => 0)))]) rfl ?_
  refine g_putF C (ws' := [(t0, .inr (1, [.int (iI 0), .int (iI 0), .int (iI 0), .ref q1, .null, .null, .null, .null, .null, .null])), (q1, .inl (cI, aI 12 (fun _ => 0)))]) (st_sub sti_T) stt_T sto_T stn_T 0 rfl rfl 3 (by decide) (List.mem_cons_of_mem _ kw_1_33) rfl rfl hmn rfl rfl rfl (Nat.le_of_ble_eq_true rfl) std_T_init_9 rfl ?_
  refine g_aload_n C 0 std_T_init_12 rfl ?_
  refine g_bipush C std_T_init_13 (by decide) ?_
  refine g_newI C (N := 72) 0 rfl (List.mem_cons_of_mem _ kw_1_76) (rfl) (by decide) (Nat.le_of_ble_eq_true rfl) (Nat.le_of_ble_eq_true rfl) std_T_init_15 (fun q2 => ?_)
  refine g_ws (ws' := [(t0, .inr (1, [.int (iI 0), .int (iI 0), .int (iI 0), .ref q1, .null, .null, .null, .null, .null, .null])), (q1, .inl (cI, aI 12 (fun _ => 0))), (q2, .inl (cI, aI 72 (fun _ => 0)))]) rfl ?_
  refine g_putF C (ws' := [(t0, .inr (1, [.int (iI 0), .int (iI 0), .int (iI 0), .ref q1, .ref q2, .null, .null, .null, .null, .null])), (q1, .inl (cI, aI 12 (fun _ => 0))), (q2, .inl (cI, aI 72 (fun _ => 0)))]) (st_sub sti_T) stt_T sto_T stn_T 0 rfl rfl 4 (by decide) (List.mem_cons_of_mem _ kw_1_38) rfl rfl hmn rfl rfl rfl (Nat.le_of_ble_eq_true rfl) std_T_init_17 rfl ?_
  refine g_aload_n C 0 std_T_init_20 rfl ?_
  refine g_bipush C std_T_init_21 (by decide) ?_
  refine g_newI C (N := 72) 0 rfl (List.mem_cons_of_mem _ kw_1_76) (rfl) (by decide) (Nat.le_of_ble_eq_true rfl) (Nat.le_of_ble_eq_true rfl) std_T_init_23 (fun q3 => ?_)
  refine g_ws (ws' := [(t0, .inr (1, [.int (iI 0), .int (iI 0), .int (iI 0), .ref q1, .ref q2, .null, .null, .null, .null, .null])), (q1, .inl (cI, aI 12 (fun _ => 0))), (q2, .inl (cI, aI 72 (fun _ => 0))), (q3, .inl (cI, aI 72 (fun _ => 0)))]) rfl ?_
  refine g_putF C (ws' := [(t0, .inr (1, [.int (iI 0), .int (iI 0), .int (iI 0), .ref q1, .ref q2, .ref q3, .null, .null, .null, .null])), (q1, .inl (cI, aI 12 (fun _ => 0))), (q2, .inl (cI, aI 72 (fun _ => 0))), (q3, .inl (cI, aI 72 (fun _ => 0)))]) (st_sub sti_T) stt_T sto_T stn_T 0 rfl rfl 5 (by decide) (List.mem_cons_of_mem _ kw_1_42) rfl rfl hmn rfl rfl rfl (Nat.le_of_ble_eq_true rfl) std_T_init_25 rfl ?_
  refine g_aload_n C 0 std_T_init_28 rfl ?_
  refine g_bipush C std_T_init_29 (by decide) ?_
  refine g_newI C (N := 72) 0 rfl (List.mem_cons_of_mem _ kw_1_76) (rfl) (by decide) (Nat.le_of_ble_eq_true rfl) (Nat.le_of_ble_eq_true rfl) std_T_init_31 (fun q4 => ?_)
  refine g_ws (ws' := [(t0, .inr (1, [.int (iI 0), .int (iI 0), .int (iI 0), .ref q1, .ref q2, .ref q3, .null, .null, .null, .null])), (q1, .inl (cI, aI 12 (fun _ => 0))), (q2, .inl (cI, aI 72 (fun _ => 0))), (q3, .inl (cI, aI 72 (fun _ => 0))), (q4, .inl (cI, aI 72 (fun _ => 0)))]) rfl ?_
  refine g_putF C (ws' := [(t0, .inr (1, [.int (iI 0), .int (iI 0), .int (iI 0), .ref q1, .ref q2, .ref q3, .ref q4, .null, .null, .null])), (q1, .inl (cI, aI 12 (fun _ => 0))), (q2, .inl (cI, aI 72 (fun _ => 0))), (q3, .inl (cI, aI 72 (fun _ => 0))), (q4, .inl (cI, aI 72 (fun _ => 0)))]) (st_sub sti_T) stt_T sto_T stn_T 0 rfl rfl 6 (by decide) (List.mem_cons_of_mem _ kw_1_45) rfl rfl hmn rfl rfl rfl (Nat.le_of_ble_eq_true rfl) std_T_init_33 rfl ?_
  refine g_aload_n C 0 std_T_init_36 rfl ?_
  refine g_bipush C std_T_init_37 (by decide) ?_
  refine g_newI C (N := 72) 0 rfl (List.mem_cons_of_mem _ kw_1_76) (rfl) (by decide) (Nat.le_of_ble_eq_true rfl) (Nat.le_of_ble_eq_true rfl) std_T_init_39 (fun q5 => ?_)
  refine g_ws (ws' := [(t0, .inr (1, [.int (iI 0), .int (iI 0), .int (iI 0), .ref q1, .ref q2, .ref q3, .ref q4, .null, .null, .null])), (q1, .inl (cI, aI 12 (fun _ => 0))), (q2, .inl (cI, aI 72 (fun _ => 0))), (q3, .inl (cI, aI 72 (fun _ => 0))), (q4, .inl (cI, aI 72 (fun _ => 0))), (q5, .inl (cI, aI 72 (fun _ => 0)))]) rfl ?_
  refine g_putF C (ws' := [(t0, .inr (1, [.int (iI 0), .int (iI 0), .int (iI 0), .ref q1, .ref q2, .ref q3, .ref q4, .ref q5, .null, .null])), (q1, .inl (cI, aI 12 (fun _ => 0))), (q2, .inl (cI, aI 72 (fun _ => 0))), (q3, .inl (cI, aI 72 (fun _ => 0))), (q4, .inl (cI, aI 72 (fun _ => 0))), (q5, .inl (cI, aI 72 (fun _ => 0)))]) (st_sub sti_T) stt_T sto_T stn_T 0 rfl rfl 7 (by decide) (List.mem_cons_of_mem _ kw_1_48) rfl rfl hmn rfl rfl rfl (Nat.le_of_ble_eq_true rfl) std_T_init_41 rfl ?_
  refine g_aload_n C 0 std_T_init_44 rfl ?_
  refine g_iconst C std_T_init_45 ?_
  refine g_newI C (N := 2) 0 rfl (List.mem_cons_of_mem _ kw_1_76) (rfl) (by decide) (Nat.le_of_ble_eq_true rfl) (Nat.le_of_ble_eq_true rfl) std_T_init_46 (fun q6 => ?_)
  refine g_ws (ws' := [(t0, .inr (1, [.int (iI 0), .int (iI 0), .int (iI 0), .ref q1, .ref q2, .ref q3, .ref q4, .ref q5, .null, .null])), (q1, .inl (cI, aI 12 (fun _ => 0))), (q2, .inl (cI, aI 72 (fun _ => 0))), (q3, .inl (cI, aI 72 (fun _ => 0))), (q4, .inl (cI, aI 72 (fun _ => 0))), (q5, .inl (cI, aI 72 (fun _ => 0))), (q6, .inl (cI, aI 2 (fun _ => 0)))]) rfl ?_
  refine g_dup C std_T_init_48 rfl ?_
  refine g_iconst C std_T_init_49 ?_
  refine g_iconst C std_T_init_50 ?_
  refine g_iast C (ws' := [(t0, .inr (1, [.int (iI 0), .int (iI 0), .int (iI 0), .ref q1, .ref q2, .ref q3, .ref q4, .ref q5, .null, .null])), (q1, .inl (cI, aI 12 (fun _ => 0))), (q2, .inl (cI, aI 72 (fun _ => 0))), (q3, .inl (cI, aI 72 (fun _ => 0))), (q4, .inl (cI, aI 72 (fun _ => 0))), (q5, .inl (cI, aI 72 (fun _ => 0))), (q6, .inl (cI, aI 2 (uZ (fun _ => 0) 0 0)))]) 6 0 rfl rfl (by omega) (by omega) (by omega) std_T_init_51 rfl ?_
  refine g_dup C std_T_init_52 rfl ?_
  refine g_iconst C std_T_init_53 ?_
  refine g_iconst C std_T_init_54 ?_
  refine g_iast C (ws' := [(t0, .inr (1, [.int (iI 0), .int (iI 0), .int (iI 0), .ref q1, .ref q2, .ref q3, .ref q4, .ref q5, .null, .null])), (q1, .inl (cI, aI 12 (fun _ => 0))), (q2, .inl (cI, aI 72 (fun _ => 0))), (q3, .inl (cI, aI 72 (fun _ => 0))), (q4, .inl (cI, aI 72 (fun _ => 0))), (q5, .inl (cI, aI 72 (fun _ => 0))), (q6, .inl (cI, aI 2 (uZ (uZ (fun _ => 0) 0 0) 1 0)))]) 6 0 rfl rfl (by omega) (by omega) (by omega) std_T_init_55 rfl ?_
  refine g_putF C (ws' := [(t0, .inr (1, [.int (iI 0), .int (iI 0), .int (iI 0), .ref q1, .ref q2, .ref q3, .ref q4, .ref q5, .ref q6, .null])), (q1, .inl (cI, aI 12 (fun _ => 0))), (q2, .inl (cI, aI 72 (fun _ => 0))), (q3, .inl (cI, aI 72 (fun _ => 0))), (q4, .inl (cI, aI 72 (fun _ => 0))), (q5, .inl (cI, aI 72 (fun _ => 0))), (q6, .inl (cI, aI 2 (uZ (uZ (fun _ => 0) 0 0) 1 0)))]) (st_sub sti_T) stt_T sto_T stn_T 0 rfl rfl 8 (by decide) (List.mem_cons_of_mem _ kw_1_51) rfl rfl hmn rfl rfl rfl (Nat.le_of_ble_eq_true rfl) std_T_init_56 rfl ?_
  refine g_aload_n C 0 std_T_init_59 rfl ?_
  refine g_iconst C std_T_init_60 ?_
  refine g_newI C (N := 2) 0 rfl (List.mem_cons_of_mem _ kw_1_76) (rfl) (by decide) (Nat.le_of_ble_eq_true rfl) (Nat.le_of_ble_eq_true rfl) std_T_init_61 (fun q7 => ?_)
  refine g_ws (ws' := [(t0, .inr (1, [.int (iI 0), .int (iI 0), .int (iI 0), .ref q1, .ref q2, .ref q3, .ref q4, .ref q5, .ref q6, .null])), (q1, .inl (cI, aI 12 (fun _ => 0))), (q2, .inl (cI, aI 72 (fun _ => 0))), (q3, .inl (cI, aI 72 (fun _ => 0))), (q4, .inl (cI, aI 72 (fun _ => 0))), (q5, .inl (cI, aI 72 (fun _ => 0))), (q6, .inl (cI, aI 2 (uZ (uZ (fun _ => 0) 0 0) 1 0))), (q7, .inl (cI, aI 2 (fun _ => 0)))]) rfl ?_
  refine g_dup C std_T_init_63 rfl ?_
  refine g_iconst C std_T_init_64 ?_
  refine g_bipush C std_T_init_65 (by decide) ?_
  refine g_iast C (ws' := [(t0, .inr (1, [.int (iI 0), .int (iI 0), .int (iI 0), .ref q1, .ref q2, .ref q3, .ref q4, .ref q5, .ref q6, .null])), (q1, .inl (cI, aI 12 (fun _ => 0))), (q2, .inl (cI, aI 72 (fun _ => 0))), (q3, .inl (cI, aI 72 (fun _ => 0))), (q4, .inl (cI, aI 72 (fun _ => 0))), (q5, .inl (cI, aI 72 (fun _ => 0))), (q6, .inl (cI, aI 2 (uZ (uZ (fun _ => 0) 0 0) 1 0))), (q7, .inl (cI, aI 2 (uZ (fun _ => 0) 0 40)))]) 7 0 rfl rfl (by omega) (by omega) (by omega) std_T_init_67 rfl ?_
  refine g_dup C std_T_init_68 rfl ?_
  refine g_iconst C std_T_init_69 ?_
  refine g_bipush C std_T_init_70 (by decide) ?_
  refine g_iast C (ws' := [(t0, .inr (1, [.int (iI 0), .int (iI 0), .int (iI 0), .ref q1, .ref q2, .ref q3, .ref q4, .ref q5, .ref q6, .null])), (q1, .inl (cI, aI 12 (fun _ => 0))), (q2, .inl (cI, aI 72 (fun _ => 0))), (q3, .inl (cI, aI 72 (fun _ => 0))), (q4, .inl (cI, aI 72 (fun _ => 0))), (q5, .inl (cI, aI 72 (fun _ => 0))), (q6, .inl (cI, aI 2 (uZ (uZ (fun _ => 0) 0 0) 1 0))), (q7, .inl (cI, aI 2 (uZ (uZ (fun _ => 0) 0 40) 1 40)))]) 7 0 rfl rfl (by omega) (by omega) (by omega) std_T_init_72 rfl ?_
  refine g_putF C (ws' := [(t0, .inr (1, [.int (iI 0), .int (iI 0), .int (iI 0), .ref q1, .ref q2, .ref q3, .ref q4, .ref q5, .ref q6, .ref q7])), (q1, .inl (cI, aI 12 (fun _ => 0))), (q2, .inl (cI, aI 72 (fun _ => 0))), (q3, .inl (cI, aI 72 (fun _ => 0))), (q4, .inl (cI, aI 72 (fun _ => 0))), (q5, .inl (cI, aI 72 (fun _ => 0))), (q6, .inl (cI, aI 2 (uZ (uZ (fun _ => 0) 0 0) 1 0))), (q7, .inl (cI, aI 2 (uZ (uZ (fun _ => 0) 0 40) 1 40)))]) (st_sub sti_T) stt_T sto_T stn_T 0 rfl rfl 9 (by decide) (List.mem_cons_of_mem _ kw_1_53) rfl rfl hmn rfl rfl rfl (Nat.le_of_ble_eq_true rfl) std_T_init_73 rfl ?_
  refine g_wide (k := 7) (n := 304) (Nat.le_of_ble_eq_true rfl) (Nat.le_of_ble_eq_true rfl) ?_
  exact hret _ _ (q1, q2, q3, q4, q5, q6, q7) (trivial) std_T_init_76

abbrev sty_Y_init : MethodName := ⟨"StateTables$Layers", "<init>", "(LStateTables$Told;)V"⟩
abbrev stc_Y_init : ByteArray := prog_3_method_1_code
theorem sth_Y_init : (sty_Y_init).cls ≠ "java/lang/invoke/MethodHandle" ∧ (sty_Y_init).cls ≠ "java/lang/invoke/VarHandle" ∧ (parseMethodDescriptor (sty_Y_init).desc).map (fun d => d.parameters.length) = some 1 := by decide +kernel
theorem std_Y_init_0 : decode stc_Y_init 0 = .ok (.aload_n 0, 1) := by decide +kernel
theorem std_Y_init_1 : decode stc_Y_init 1 = .ok (.invokespecial 3, 3) := by decide +kernel
theorem kw_1_82 : Cond.methodLink "StateTables$Layers" 3 (Lib.objectInit) ∈ stGW := st_t1 (List.mem_of_getElem? (i := 82) (by decide +kernel)) (by decide +kernel)
theorem std_Y_init_4 : decode stc_Y_init 4 = .ok (.aload_n 0, 1) := by decide +kernel
theorem std_Y_init_5 : decode stc_Y_init 5 = .ok (.bipush 14, 2) := by decide +kernel
theorem std_Y_init_7 : decode stc_Y_init 7 = .ok (.newarray .int, 2) := by decide +kernel
theorem std_Y_init_9 : decode stc_Y_init 9 = .ok (.putfield 9, 3) := by decide +kernel
theorem std_Y_init_12 : decode stc_Y_init 12 = .ok (.aload_n 0, 1) := by decide +kernel
theorem std_Y_init_13 : decode stc_Y_init 13 = .ok (.bipush 16, 2) := by decide +kernel
theorem std_Y_init_15 : decode stc_Y_init 15 = .ok (.newarray .int, 2) := by decide +kernel
theorem std_Y_init_17 : decode stc_Y_init 17 = .ok (.putfield 15, 3) := by decide +kernel
theorem std_Y_init_20 : decode stc_Y_init 20 = .ok (.aload_n 0, 1) := by decide +kernel
theorem std_Y_init_21 : decode stc_Y_init 21 = .ok (.bipush 16, 2) := by decide +kernel
theorem std_Y_init_23 : decode stc_Y_init 23 = .ok (.newarray .int, 2) := by decide +kernel
theorem std_Y_init_25 : decode stc_Y_init 25 = .ok (.putfield 18, 3) := by decide +kernel
theorem std_Y_init_28 : decode stc_Y_init 28 = .ok (.aload_n 0, 1) := by decide +kernel
theorem std_Y_init_29 : decode stc_Y_init 29 = .ok (.bipush 16, 2) := by decide +kernel
theorem std_Y_init_31 : decode stc_Y_init 31 = .ok (.newarray .int, 2) := by decide +kernel
theorem std_Y_init_33 : decode stc_Y_init 33 = .ok (.putfield 21, 3) := by decide +kernel
theorem std_Y_init_36 : decode stc_Y_init 36 = .ok (.aload_n 0, 1) := by decide +kernel
theorem std_Y_init_37 : decode stc_Y_init 37 = .ok (.bipush 16, 2) := by decide +kernel
theorem std_Y_init_39 : decode stc_Y_init 39 = .ok (.newarray .long, 2) := by decide +kernel
theorem std_Y_init_41 : decode stc_Y_init 41 = .ok (.putfield 24, 3) := by decide +kernel
theorem std_Y_init_44 : decode stc_Y_init 44 = .ok (.aload_n 0, 1) := by decide +kernel
theorem std_Y_init_45 : decode stc_Y_init 45 = .ok (.bipush 16, 2) := by decide +kernel
theorem std_Y_init_47 : decode stc_Y_init 47 = .ok (.newarray .long, 2) := by decide +kernel
theorem std_Y_init_49 : decode stc_Y_init 49 = .ok (.putfield 28, 3) := by decide +kernel
theorem std_Y_init_52 : decode stc_Y_init 52 = .ok (.aload_n 0, 1) := by decide +kernel
theorem std_Y_init_53 : decode stc_Y_init 53 = .ok (.bipush 96, 2) := by decide +kernel
theorem std_Y_init_55 : decode stc_Y_init 55 = .ok (.newarray .int, 2) := by decide +kernel
theorem std_Y_init_57 : decode stc_Y_init 57 = .ok (.putfield 31, 3) := by decide +kernel
theorem std_Y_init_60 : decode stc_Y_init 60 = .ok (.aload_n 0, 1) := by decide +kernel
theorem std_Y_init_61 : decode stc_Y_init 61 = .ok (.bipush 6, 2) := by decide +kernel
theorem std_Y_init_63 : decode stc_Y_init 63 = .ok (.newarray .int, 2) := by decide +kernel
theorem std_Y_init_65 : decode stc_Y_init 65 = .ok (.putfield 34, 3) := by decide +kernel
theorem std_Y_init_68 : decode stc_Y_init 68 = .ok (.aload_n 0, 1) := by decide +kernel
theorem std_Y_init_69 : decode stc_Y_init 69 = .ok (.aload_n 1, 1) := by decide +kernel
theorem std_Y_init_70 : decode stc_Y_init 70 = .ok (.putfield 37, 3) := by decide +kernel
theorem std_Y_init_73 : decode stc_Y_init 73 = .ok (.return_, 1) := by decide +kernel
set_option maxHeartbeats 4000000 in
set_option maxRecDepth 100000 in
theorem c_Layers_init (l : Launch) (dC : Nat → ClassId) (dI : Nat → Nat → Nat) (cI cJ cZ : ClassId) (y0 : Nat) (t0 : Nat)  : ∀ sz, Met l sty_Y_init (Cond.code sty_Y_init stc_Y_init 2 none :: stGW) ({ frames := 1, cells := 8, slots := 196, locals := 12 } : Room) (va_Pc [.ref y0, .ref t0] (zPre (dC, dI) stCl [(cI, .int), (cJ, .long), (cZ, .boolean)] st_nw [(y0, .inr (2, [.null, .int (iI 0), .null, .null, .null, .null, .null, .null, .null, .null]))] sz)) (va_Qv (fun (_ : Nat × Nat × Nat × Nat × Nat × Nat × Nat × Nat) => True) (zPost (dC, dI) stCl [(cI, .int), (cJ, .long), (cZ, .boolean)] [(y0, .inr (2, [.null, .int (iI 0), .null, .null, .null, .null, .null, .null, .null, .null]))] sz (fun u : Nat × Nat × Nat × Nat × Nat × Nat × Nat × Nat => [(y0, .inr (2, [.ref t0, .int (iI 0), .ref u.1, .ref u.2.1, .ref u.2.2.1, .ref u.2.2.2.1, .ref u.2.2.2.2.1, .ref u.2.2.2.2.2.1, .ref u.2.2.2.2.2.2.1, .ref u.2.2.2.2.2.2.2])), (u.1, .inl (cI, aI 14 (fun _ => 0))), (u.2.1, .inl (cI, aI 16 (fun _ => 0))), (u.2.2.1, .inl (cI, aI 16 (fun _ => 0))), (u.2.2.2.1, .inl (cI, aI 16 (fun _ => 0))), (u.2.2.2.2.1, .inl (cJ, aL 16 (fun _ => 0))), (u.2.2.2.2.2.1, .inl (cJ, aL 16 (fun _ => 0))), (u.2.2.2.2.2.2.1, .inl (cI, aI 96 (fun _ => 0))), (u.2.2.2.2.2.2.2, .inl (cI, aI 6 (fun _ => 0)))])) (va_A [(y0, .inr (2, [.null, .int (iI 0), .null, .null, .null, .null, .null, .null, .null, .null]))] sz)) 8 196 (va_A [(y0, .inr (2, [.null, .int (iI 0), .null, .null, .null, .null, .null, .null, .null, .null]))] sz) := by
  refine met_v (by decide) rfl (Nat.le_of_ble_eq_true rfl) ?_
  intro p e s m below meth c A Q C hmn hret
  refine g_aload_n C 0 std_Y_init_0 rfl ?_
  refine g_objInit C (List.mem_cons_of_mem _ kw_1_82) (List.mem_cons_of_mem _ kw_1_16) (List.mem_cons_of_mem _ kw_1_17) std_Y_init_1 (Nat.le_of_ble_eq_true rfl) (Nat.le_of_ble_eq_true rfl) ?_
  refine g_aload_n C 0 std_Y_init_4 rfl ?_
  refine g_bipush C std_Y_init_5 (by decide) ?_
  refine g_newI C (N := 14) 0 rfl (List.mem_cons_of_mem _ kw_1_76) (rfl) (by decide) (Nat.le_of_ble_eq_true rfl) (Nat.le_of_ble_eq_true rfl) std_Y_init_7 (fun q1 => ?_)
  refine g_ws (ws' := [(y0, .inr (2, [.null, .int (iI 0), .null, .null, .null, .null, .null, .null, .null, .null])), (q1, .inl (cI, aI 14 (fun _ => 0)))]) rfl ?_
  refine g_putF C (ws' := [(y0, .inr (2, [.null, .int (iI 0), .ref q1, .null, .null, .null, .null, .null, .null, .null])), (q1, .inl (cI, aI 14 (fun _ => 0)))]) (st_sub sti_Y) stt_Y sto_Y stn_Y 0 rfl rfl 2 (by decide) (List.mem_cons_of_mem _ kw_1_86) rfl rfl hmn rfl rfl rfl (Nat.le_of_ble_eq_true rfl) std_Y_init_9 rfl ?_
  refine g_aload_n C 0 std_Y_init_12 rfl ?_
  refine g_bipush C std_Y_init_13 (by decide) ?_
  refine g_newI C (N := 16) 0 rfl (List.mem_cons_of_mem _ kw_1_76) (rfl) (by decide) (Nat.le_of_ble_eq_true rfl) (Nat.le_of_ble_eq_true rfl) std_Y_init_15 (fun q2 => ?_)
  refine g_ws (ws' := [(y0, .inr (2, [.null, .int (iI 0), .ref q1, .null, .null, .null, .null, .null, .null, .null])), (q1, .inl (cI, aI 14 (fun _ => 0))), (q2, .inl (cI, aI 16 (fun _ => 0)))]) rfl ?_
  refine g_put C (ws' := [(y0, .inr (2, [.null, .int (iI 0), .ref q1, .ref q2, .null, .null, .null, .null, .null, .null])), (q1, .inl (cI, aI 14 (fun _ => 0))), (q2, .inl (cI, aI 16 (fun _ => 0)))]) (st_sub sti_Y) stt_Y sto_Y stn_Y 0 rfl rfl 3 (by decide) (List.mem_cons_of_mem _ kw_1_88) rfl rfl rfl rfl (Nat.le_of_ble_eq_true rfl) std_Y_init_17 rfl ?_
  refine g_aload_n C 0 std_Y_init_20 rfl ?_
  refine g_bipush C std_Y_init_21 (by decide) ?_
  refine g_newI C (N := 16) 0 rfl (List.mem_cons_of_mem _ kw_1_76) (rfl) (by decide) (Nat.le_of_ble_eq_true rfl) (Nat.le_of_ble_eq_true rfl) std_Y_init_23 (fun q3 => ?_)
  refine g_ws (ws' := [(y0, .inr (2, [.null, .int (iI 0), .ref q1, .ref q2, .null, .null, .null, .null, .null, .null])), (q1, .inl (cI, aI 14 (fun _ => 0))), (q2, .inl (cI, aI 16 (fun _ => 0))), (q3, .inl (cI, aI 16 (fun _ => 0)))]) rfl ?_
  refine g_put C (ws' := [(y0, .inr (2, [.null, .int (iI 0), .ref q1, .ref q2, .ref q3, .null, .null, .null, .null, .null])), (q1, .inl (cI, aI 14 (fun _ => 0))), (q2, .inl (cI, aI 16 (fun _ => 0))), (q3, .inl (cI, aI 16 (fun _ => 0)))]) (st_sub sti_Y) stt_Y sto_Y stn_Y 0 rfl rfl 4 (by decide) (List.mem_cons_of_mem _ kw_1_90) rfl rfl rfl rfl (Nat.le_of_ble_eq_true rfl) std_Y_init_25 rfl ?_
  refine g_aload_n C 0 std_Y_init_28 rfl ?_
  refine g_bipush C std_Y_init_29 (by decide) ?_
  refine g_newI C (N := 16) 0 rfl (List.mem_cons_of_mem _ kw_1_76) (rfl) (by decide) (Nat.le_of_ble_eq_true rfl) (Nat.le_of_ble_eq_true rfl) std_Y_init_31 (fun q4 => ?_)
  refine g_ws (ws' := [(y0, .inr (2, [.null, .int (iI 0), .ref q1, .ref q2, .ref q3, .null, .null, .null, .null, .null])), (q1, .inl (cI, aI 14 (fun _ => 0))), (q2, .inl (cI, aI 16 (fun _ => 0))), (q3, .inl (cI, aI 16 (fun _ => 0))), (q4, .inl (cI, aI 16 (fun _ => 0)))]) rfl ?_
  refine g_put C (ws' := [(y0, .inr (2, [.null, .int (iI 0), .ref q1, .ref q2, .ref q3, .ref q4, .null, .null, .null, .null])), (q1, .inl (cI, aI 14 (fun _ => 0))), (q2, .inl (cI, aI 16 (fun _ => 0))), (q3, .inl (cI, aI 16 (fun _ => 0))), (q4, .inl (cI, aI 16 (fun _ => 0)))]) (st_sub sti_Y) stt_Y sto_Y stn_Y 0 rfl rfl 5 (by decide) (List.mem_cons_of_mem _ kw_1_92) rfl rfl rfl rfl (Nat.le_of_ble_eq_true rfl) std_Y_init_33 rfl ?_
  refine g_aload_n C 0 std_Y_init_36 rfl ?_
  refine g_bipush C std_Y_init_37 (by decide) ?_
  refine g_newL C (N := 16) 1 rfl (List.mem_cons_of_mem _ kw_1_122) (rfl) (by decide) (Nat.le_of_ble_eq_true rfl) (Nat.le_of_ble_eq_true rfl) std_Y_init_39 (fun q5 => ?_)
  refine g_ws (ws' := [(y0, .inr (2, [.null, .int (iI 0), .ref q1, .ref q2, .ref q3, .ref q4, .null, .null, .null, .null])), (q1, .inl (cI, aI 14 (fun _ => 0))), (q2, .inl (cI, aI 16 (fun _ => 0))), (q3, .inl (cI, aI 16 (fun _ => 0))), (q4, .inl (cI, aI 16 (fun _ => 0))), (q5, .inl (cJ, aL 16 (fun _ => 0)))]) rfl ?_
  refine g_put C (ws' := [(y0, .inr (2, [.null, .int (iI 0), .ref q1, .ref q2, .ref q3, .ref q4, .ref q5, .null, .null, .null])), (q1, .inl (cI, aI 14 (fun _ => 0))), (q2, .inl (cI, aI 16 (fun _ => 0))), (q3, .inl (cI, aI 16 (fun _ => 0))), (q4, .inl (cI, aI 16 (fun _ => 0))), (q5, .inl (cJ, aL 16 (fun _ => 0)))]) (st_sub sti_Y) stt_Y sto_Y stn_Y 0 rfl rfl 6 (by decide) (List.mem_cons_of_mem _ kw_1_94) rfl rfl rfl rfl (Nat.le_of_ble_eq_true rfl) std_Y_init_41 rfl ?_
  refine g_aload_n C 0 std_Y_init_44 rfl ?_
  refine g_bipush C std_Y_init_45 (by decide) ?_
  refine g_newL C (N := 16) 1 rfl (List.mem_cons_of_mem _ kw_1_122) (rfl) (by decide) (Nat.le_of_ble_eq_true rfl) (Nat.le_of_ble_eq_true rfl) std_Y_init_47 (fun q6 => ?_)
  refine g_ws (ws' := [(y0, .inr (2, [.null, .int (iI 0), .ref q1, .ref q2, .ref q3, .ref q4, .ref q5, .null, .null, .null])), (q1, .inl (cI, aI 14 (fun _ => 0))), (q2, .inl (cI, aI 16 (fun _ => 0))), (q3, .inl (cI, aI 16 (fun _ => 0))), (q4, .inl (cI, aI 16 (fun _ => 0))), (q5, .inl (cJ, aL 16 (fun _ => 0))), (q6, .inl (cJ, aL 16 (fun _ => 0)))]) rfl ?_
  refine g_put C (ws' := [(y0, .inr (2, [.null, .int (iI 0), .ref q1, .ref q2, .ref q3, .ref q4, .ref q5, .ref q6, .null, .null])), (q1, .inl (cI, aI 14 (fun _ => 0))), (q2, .inl (cI, aI 16 (fun _ => 0))), (q3, .inl (cI, aI 16 (fun _ => 0))), (q4, .inl (cI, aI 16 (fun _ => 0))), (q5, .inl (cJ, aL 16 (fun _ => 0))), (q6, .inl (cJ, aL 16 (fun _ => 0)))]) (st_sub sti_Y) stt_Y sto_Y stn_Y 0 rfl rfl 7 (by decide) (List.mem_cons_of_mem _ kw_1_96) rfl rfl rfl rfl (Nat.le_of_ble_eq_true rfl) std_Y_init_49 rfl ?_
  refine g_aload_n C 0 std_Y_init_52 rfl ?_
  refine g_bipush C std_Y_init_53 (by decide) ?_
  refine g_newI C (N := 96) 0 rfl (List.mem_cons_of_mem _ kw_1_76) (rfl) (by decide) (Nat.le_of_ble_eq_true rfl) (Nat.le_of_ble_eq_true rfl) std_Y_init_55 (fun q7 => ?_)
  refine g_ws (ws' := [(y0, .inr (2, [.null, .int (iI 0), .ref q1, .ref q2, .ref q3, .ref q4, .ref q5, .ref q6, .null, .null])), (q1, .inl (cI, aI 14 (fun _ => 0))), (q2, .inl (cI, aI 16 (fun _ => 0))), (q3, .inl (cI, aI 16 (fun _ => 0))), (q4, .inl (cI, aI 16 (fun _ => 0))), (q5, .inl (cJ, aL 16 (fun _ => 0))), (q6, .inl (cJ, aL 16 (fun _ => 0))), (q7, .inl (cI, aI 96 (fun _ => 0)))]) rfl ?_
  refine g_put C (ws' := [(y0, .inr (2, [.null, .int (iI 0), .ref q1, .ref q2, .ref q3, .ref q4, .ref q5, .ref q6, .ref q7, .null])), (q1, .inl (cI, aI 14 (fun _ => 0))), (q2, .inl (cI, aI 16 (fun _ => 0))), (q3, .inl (cI, aI 16 (fun _ => 0))), (q4, .inl (cI, aI 16 (fun _ => 0))), (q5, .inl (cJ, aL 16 (fun _ => 0))), (q6, .inl (cJ, aL 16 (fun _ => 0))), (q7, .inl (cI, aI 96 (fun _ => 0)))]) (st_sub sti_Y) stt_Y sto_Y stn_Y 0 rfl rfl 8 (by decide) (List.mem_cons_of_mem _ kw_1_99) rfl rfl rfl rfl (Nat.le_of_ble_eq_true rfl) std_Y_init_57 rfl ?_
  refine g_aload_n C 0 std_Y_init_60 rfl ?_
  refine g_bipush C std_Y_init_61 (by decide) ?_
  refine g_newI C (N := 6) 0 rfl (List.mem_cons_of_mem _ kw_1_76) (rfl) (by decide) (Nat.le_of_ble_eq_true rfl) (Nat.le_of_ble_eq_true rfl) std_Y_init_63 (fun q8 => ?_)
  refine g_ws (ws' := [(y0, .inr (2, [.null, .int (iI 0), .ref q1, .ref q2, .ref q3, .ref q4, .ref q5, .ref q6, .ref q7, .null])), (q1, .inl (cI, aI 14 (fun _ => 0))), (q2, .inl (cI, aI 16 (fun _ => 0))), (q3, .inl (cI, aI 16 (fun _ => 0))), (q4, .inl (cI, aI 16 (fun _ => 0))), (q5, .inl (cJ, aL 16 (fun _ => 0))), (q6, .inl (cJ, aL 16 (fun _ => 0))), (q7, .inl (cI, aI 96 (fun _ => 0))), (q8, .inl (cI, aI 6 (fun _ => 0)))]) rfl ?_
  refine g_putF C (ws' := [(y0, .inr (2, [.null, .int (iI 0), .ref q1, .ref q2, .ref q3, .ref q4, .ref q5, .ref q6, .ref q7, .ref q8])), (q1, .inl (cI, aI 14 (fun _ => 0))), (q2, .inl (cI, aI 16 (fun _ => 0))), (q3, .inl (cI, aI 16 (fun _ => 0))), (q4, .inl (cI, aI 16 (fun _ => 0))), (q5, .inl (cJ, aL 16 (fun _ => 0))), (q6, .inl (cJ, aL 16 (fun _ => 0))), (q7, .inl (cI, aI 96 (fun _ => 0))), (q8, .inl (cI, aI 6 (fun _ => 0)))]) (st_sub sti_Y) stt_Y sto_Y stn_Y 0 rfl rfl 9 (by decide) (List.mem_cons_of_mem _ kw_1_100) rfl rfl hmn rfl rfl rfl (Nat.le_of_ble_eq_true rfl) std_Y_init_65 rfl ?_
  refine g_aload_n C 0 std_Y_init_68 rfl ?_
  refine g_aload_n C 1 std_Y_init_69 rfl ?_
  refine g_putF C (ws' := [(y0, .inr (2, [.ref t0, .int (iI 0), .ref q1, .ref q2, .ref q3, .ref q4, .ref q5, .ref q6, .ref q7, .ref q8])), (q1, .inl (cI, aI 14 (fun _ => 0))), (q2, .inl (cI, aI 16 (fun _ => 0))), (q3, .inl (cI, aI 16 (fun _ => 0))), (q4, .inl (cI, aI 16 (fun _ => 0))), (q5, .inl (cJ, aL 16 (fun _ => 0))), (q6, .inl (cJ, aL 16 (fun _ => 0))), (q7, .inl (cI, aI 96 (fun _ => 0))), (q8, .inl (cI, aI 6 (fun _ => 0)))]) (st_sub sti_Y) stt_Y sto_Y stn_Y 0 rfl rfl 0 (by decide) (List.mem_cons_of_mem _ kw_1_83) rfl rfl hmn rfl rfl rfl (Nat.le_of_ble_eq_true rfl) std_Y_init_70 rfl ?_
  refine g_wide (k := 8) (n := 196) (Nat.le_of_ble_eq_true rfl) (Nat.le_of_ble_eq_true rfl) ?_
  exact hret _ _ (q1, q2, q3, q4, q5, q6, q7, q8) (trivial) std_Y_init_73

