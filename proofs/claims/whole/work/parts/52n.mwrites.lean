/-! the model: step, choice, cost, resource, bar -/
abbrev sty_M_step : MethodName := ⟨"StateTablesModel", "step", "()I"⟩
abbrev stc_M_step : ByteArray := prog_7_method_4_code
theorem sth_M_step : (sty_M_step).cls ≠ "java/lang/invoke/MethodHandle" ∧ (sty_M_step).cls ≠ "java/lang/invoke/VarHandle" ∧ (parseMethodDescriptor (sty_M_step).desc).map (fun d => d.parameters.length) = some 0 := by decide +kernel
theorem std_M_step_0 : decode stc_M_step 0 = .ok (.aload_n 0, 1) := by decide +kernel
theorem std_M_step_1 : decode stc_M_step 1 = .ok (.iconst 0, 1) := by decide +kernel
theorem std_M_step_2 : decode stc_M_step 2 = .ok (.putfield 1, 3) := by decide +kernel
theorem kw_3_66 : Cond.fieldLink "StateTablesModel" 1 "StateTablesModel" "thrown" "I" ∈ stGW := st_t3 (List.mem_of_getElem? (i := 66) (by decide +kernel)) (by decide +kernel)
theorem std_M_step_5 : decode stc_M_step 5 = .ok (.aload_n 0, 1) := by decide +kernel
theorem std_M_step_6 : decode stc_M_step 6 = .ok (.getfield 92, 3) := by decide +kernel
theorem std_M_step_9 : decode stc_M_step 9 = .ok (.bipush 12, 2) := by decide +kernel
theorem std_M_step_11 : decode stc_M_step 11 = .ok (.if_icmp .ne 6, 3) := by decide +kernel
theorem std_M_step_17 : decode stc_M_step 17 = .ok (.aload_n 0, 1) := by decide +kernel
theorem std_M_step_18 : decode stc_M_step 18 = .ok (.iconst 0, 1) := by decide +kernel
theorem std_M_step_19 : decode stc_M_step 19 = .ok (.putfield 96, 3) := by decide +kernel
theorem kw_3_77 : Cond.fieldLink "StateTablesModel" 96 "StateTablesModel" "isLaid" "Z" ∈ stGW := st_t3 (List.mem_of_getElem? (i := 77) (by decide +kernel)) (by decide +kernel)
theorem std_M_step_22 : decode stc_M_step 22 = .ok (.aload_n 0, 1) := by decide +kernel
theorem std_M_step_23 : decode stc_M_step 23 = .ok (.dup, 1) := by decide +kernel
theorem std_M_step_24 : decode stc_M_step 24 = .ok (.getfield 92, 3) := by decide +kernel
theorem std_M_step_27 : decode stc_M_step 27 = .ok (.iconst 1, 1) := by decide +kernel
theorem std_M_step_28 : decode stc_M_step 28 = .ok (.iadd, 1) := by decide +kernel
theorem std_M_step_29 : decode stc_M_step 29 = .ok (.putfield 92, 3) := by decide +kernel
theorem std_M_step_32 : decode stc_M_step 32 = .ok (.aload_n 0, 1) := by decide +kernel
theorem std_M_step_33 : decode stc_M_step 33 = .ok (.getfield 92, 3) := by decide +kernel
theorem std_M_step_36 : decode stc_M_step 36 = .ok (.iconst 1, 1) := by decide +kernel
theorem std_M_step_37 : decode stc_M_step 37 = .ok (.isub, 1) := by decide +kernel
theorem std_M_step_38 : decode stc_M_step 38 = .ok (.ireturn, 1) := by decide +kernel
theorem std_M_step_14 : decode stc_M_step 14 = .ok (.ldc 95, 2) := by decide +kernel
theorem kw_3_180 : Cond.constant "StateTablesModel" 95 (-3000000) ∈ stGW := st_t3 (List.mem_of_getElem? (i := 180) (by decide +kernel)) (by decide +kernel)
theorem std_M_step_16 : decode stc_M_step 16 = .ok (.ireturn, 1) := by decide +kernel
set_option maxHeartbeats 4000000 in
set_option maxRecDepth 100000 in
theorem c_m_step (l : Launch) (dC : Nat → ClassId) (dI : Nat → Nat → Nat) (cI cJ cZ : ClassId) (m0 : Nat) (k_ch : Nat) (k_co : Nat) (k_ua : Nat) (k_ub : Nat) (k_ba : Nat) (k_rt : Nat) (k_rf : Nat) (k_ct : Nat) (k_cf : Nat) (k_nd : Nat) (k_na : Nat) (k_no : Nat) (k_bt : Nat) (k_bc : Nat) (k_br : Nat) (k_pc : Nat) (k_pr : Nat) (k_la : Nat) (k_lb : Nat) (k_ha : Nat) (k_hb : Nat) (k_ls : Nat) (k_wc : Nat) (HM : Prop) (bg : Int) (pn : Int) (wd : Int) (mg : Int) (mw : Int) (mc : Int) (steps : Int) (fle : Int → Int) (fmo : Int → Int) (kst : 0 ≤ steps ∧ steps ≤ 12) : ∀ sz, Met l sty_M_step (Cond.code sty_M_step stc_M_step 1 (some .int) :: stGW) ({ frames := 0, cells := 0, slots := 0, locals := 0 } : Room) (va_Pc [.ref m0] (zPre (dC, dI) stCl [(cI, .int), (cJ, .long), (cZ, .boolean)] st_nw [(m0, .inr (5, [.int (iI 0), .int (iI steps), .ref k_ch, .ref k_co, .ref k_ua, .ref k_ub, .ref k_ba, .int (iI (fle 0)), .int (iI (fle 1)), .int (iI (fmo 0)), .int (iI (fmo 1)), .int (iI (bI HM)), .ref k_rt, .ref k_rf, .ref k_ct, .ref k_cf, .ref k_nd, .ref k_na, .ref k_no, .ref k_bt, .ref k_bc, .ref k_br, .int (iI bg), .int (iI pn), .ref k_pc, .ref k_pr, .ref k_la, .ref k_lb, .ref k_ha, .ref k_hb, .ref k_ls, .ref k_wc, .int (iI wd), .int (iI mg), .int (iI mw), .int (iI mc)]))] sz)) (va_Qi (fun (r : Int32) (u : Prop × Int) => (12 ≤ steps ∧ r = iI (-3000000) ∧ u = (HM, steps)) ∨ (steps < 12 ∧ r = iI ((steps + 1) - 1) ∧ u = (False, (steps + 1)))) (zPost (dC, dI) stCl [(cI, .int), (cJ, .long), (cZ, .boolean)] [(m0, .inr (5, [.int (iI 0), .int (iI steps), .ref k_ch, .ref k_co, .ref k_ua, .ref k_ub, .ref k_ba, .int (iI (fle 0)), .int (iI (fle 1)), .int (iI (fmo 0)), .int (iI (fmo 1)), .int (iI (bI HM)), .ref k_rt, .ref k_rf, .ref k_ct, .ref k_cf, .ref k_nd, .ref k_na, .ref k_no, .ref k_bt, .ref k_bc, .ref k_br, .int (iI bg), .int (iI pn), .ref k_pc, .ref k_pr, .ref k_la, .ref k_lb, .ref k_ha, .ref k_hb, .ref k_ls, .ref k_wc, .int (iI wd), .int (iI mg), .int (iI mw), .int (iI mc)]))] sz (fun u : Prop × Int => [(m0, .inr (5, [.int (iI 0), .int (iI (u.2)), .ref k_ch, .ref k_co, .ref k_ua, .ref k_ub, .ref k_ba, .int (iI (fle 0)), .int (iI (fle 1)), .int (iI (fmo 0)), .int (iI (fmo 1)), .int (iI (bI u.1)), .ref k_rt, .ref k_rf, .ref k_ct, .ref k_cf, .ref k_nd, .ref k_na, .ref k_no, .ref k_bt, .ref k_bc, .ref k_br, .int (iI bg), .int (iI pn), .ref k_pc, .ref k_pr, .ref k_la, .ref k_lb, .ref k_ha, .ref k_hb, .ref k_ls, .ref k_wc, .int (iI wd), .int (iI mg), .int (iI mw), .int (iI mc)]))])) (va_A [(m0, .inr (5, [.int (iI 0), .int (iI steps), .ref k_ch, .ref k_co, .ref k_ua, .ref k_ub, .ref k_ba, .int (iI (fle 0)), .int (iI (fle 1)), .int (iI (fmo 0)), .int (iI (fmo 1)), .int (iI (bI HM)), .ref k_rt, .ref k_rf, .ref k_ct, .ref k_cf, .ref k_nd, .ref k_na, .ref k_no, .ref k_bt, .ref k_bc, .ref k_br, .int (iI bg), .int (iI pn), .ref k_pc, .ref k_pr, .ref k_la, .ref k_lb, .ref k_ha, .ref k_hb, .ref k_ls, .ref k_wc, .int (iI wd), .int (iI mg), .int (iI mw), .int (iI mc)]))] sz)) 0 0 (va_A [(m0, .inr (5, [.int (iI 0), .int (iI steps), .ref k_ch, .ref k_co, .ref k_ua, .ref k_ub, .ref k_ba, .int (iI (fle 0)), .int (iI (fle 1)), .int (iI (fmo 0)), .int (iI (fmo 1)), .int (iI (bI HM)), .ref k_rt, .ref k_rf, .ref k_ct, .ref k_cf, .ref k_nd, .ref k_na, .ref k_no, .ref k_bt, .ref k_bc, .ref k_br, .int (iI bg), .int (iI pn), .ref k_pc, .ref k_pr, .ref k_la, .ref k_lb, .ref k_ha, .ref k_hb, .ref k_ls, .ref k_wc, .int (iI wd), .int (iI mg), .int (iI mw), .int (iI mc)]))] sz) := by
  refine met_i (by decide) rfl (Nat.le_of_ble_eq_true rfl) ?_
  intro p e s m below meth c A Q C hmn hret
  refine g_aload_n C 0 std_M_step_0 rfl ?_
  refine g_iconst C std_M_step_1 ?_
  refine g_put C (ws' := [(m0, .inr (5, [.int (iI 0), .int (iI steps), .ref k_ch, .ref k_co, .ref k_ua, .ref k_ub, .ref k_ba, .int (iI (fle 0)), .int (iI (fle 1)), .int (iI (fmo 0)), .int (iI (fmo 1)), .int (iI (bI HM)), .ref k_rt, .ref k_rf, .ref k_ct, .ref k_cf, .ref k_nd, .ref k_na, .ref k_no, .ref k_bt, .ref k_bc, .ref k_br, .int (iI bg), .int (iI pn), .ref k_pc, .ref k_pr, .ref k_la, .ref k_lb, .ref k_ha, .ref k_hb, .ref k_ls, .ref k_wc, .int (iI wd), .int (iI mg), .int (iI mw), .int (iI mc)]))]) (st_sub sti_M) stt_M sto_M stn_M 0 rfl rfl 0 (by decide) (List.mem_cons_of_mem _ kw_3_66) rfl rfl rfl rfl (Nat.le_of_ble_eq_true rfl) std_M_step_2 rfl ?_
  refine g_aload_n C 0 std_M_step_5 rfl ?_
  refine g_get C (st_sub sti_M) 0 rfl rfl 1 (by decide) (List.mem_cons_of_mem _ kw_3_67) rfl rfl std_M_step_6 ?_
  refine g_bipush C std_M_step_9 (by decide) ?_
  refine g_icmp_ne (tgt := 17) C std_M_step_11 (by decide) ⟨by omega, by omega⟩ ⟨by omega, by omega⟩ (fun c1 => ?_) (fun c1 => ?_)
  · refine g_aload_n C 0 std_M_step_17 rfl ?_
    refine g_iconst C std_M_step_18 ?_
    refine g_put C (ws' := [(m0, .inr (5, [.int (iI 0), .int (iI steps), .ref k_ch, .ref k_co, .ref k_ua, .ref k_ub, .ref k_ba, .int (iI (fle 0)), .int (iI (fle 1)), .int (iI (fmo 0)), .int (iI (fmo 1)), .int (iI 0), .ref k_rt, .ref k_rf, .ref k_ct, .ref k_cf, .ref k_nd, .ref k_na, .ref k_no, .ref k_bt, .ref k_bc, .ref k_br, .int (iI bg), .int (iI pn), .ref k_pc, .ref k_pr, .ref k_la, .ref k_lb, .ref k_ha, .ref k_hb, .ref k_ls, .ref k_wc, .int (iI wd), .int (iI mg), .int (iI mw), .int (iI mc)]))]) (st_sub sti_M) stt_M sto_M stn_M 0 rfl rfl 11 (by decide) (List.mem_cons_of_mem _ kw_3_77) rfl rfl (by decide) (by decide) (Nat.le_of_ble_eq_true rfl) std_M_step_19 rfl ?_
    refine g_aload_n C 0 std_M_step_22 rfl ?_
    refine g_dup C std_M_step_23 rfl ?_
    refine g_get C (st_sub sti_M) 0 rfl rfl 1 (by decide) (List.mem_cons_of_mem _ kw_3_67) rfl rfl std_M_step_24 ?_
    refine g_iconst C std_M_step_27 ?_
    refine g_iadd C std_M_step_28 ?_
    refine g_put C (ws' := [(m0, .inr (5, [.int (iI 0), .int (iI (steps + 1)), .ref k_ch, .ref k_co, .ref k_ua, .ref k_ub, .ref k_ba, .int (iI (fle 0)), .int (iI (fle 1)), .int (iI (fmo 0)), .int (iI (fmo 1)), .int (iI 0), .ref k_rt, .ref k_rf, .ref k_ct, .ref k_cf, .ref k_nd, .ref k_na, .ref k_no, .ref k_bt, .ref k_bc, .ref k_br, .int (iI bg), .int (iI pn), .ref k_pc, .ref k_pr, .ref k_la, .ref k_lb, .ref k_ha, .ref k_hb, .ref k_ls, .ref k_wc, .int (iI wd), .int (iI mg), .int (iI mw), .int (iI mc)]))]) (st_sub sti_M) stt_M sto_M stn_M 0 rfl rfl 1 (by decide) (List.mem_cons_of_mem _ kw_3_67) rfl rfl rfl rfl (Nat.le_of_ble_eq_true rfl) std_M_step_29 rfl ?_
    refine g_aload_n C 0 std_M_step_32 rfl ?_
    refine g_get C (st_sub sti_M) 0 rfl rfl 1 (by decide) (List.mem_cons_of_mem _ kw_3_67) rfl rfl std_M_step_33 ?_
    refine g_iconst C std_M_step_36 ?_
    refine g_isub C std_M_step_37 ?_
    refine g_ws (ws' := [(m0, .inr (5, [.int (iI 0), .int (iI (steps + 1)), .ref k_ch, .ref k_co, .ref k_ua, .ref k_ub, .ref k_ba, .int (iI (fle 0)), .int (iI (fle 1)), .int (iI (fmo 0)), .int (iI (fmo 1)), .int (iI (bI False)), .ref k_rt, .ref k_rf, .ref k_ct, .ref k_cf, .ref k_nd, .ref k_na, .ref k_no, .ref k_bt, .ref k_bc, .ref k_br, .int (iI bg), .int (iI pn), .ref k_pc, .ref k_pr, .ref k_la, .ref k_lb, .ref k_ha, .ref k_hb, .ref k_ls, .ref k_wc, .int (iI wd), .int (iI mg), .int (iI mw), .int (iI mc)]))]) (by rw [show bI False = 0 from bI_f id]) ?_
    exact hret _ _ _ (False, (steps + 1)) (Or.inr (⟨by omega, rfl, rfl⟩)) std_M_step_38
  · refine g_ldc C (z := (-3000000)) (List.mem_cons_of_mem _ kw_3_180) (by decide) std_M_step_14 ?_
    exact hret _ _ _ (HM, steps) (Or.inl ⟨by omega, rfl, rfl⟩) std_M_step_16

abbrev sty_M_choice : MethodName := ⟨"StateTablesModel", "choice", "(IIII)I"⟩
abbrev stc_M_choice : ByteArray := prog_7_method_6_code
theorem sth_M_choice : (sty_M_choice).cls ≠ "java/lang/invoke/MethodHandle" ∧ (sty_M_choice).cls ≠ "java/lang/invoke/VarHandle" ∧ (parseMethodDescriptor (sty_M_choice).desc).map (fun d => d.parameters.length) = some 4 := by decide +kernel
theorem std_M_choice_0 : decode stc_M_choice 0 = .ok (.aload_n 0, 1) := by decide +kernel
theorem std_M_choice_1 : decode stc_M_choice 1 = .ok (.iconst 0, 1) := by decide +kernel
theorem std_M_choice_2 : decode stc_M_choice 2 = .ok (.putfield 1, 3) := by decide +kernel
theorem std_M_choice_5 : decode stc_M_choice 5 = .ok (.iload_n 1, 1) := by decide +kernel
theorem std_M_choice_6 : decode stc_M_choice 6 = .ok (.iconst 0, 1) := by decide +kernel
theorem std_M_choice_7 : decode stc_M_choice 7 = .ok (.aload_n 0, 1) := by decide +kernel
theorem std_M_choice_8 : decode stc_M_choice 8 = .ok (.getfield 92, 3) := by decide +kernel
theorem std_M_choice_11 : decode stc_M_choice 11 = .ok (.iconst 1, 1) := by decide +kernel
theorem std_M_choice_12 : decode stc_M_choice 12 = .ok (.isub, 1) := by decide +kernel
theorem std_M_choice_13 : decode stc_M_choice 13 = .ok (.invokestatic 100, 3) := by decide +kernel
theorem std_M_choice_16 : decode stc_M_choice 16 = .ok (.ifCond .eq 37, 3) := by decide +kernel
theorem std_M_choice_53 : decode stc_M_choice 53 = .ok (.ldc 104, 2) := by decide +kernel
theorem kw_3_188 : Cond.constant "StateTablesModel" 104 (-2000000) ∈ stGW := st_t3 (List.mem_of_getElem? (i := 188) (by decide +kernel)) (by decide +kernel)
theorem std_M_choice_55 : decode stc_M_choice 55 = .ok (.ireturn, 1) := by decide +kernel
theorem std_M_choice_19 : decode stc_M_choice 19 = .ok (.iload_n 2, 1) := by decide +kernel
theorem std_M_choice_20 : decode stc_M_choice 20 = .ok (.sipush (-1000), 3) := by decide +kernel
theorem std_M_choice_23 : decode stc_M_choice 23 = .ok (.sipush 1000, 3) := by decide +kernel
theorem std_M_choice_26 : decode stc_M_choice 26 = .ok (.invokestatic 100, 3) := by decide +kernel
theorem std_M_choice_29 : decode stc_M_choice 29 = .ok (.ifCond .eq 24, 3) := by decide +kernel
theorem std_M_choice_32 : decode stc_M_choice 32 = .ok (.iload_n 3, 1) := by decide +kernel
theorem std_M_choice_33 : decode stc_M_choice 33 = .ok (.iconst 0, 1) := by decide +kernel
theorem std_M_choice_34 : decode stc_M_choice 34 = .ok (.bipush 20, 2) := by decide +kernel
theorem std_M_choice_36 : decode stc_M_choice 36 = .ok (.invokestatic 100, 3) := by decide +kernel
theorem std_M_choice_39 : decode stc_M_choice 39 = .ok (.ifCond .eq 14, 3) := by decide +kernel
theorem std_M_choice_42 : decode stc_M_choice 42 = .ok (.iload 4, 2) := by decide +kernel
theorem std_M_choice_44 : decode stc_M_choice 44 = .ok (.iconst 0, 1) := by decide +kernel
theorem std_M_choice_45 : decode stc_M_choice 45 = .ok (.bipush 20, 2) := by decide +kernel
theorem std_M_choice_47 : decode stc_M_choice 47 = .ok (.invokestatic 100, 3) := by decide +kernel
theorem std_M_choice_50 : decode stc_M_choice 50 = .ok (.ifCond .ne 6, 3) := by decide +kernel
theorem std_M_choice_56 : decode stc_M_choice 56 = .ok (.aload_n 0, 1) := by decide +kernel
theorem std_M_choice_57 : decode stc_M_choice 57 = .ok (.getfield 13, 3) := by decide +kernel
theorem std_M_choice_60 : decode stc_M_choice 60 = .ok (.iload_n 1, 1) := by decide +kernel
theorem std_M_choice_61 : decode stc_M_choice 61 = .ok (.iaload, 1) := by decide +kernel
theorem std_M_choice_62 : decode stc_M_choice 62 = .ok (.bipush 6, 2) := by decide +kernel
theorem std_M_choice_64 : decode stc_M_choice 64 = .ok (.if_icmp .ne 6, 3) := by decide +kernel
theorem std_M_choice_70 : decode stc_M_choice 70 = .ok (.aload_n 0, 1) := by decide +kernel
theorem std_M_choice_71 : decode stc_M_choice 71 = .ok (.iconst 0, 1) := by decide +kernel
theorem std_M_choice_72 : decode stc_M_choice 72 = .ok (.putfield 96, 3) := by decide +kernel
theorem std_M_choice_75 : decode stc_M_choice 75 = .ok (.bipush 6, 2) := by decide +kernel
theorem std_M_choice_77 : decode stc_M_choice 77 = .ok (.iload_n 1, 1) := by decide +kernel
theorem std_M_choice_78 : decode stc_M_choice 78 = .ok (.imul, 1) := by decide +kernel
theorem std_M_choice_79 : decode stc_M_choice 79 = .ok (.aload_n 0, 1) := by decide +kernel
theorem std_M_choice_80 : decode stc_M_choice 80 = .ok (.getfield 13, 3) := by decide +kernel
theorem std_M_choice_83 : decode stc_M_choice 83 = .ok (.iload_n 1, 1) := by decide +kernel
theorem std_M_choice_84 : decode stc_M_choice 84 = .ok (.iaload, 1) := by decide +kernel
theorem std_M_choice_85 : decode stc_M_choice 85 = .ok (.iadd, 1) := by decide +kernel
theorem std_M_choice_86 : decode stc_M_choice 86 = .ok (.istore 5, 2) := by decide +kernel
theorem std_M_choice_88 : decode stc_M_choice 88 = .ok (.aload_n 0, 1) := by decide +kernel
theorem std_M_choice_89 : decode stc_M_choice 89 = .ok (.getfield 17, 3) := by decide +kernel
theorem kw_3_69 : Cond.fieldLink "StateTablesModel" 17 "StateTablesModel" "cost" "[I" ∈ stGW := st_t3 (List.mem_of_getElem? (i := 69) (by decide +kernel)) (by decide +kernel)
theorem std_M_choice_92 : decode stc_M_choice 92 = .ok (.iload 5, 2) := by decide +kernel
theorem std_M_choice_94 : decode stc_M_choice 94 = .ok (.iload_n 2, 1) := by decide +kernel
theorem std_M_choice_95 : decode stc_M_choice 95 = .ok (.iastore, 1) := by decide +kernel
theorem std_M_choice_96 : decode stc_M_choice 96 = .ok (.aload_n 0, 1) := by decide +kernel
theorem std_M_choice_97 : decode stc_M_choice 97 = .ok (.getfield 20, 3) := by decide +kernel
theorem std_M_choice_100 : decode stc_M_choice 100 = .ok (.iload 5, 2) := by decide +kernel
theorem std_M_choice_102 : decode stc_M_choice 102 = .ok (.iload_n 3, 1) := by decide +kernel
theorem std_M_choice_103 : decode stc_M_choice 103 = .ok (.iastore, 1) := by decide +kernel
theorem std_M_choice_104 : decode stc_M_choice 104 = .ok (.aload_n 0, 1) := by decide +kernel
theorem std_M_choice_105 : decode stc_M_choice 105 = .ok (.getfield 23, 3) := by decide +kernel
theorem std_M_choice_108 : decode stc_M_choice 108 = .ok (.iload 5, 2) := by decide +kernel
theorem std_M_choice_110 : decode stc_M_choice 110 = .ok (.iload 4, 2) := by decide +kernel
theorem std_M_choice_112 : decode stc_M_choice 112 = .ok (.iastore, 1) := by decide +kernel
theorem std_M_choice_113 : decode stc_M_choice 113 = .ok (.aload_n 0, 1) := by decide +kernel
theorem std_M_choice_114 : decode stc_M_choice 114 = .ok (.getfield 13, 3) := by decide +kernel
theorem std_M_choice_117 : decode stc_M_choice 117 = .ok (.iload_n 1, 1) := by decide +kernel
theorem std_M_choice_118 : decode stc_M_choice 118 = .ok (.dup2, 1) := by decide +kernel
theorem std_M_choice_119 : decode stc_M_choice 119 = .ok (.iaload, 1) := by decide +kernel
theorem std_M_choice_120 : decode stc_M_choice 120 = .ok (.iconst 1, 1) := by decide +kernel
theorem std_M_choice_121 : decode stc_M_choice 121 = .ok (.iadd, 1) := by decide +kernel
theorem std_M_choice_122 : decode stc_M_choice 122 = .ok (.iastore, 1) := by decide +kernel
theorem std_M_choice_123 : decode stc_M_choice 123 = .ok (.aload_n 0, 1) := by decide +kernel
theorem std_M_choice_124 : decode stc_M_choice 124 = .ok (.getfield 13, 3) := by decide +kernel
theorem std_M_choice_127 : decode stc_M_choice 127 = .ok (.iload_n 1, 1) := by decide +kernel
theorem std_M_choice_128 : decode stc_M_choice 128 = .ok (.iaload, 1) := by decide +kernel
theorem std_M_choice_129 : decode stc_M_choice 129 = .ok (.iconst 1, 1) := by decide +kernel
theorem std_M_choice_130 : decode stc_M_choice 130 = .ok (.isub, 1) := by decide +kernel
theorem std_M_choice_131 : decode stc_M_choice 131 = .ok (.ireturn, 1) := by decide +kernel
theorem std_M_choice_67 : decode stc_M_choice 67 = .ok (.ldc 95, 2) := by decide +kernel
theorem std_M_choice_69 : decode stc_M_choice 69 = .ok (.ireturn, 1) := by decide +kernel
set_option maxHeartbeats 4000000 in
set_option maxRecDepth 100000 in
theorem c_m_choice (l : Launch) (dC : Nat → ClassId) (dI : Nat → Nat → Nat) (cI cJ cZ : ClassId) (m0 : Nat) (k_ch : Nat) (k_co : Nat) (k_ua : Nat) (k_ub : Nat) (k_ba : Nat) (k_rt : Nat) (k_rf : Nat) (k_ct : Nat) (k_cf : Nat) (k_nd : Nat) (k_na : Nat) (k_no : Nat) (k_bt : Nat) (k_bc : Nat) (k_br : Nat) (k_pc : Nat) (k_pr : Nat) (k_la : Nat) (k_lb : Nat) (k_ha : Nat) (k_hb : Nat) (k_ls : Nat) (k_wc : Nat) (HM : Prop) (bg : Int) (pn : Int) (wd : Int) (mg : Int) (mw : Int) (mc : Int) (steps : Int) (fle : Int → Int) (fmo : Int → Int) (fsz : Int → Int) (fco : Int → Int) (ffu : Int → Int) (fsu : Int → Int) (a : Int) (x : Int) (y : Int) (z : Int) (kst : 0 ≤ steps ∧ steps ≤ 12) (ksz : ∀ j, 0 ≤ j → j < 12 → 0 ≤ fsz j ∧ fsz j ≤ 6) (ka : rI a) (kx : rI x) (ky : rI y) (kz : rI z) : ∀ sz, Met l sty_M_choice (Cond.code sty_M_choice stc_M_choice 6 (some .int) :: stGW) ({ frames := 1, cells := 0, slots := 0, locals := 22 } : Room) (va_Pc [.ref m0, .int (iI a), .int (iI x), .int (iI y), .int (iI z)] (zPre (dC, dI) stCl [(cI, .int), (cJ, .long), (cZ, .boolean)] st_nw [(m0, .inr (5, [.int (iI 0), .int (iI steps), .ref k_ch, .ref k_co, .ref k_ua, .ref k_ub, .ref k_ba, .int (iI (fle 0)), .int (iI (fle 1)), .int (iI (fmo 0)), .int (iI (fmo 1)), .int (iI (bI HM)), .ref k_rt, .ref k_rf, .ref k_ct, .ref k_cf, .ref k_nd, .ref k_na, .ref k_no, .ref k_bt, .ref k_bc, .ref k_br, .int (iI bg), .int (iI pn), .ref k_pc, .ref k_pr, .ref k_la, .ref k_lb, .ref k_ha, .ref k_hb, .ref k_ls, .ref k_wc, .int (iI wd), .int (iI mg), .int (iI mw), .int (iI mc)])), (k_ch, .inl (cI, aI 13 fsz)), (k_co, .inl (cI, aI 78 fco)), (k_ua, .inl (cI, aI 78 ffu)), (k_ub, .inl (cI, aI 78 fsu))] sz)) (va_Qi (fun (r : Int32) (u : Prop × (Int → Int) × (Int → Int) × (Int → Int) × (Int → Int)) => (¬ (((0 ≤ a ∧ a < steps) ∧ (-1000 ≤ x ∧ x ≤ 1000)) ∧ (0 ≤ y ∧ y ≤ 20) ∧ 0 ≤ z ∧ z ≤ 20) ∧ r = iI (-2000000) ∧ u = (HM, fsz, fco, ffu, fsu)) ∨ (((((0 ≤ a ∧ a < steps) ∧ (-1000 ≤ x ∧ x ≤ 1000)) ∧ (0 ≤ y ∧ y ≤ 20) ∧ 0 ≤ z ∧ z ≤ 20) ∧ 6 ≤ fsz a) ∧ r = iI (-3000000) ∧ u = (HM, fsz, fco, ffu, fsu)) ∨ (((((0 ≤ a ∧ a < steps) ∧ (-1000 ≤ x ∧ x ≤ 1000)) ∧ (0 ≤ y ∧ y ≤ 20) ∧ 0 ≤ z ∧ z ≤ 20) ∧ fsz a < 6) ∧ r = iI (fsz a) ∧ u = (False, (uZ fsz a ((fsz a) + 1)), (uZ fco ((a * 6) + (fsz a)) x), (uZ ffu ((a * 6) + (fsz a)) y), (uZ fsu ((a * 6) + (fsz a)) z)))) (zPost (dC, dI) stCl [(cI, .int), (cJ, .long), (cZ, .boolean)] [(m0, .inr (5, [.int (iI 0), .int (iI steps), .ref k_ch, .ref k_co, .ref k_ua, .ref k_ub, .ref k_ba, .int (iI (fle 0)), .int (iI (fle 1)), .int (iI (fmo 0)), .int (iI (fmo 1)), .int (iI (bI HM)), .ref k_rt, .ref k_rf, .ref k_ct, .ref k_cf, .ref k_nd, .ref k_na, .ref k_no, .ref k_bt, .ref k_bc, .ref k_br, .int (iI bg), .int (iI pn), .ref k_pc, .ref k_pr, .ref k_la, .ref k_lb, .ref k_ha, .ref k_hb, .ref k_ls, .ref k_wc, .int (iI wd), .int (iI mg), .int (iI mw), .int (iI mc)])), (k_ch, .inl (cI, aI 13 fsz)), (k_co, .inl (cI, aI 78 fco)), (k_ua, .inl (cI, aI 78 ffu)), (k_ub, .inl (cI, aI 78 fsu))] sz (fun u : Prop × (Int → Int) × (Int → Int) × (Int → Int) × (Int → Int) => [(m0, .inr (5, [.int (iI 0), .int (iI steps), .ref k_ch, .ref k_co, .ref k_ua, .ref k_ub, .ref k_ba, .int (iI (fle 0)), .int (iI (fle 1)), .int (iI (fmo 0)), .int (iI (fmo 1)), .int (iI (bI u.1)), .ref k_rt, .ref k_rf, .ref k_ct, .ref k_cf, .ref k_nd, .ref k_na, .ref k_no, .ref k_bt, .ref k_bc, .ref k_br, .int (iI bg), .int (iI pn), .ref k_pc, .ref k_pr, .ref k_la, .ref k_lb, .ref k_ha, .ref k_hb, .ref k_ls, .ref k_wc, .int (iI wd), .int (iI mg), .int (iI mw), .int (iI mc)])), (k_ch, .inl (cI, aI 13 (u.2.1))), (k_co, .inl (cI, aI 78 (u.2.2.1))), (k_ua, .inl (cI, aI 78 (u.2.2.2.1))), (k_ub, .inl (cI, aI 78 (u.2.2.2.2)))])) (va_A [(m0, .inr (5, [.int (iI 0), .int (iI steps), .ref k_ch, .ref k_co, .ref k_ua, .ref k_ub, .ref k_ba, .int (iI (fle 0)), .int (iI (fle 1)), .int (iI (fmo 0)), .int (iI (fmo 1)), .int (iI (bI HM)), .ref k_rt, .ref k_rf, .ref k_ct, .ref k_cf, .ref k_nd, .ref k_na, .ref k_no, .ref k_bt, .ref k_bc, .ref k_br, .int (iI bg), .int (iI pn), .ref k_pc, .ref k_pr, .ref k_la, .ref k_lb, .ref k_ha, .ref k_hb, .ref k_ls, .ref k_wc, .int (iI wd), .int (iI mg), .int (iI mw), .int (iI mc)])), (k_ch, .inl (cI, aI 13 fsz)), (k_co, .inl (cI, aI 78 fco)), (k_ua, .inl (cI, aI 78 ffu)), (k_ub, .inl (cI, aI 78 fsu))] sz)) 0 0 (va_A [(m0, .inr (5, [.int (iI 0), .int (iI steps), .ref k_ch, .ref k_co, .ref k_ua, .ref k_ub, .ref k_ba, .int (iI (fle 0)), .int (iI (fle 1)), .int (iI (fmo 0)), .int (iI (fmo 1)), .int (iI (bI HM)), .ref k_rt, .ref k_rf, .ref k_ct, .ref k_cf, .ref k_nd, .ref k_na, .ref k_no, .ref k_bt, .ref k_bc, .ref k_br, .int (iI bg), .int (iI pn), .ref k_pc, .ref k_pr, .ref k_la, .ref k_lb, .ref k_ha, .ref k_hb, .ref k_ls, .ref k_wc, .int (iI wd), .int (iI mg), .int (iI mw), .int (iI mc)])), (k_ch, .inl (cI, aI 13 fsz)), (k_co, .inl (cI, aI 78 fco)), (k_ua, .inl (cI, aI 78 ffu)), (k_ub, .inl (cI, aI 78 fsu))] sz) := by
  refine met_i (by decide) rfl (Nat.le_of_ble_eq_true rfl) ?_
  intro p e s m below meth c A Q C hmn hret
  refine g_aload_n C 0 std_M_choice_0 rfl ?_
  refine g_iconst C std_M_choice_1 ?_
  refine g_put C (ws' := [(m0, .inr (5, [.int (iI 0), .int (iI steps), .ref k_ch, .ref k_co, .ref k_ua, .ref k_ub, .ref k_ba, .int (iI (fle 0)), .int (iI (fle 1)), .int (iI (fmo 0)), .int (iI (fmo 1)), .int (iI (bI HM)), .ref k_rt, .ref k_rf, .ref k_ct, .ref k_cf, .ref k_nd, .ref k_na, .ref k_no, .ref k_bt, .ref k_bc, .ref k_br, .int (iI bg), .int (iI pn), .ref k_pc, .ref k_pr, .ref k_la, .ref k_lb, .ref k_ha, .ref k_hb, .ref k_ls, .ref k_wc, .int (iI wd), .int (iI mg), .int (iI mw), .int (iI mc)])), (k_ch, .inl (cI, aI 13 fsz)), (k_co, .inl (cI, aI 78 fco)), (k_ua, .inl (cI, aI 78 ffu)), (k_ub, .inl (cI, aI 78 fsu))]) (st_sub sti_M) stt_M sto_M stn_M 0 rfl rfl 0 (by decide) (List.mem_cons_of_mem _ kw_3_66) rfl rfl rfl rfl (Nat.le_of_ble_eq_true rfl) std_M_choice_2 rfl ?_
  refine g_iload_n C 1 std_M_choice_5 rfl ?_
  refine g_iconst C std_M_choice_6 ?_
  refine g_aload_n C 0 std_M_choice_7 rfl ?_
  refine g_get C (st_sub sti_M) 0 rfl rfl 1 (by decide) (List.mem_cons_of_mem _ kw_3_67) rfl rfl std_M_choice_8 ?_
  refine g_iconst C std_M_choice_11 ?_
  refine g_isub C std_M_choice_12 ?_
  refine g_S_i (wc := []) (wr := [(m0, .inr (5, [.int (iI 0), .int (iI steps), .ref k_ch, .ref k_co, .ref k_ua, .ref k_ub, .ref k_ba, .int (iI (fle 0)), .int (iI (fle 1)), .int (iI (fmo 0)), .int (iI (fmo 1)), .int (iI (bI HM)), .ref k_rt, .ref k_rf, .ref k_ct, .ref k_cf, .ref k_nd, .ref k_na, .ref k_no, .ref k_bt, .ref k_bc, .ref k_br, .int (iI bg), .int (iI pn), .ref k_pc, .ref k_pr, .ref k_la, .ref k_lb, .ref k_ha, .ref k_hb, .ref k_ls, .ref k_wc, .int (iI wd), .int (iI mg), .int (iI mw), .int (iI mc)])), (k_ch, .inl (cI, aI 13 fsz)), (k_co, .inl (cI, aI 78 fco)), (k_ua, .inl (cI, aI 78 ffu)), (k_ub, .inl (cI, aI 78 fsu))]) (rest := []) C (c_m_in l dC dI cI cJ cZ a 0 (steps - 1) (by unfold rI at *; omega) (by unfold rI at *; omega) (by unfold rI at *; omega)) (st_cS C kw_3_187 kw_3_185 kw_1_6 kw_3_186 sth_M_in ⟨Nat.le_of_ble_eq_true rfl, Nat.le_of_ble_eq_true rfl⟩) rfl rfl (Nat.le_of_ble_eq_true rfl) std_M_choice_13 ⟨Nat.le_of_ble_eq_true rfl, Nat.le_of_ble_eq_true rfl⟩ [] [0, 1, 2, 3, 4] rfl rfl rfl rfl (by decide) (fun r1 u2 h3 => ?_)
  subst h3
  refine g_ws (ws' := [(m0, .inr (5, [.int (iI 0), .int (iI steps), .ref k_ch, .ref k_co, .ref k_ua, .ref k_ub, .ref k_ba, .int (iI (fle 0)), .int (iI (fle 1)), .int (iI (fmo 0)), .int (iI (fmo 1)), .int (iI (bI HM)), .ref k_rt, .ref k_rf, .ref k_ct, .ref k_cf, .ref k_nd, .ref k_na, .ref k_no, .ref k_bt, .ref k_bc, .ref k_br, .int (iI bg), .int (iI pn), .ref k_pc, .ref k_pr, .ref k_la, .ref k_lb, .ref k_ha, .ref k_hb, .ref k_ls, .ref k_wc, .int (iI wd), .int (iI mg), .int (iI mw), .int (iI mc)])), (k_ch, .inl (cI, aI 13 fsz)), (k_co, .inl (cI, aI 78 fco)), (k_ua, .inl (cI, aI 78 ffu)), (k_ub, .inl (cI, aI 78 fsu))]) rfl ?_
  refine g_ifeq_b (tgt := 53) C std_M_choice_16 (by decide) (fun c4 => ?_) (fun c4 => ?_)
  · refine g_ldc C (z := (-2000000)) (List.mem_cons_of_mem _ kw_3_188) (by decide) std_M_choice_53 ?_
    refine g_wide (k := 0) (n := 0) (Nat.le_of_ble_eq_true rfl) (Nat.le_of_ble_eq_true rfl) ?_
    exact hret _ _ _ (HM, fsz, fco, ffu, fsu) (Or.inl ⟨by omega, rfl, rfl⟩) std_M_choice_55
  · refine g_iload_n C 2 std_M_choice_19 rfl ?_
    refine g_sipush C std_M_choice_20 (by decide) ?_
    refine g_sipush C std_M_choice_23 (by decide) ?_
    refine g_S_i (wc := []) (wr := [(m0, .inr (5, [.int (iI 0), .int (iI steps), .ref k_ch, .ref k_co, .ref k_ua, .ref k_ub, .ref k_ba, .int (iI (fle 0)), .int (iI (fle 1)), .int (iI (fmo 0)), .int (iI (fmo 1)), .int (iI (bI HM)), .ref k_rt, .ref k_rf, .ref k_ct, .ref k_cf, .ref k_nd, .ref k_na, .ref k_no, .ref k_bt, .ref k_bc, .ref k_br, .int (iI bg), .int (iI pn), .ref k_pc, .ref k_pr, .ref k_la, .ref k_lb, .ref k_ha, .ref k_hb, .ref k_ls, .ref k_wc, .int (iI wd), .int (iI mg), .int (iI mw), .int (iI mc)])), (k_ch, .inl (cI, aI 13 fsz)), (k_co, .inl (cI, aI 78 fco)), (k_ua, .inl (cI, aI 78 ffu)), (k_ub, .inl (cI, aI 78 fsu))]) (rest := []) C (c_m_in l dC dI cI cJ cZ x (-1000) 1000 (by unfold rI at *; omega) (by unfold rI at *; omega) (by unfold rI at *; omega)) (st_cS C kw_3_187 kw_3_185 kw_1_6 kw_3_186 sth_M_in ⟨Nat.le_of_ble_eq_true rfl, Nat.le_of_ble_eq_true rfl⟩) rfl rfl (Nat.le_of_ble_eq_true rfl) std_M_choice_26 ⟨Nat.le_of_ble_eq_true rfl, Nat.le_of_ble_eq_true rfl⟩ [] [0, 1, 2, 3, 4] rfl rfl rfl rfl (by decide) (fun r5 u6 h7 => ?_)
    subst h7
    refine g_ws (ws' := [(m0, .inr (5, [.int (iI 0), .int (iI steps), .ref k_ch, .ref k_co, .ref k_ua, .ref k_ub, .ref k_ba, .int (iI (fle 0)), .int (iI (fle 1)), .int (iI (fmo 0)), .int (iI (fmo 1)), .int (iI (bI HM)), .ref k_rt, .ref k_rf, .ref k_ct, .ref k_cf, .ref k_nd, .ref k_na, .ref k_no, .ref k_bt, .ref k_bc, .ref k_br, .int (iI bg), .int (iI pn), .ref k_pc, .ref k_pr, .ref k_la, .ref k_lb, .ref k_ha, .ref k_hb, .ref k_ls, .ref k_wc, .int (iI wd), .int (iI mg), .int (iI mw), .int (iI mc)])), (k_ch, .inl (cI, aI 13 fsz)), (k_co, .inl (cI, aI 78 fco)), (k_ua, .inl (cI, aI 78 ffu)), (k_ub, .inl (cI, aI 78 fsu))]) rfl ?_
    refine g_ifeq_b (tgt := 53) C std_M_choice_29 (by decide) (fun c8 => ?_) (fun c8 => ?_)
    · refine g_ldc C (z := (-2000000)) (List.mem_cons_of_mem _ kw_3_188) (by decide) std_M_choice_53 ?_
      refine g_wide (k := 0) (n := 0) (Nat.le_of_ble_eq_true rfl) (Nat.le_of_ble_eq_true rfl) ?_
      exact hret _ _ _ (HM, fsz, fco, ffu, fsu) (Or.inl ⟨by omega, rfl, rfl⟩) std_M_choice_55
    · refine g_iload_n C 3 std_M_choice_32 rfl ?_
      refine g_iconst C std_M_choice_33 ?_
      refine g_bipush C std_M_choice_34 (by decide) ?_
      refine g_S_i (wc := []) (wr := [(m0, .inr (5, [.int (iI 0), .int (iI steps), .ref k_ch, .ref k_co, .ref k_ua, .ref k_ub, .ref k_ba, .int (iI (fle 0)), .int (iI (fle 1)), .int (iI (fmo 0)), .int (iI (fmo 1)), .int (iI (bI HM)), .ref k_rt, .ref k_rf, .ref k_ct, .ref k_cf, .ref k_nd, .ref k_na, .ref k_no, .ref k_bt, .ref k_bc, .ref k_br, .int (iI bg), .int (iI pn), .ref k_pc, .ref k_pr, .ref k_la, .ref k_lb, .ref k_ha, .ref k_hb, .ref k_ls, .ref k_wc, .int (iI wd), .int (iI mg), .int (iI mw), .int (iI mc)])), (k_ch, .inl (cI, aI 13 fsz)), (k_co, .inl (cI, aI 78 fco)), (k_ua, .inl (cI, aI 78 ffu)), (k_ub, .inl (cI, aI 78 fsu))]) (rest := []) C (c_m_in l dC dI cI cJ cZ y 0 20 (by unfold rI at *; omega) (by unfold rI at *; omega) (by unfold rI at *; omega)) (st_cS C kw_3_187 kw_3_185 kw_1_6 kw_3_186 sth_M_in ⟨Nat.le_of_ble_eq_true rfl, Nat.le_of_ble_eq_true rfl⟩) rfl rfl (Nat.le_of_ble_eq_true rfl) std_M_choice_36 ⟨Nat.le_of_ble_eq_true rfl, Nat.le_of_ble_eq_true rfl⟩ [] [0, 1, 2, 3, 4] rfl rfl rfl rfl (by decide) (fun r9 u10 h11 => ?_)
      subst h11
      refine g_ws (ws' := [(m0, .inr (5, [.int (iI 0), .int (iI steps), .ref k_ch, .ref k_co, .ref k_ua, .ref k_ub, .ref k_ba, .int (iI (fle 0)), .int (iI (fle 1)), .int (iI (fmo 0)), .int (iI (fmo 1)), .int (iI (bI HM)), .ref k_rt, .ref k_rf, .ref k_ct, .ref k_cf, .ref k_nd, .ref k_na, .ref k_no, .ref k_bt, .ref k_bc, .ref k_br, .int (iI bg), .int (iI pn), .ref k_pc, .ref k_pr, .ref k_la, .ref k_lb, .ref k_ha, .ref k_hb, .ref k_ls, .ref k_wc, .int (iI wd), .int (iI mg), .int (iI mw), .int (iI mc)])), (k_ch, .inl (cI, aI 13 fsz)), (k_co, .inl (cI, aI 78 fco)), (k_ua, .inl (cI, aI 78 ffu)), (k_ub, .inl (cI, aI 78 fsu))]) rfl ?_
      refine g_ifeq_b (tgt := 53) C std_M_choice_39 (by decide) (fun c12 => ?_) (fun c12 => ?_)
      · refine g_ldc C (z := (-2000000)) (List.mem_cons_of_mem _ kw_3_188) (by decide) std_M_choice_53 ?_
        refine g_wide (k := 0) (n := 0) (Nat.le_of_ble_eq_true rfl) (Nat.le_of_ble_eq_true rfl) ?_
        exact hret _ _ _ (HM, fsz, fco, ffu, fsu) (Or.inl ⟨by omega, rfl, rfl⟩) std_M_choice_55
      · refine g_iload C 4 std_M_choice_42 rfl ?_
        refine g_iconst C std_M_choice_44 ?_
        refine g_bipush C std_M_choice_45 (by decide) ?_
        refine g_S_i (wc := []) (wr := [(m0, .inr (5, [.int (iI 0), .int (iI steps), .ref k_ch, .ref k_co, .ref k_ua, .ref k_ub, .ref k_ba, .int (iI (fle 0)), .int (iI (fle 1)), .int (iI (fmo 0)), .int (iI (fmo 1)), .int (iI (bI HM)), .ref k_rt, .ref k_rf, .ref k_ct, .ref k_cf, .ref k_nd, .ref k_na, .ref k_no, .ref k_bt, .ref k_bc, .ref k_br, .int (iI bg), .int (iI pn), .ref k_pc, .ref k_pr, .ref k_la, .ref k_lb, .ref k_ha, .ref k_hb, .ref k_ls, .ref k_wc, .int (iI wd), .int (iI mg), .int (iI mw), .int (iI mc)])), (k_ch, .inl (cI, aI 13 fsz)), (k_co, .inl (cI, aI 78 fco)), (k_ua, .inl (cI, aI 78 ffu)), (k_ub, .inl (cI, aI 78 fsu))]) (rest := []) C (c_m_in l dC dI cI cJ cZ z 0 20 (by unfold rI at *; omega) (by unfold rI at *; omega) (by unfold rI at *; omega)) (st_cS C kw_3_187 kw_3_185 kw_1_6 kw_3_186 sth_M_in ⟨Nat.le_of_ble_eq_true rfl, Nat.le_of_ble_eq_true rfl⟩) rfl rfl (Nat.le_of_ble_eq_true rfl) std_M_choice_47 ⟨Nat.le_of_ble_eq_true rfl, Nat.le_of_ble_eq_true rfl⟩ [] [0, 1, 2, 3, 4] rfl rfl rfl rfl (by decide) (fun r13 u14 h15 => ?_)
        subst h15
        refine g_ws (ws' := [(m0, .inr (5, [.int (iI 0), .int (iI steps), .ref k_ch, .ref k_co, .ref k_ua, .ref k_ub, .ref k_ba, .int (iI (fle 0)), .int (iI (fle 1)), .int (iI (fmo 0)), .int (iI (fmo 1)), .int (iI (bI HM)), .ref k_rt, .ref k_rf, .ref k_ct, .ref k_cf, .ref k_nd, .ref k_na, .ref k_no, .ref k_bt, .ref k_bc, .ref k_br, .int (iI bg), .int (iI pn), .ref k_pc, .ref k_pr, .ref k_la, .ref k_lb, .ref k_ha, .ref k_hb, .ref k_ls, .ref k_wc, .int (iI wd), .int (iI mg), .int (iI mw), .int (iI mc)])), (k_ch, .inl (cI, aI 13 fsz)), (k_co, .inl (cI, aI 78 fco)), (k_ua, .inl (cI, aI 78 ffu)), (k_ub, .inl (cI, aI 78 fsu))]) rfl ?_
        refine g_ifne_b (tgt := 56) C std_M_choice_50 (by decide) (fun c16 => ?_) (fun c16 => ?_)
        · have hqa := ksz a (by omega) (by omega)
          refine g_aload_n C 0 std_M_choice_56 rfl ?_
          refine g_get C (st_sub sti_M) 0 rfl rfl 2 (by decide) (List.mem_cons_of_mem _ kw_3_68) rfl rfl std_M_choice_57 ?_
          refine g_iload_n C 1 std_M_choice_60 rfl ?_
          refine g_iald C 1 0 rfl rfl (by omega) (by omega) (by omega) std_M_choice_61 ?_
          refine g_bipush C std_M_choice_62 (by decide) ?_
          refine g_icmp_ne (tgt := 70) C std_M_choice_64 (by decide) ⟨by omega, by omega⟩ ⟨by omega, by omega⟩ (fun c17 => ?_) (fun c17 => ?_)
          · refine g_aload_n C 0 std_M_choice_70 rfl ?_
            refine g_iconst C std_M_choice_71 ?_
            refine g_put C (ws' := [(m0, .inr (5, [.int (iI 0), .int (iI steps), .ref k_ch, .ref k_co, .ref k_ua, .ref k_ub, .ref k_ba, .int (iI (fle 0)), .int (iI (fle 1)), .int (iI (fmo 0)), .int (iI (fmo 1)), .int (iI 0), .ref k_rt, .ref k_rf, .ref k_ct, .ref k_cf, .ref k_nd, .ref k_na, .ref k_no, .ref k_bt, .ref k_bc, .ref k_br, .int (iI bg), .int (iI pn), .ref k_pc, .ref k_pr, .ref k_la, .ref k_lb, .ref k_ha, .ref k_hb, .ref k_ls, .ref k_wc, .int (iI wd), .int (iI mg), .int (iI mw), .int (iI mc)])), (k_ch, .inl (cI, aI 13 fsz)), (k_co, .inl (cI, aI 78 fco)), (k_ua, .inl (cI, aI 78 ffu)), (k_ub, .inl (cI, aI 78 fsu))]) (st_sub sti_M) stt_M sto_M stn_M 0 rfl rfl 11 (by decide) (List.mem_cons_of_mem _ kw_3_77) rfl rfl (by decide) (by decide) (Nat.le_of_ble_eq_true rfl) std_M_choice_72 rfl ?_
            refine g_bipush C std_M_choice_75 (by decide) ?_
            refine g_iload_n C 1 std_M_choice_77 rfl ?_
            refine g_imul C std_M_choice_78 ?_
            refine g_aload_n C 0 std_M_choice_79 rfl ?_
            refine g_get C (st_sub sti_M) 0 rfl rfl 2 (by decide) (List.mem_cons_of_mem _ kw_3_68) rfl rfl std_M_choice_80 ?_
            refine g_iload_n C 1 std_M_choice_83 rfl ?_
            refine g_iald C 1 0 rfl rfl (by omega) (by omega) (by omega) std_M_choice_84 ?_
            refine g_iadd C std_M_choice_85 ?_
            refine g_istore C (lv' := [(5, .int (iI ((6 * a) + (fsz a)))), (0, .ref m0), (1, .int (iI a)), (2, .int (iI x)), (3, .int (iI y)), (4, .int (iI z))]) std_M_choice_86 (by decide) rfl ?_
            refine g_aload_n C 1 std_M_choice_88 rfl ?_
            refine g_get C (st_sub sti_M) 0 rfl rfl 3 (by decide) (List.mem_cons_of_mem _ kw_3_69) rfl rfl std_M_choice_89 ?_
            refine g_iload C 0 std_M_choice_92 rfl ?_
            refine g_iload_n C 3 std_M_choice_94 rfl ?_
            refine g_iast C (ws' := [(m0, .inr (5, [.int (iI 0), .int (iI steps), .ref k_ch, .ref k_co, .ref k_ua, .ref k_ub, .ref k_ba, .int (iI (fle 0)), .int (iI (fle 1)), .int (iI (fmo 0)), .int (iI (fmo 1)), .int (iI 0), .ref k_rt, .ref k_rf, .ref k_ct, .ref k_cf, .ref k_nd, .ref k_na, .ref k_no, .ref k_bt, .ref k_bc, .ref k_br, .int (iI bg), .int (iI pn), .ref k_pc, .ref k_pr, .ref k_la, .ref k_lb, .ref k_ha, .ref k_hb, .ref k_ls, .ref k_wc, .int (iI wd), .int (iI mg), .int (iI mw), .int (iI mc)])), (k_ch, .inl (cI, aI 13 fsz)), (k_co, .inl (cI, aI 78 (uZ fco ((6 * a) + (fsz a)) x))), (k_ua, .inl (cI, aI 78 ffu)), (k_ub, .inl (cI, aI 78 fsu))]) 2 0 rfl rfl (by omega) (by omega) (by omega) std_M_choice_95 rfl ?_
            refine g_aload_n C 1 std_M_choice_96 rfl ?_
            refine g_get C (st_sub sti_M) 0 rfl rfl 4 (by decide) (List.mem_cons_of_mem _ kw_3_70) rfl rfl std_M_choice_97 ?_
            refine g_iload C 0 std_M_choice_100 rfl ?_
            refine g_iload_n C 4 std_M_choice_102 rfl ?_
            refine g_iast C (ws' := [(m0, .inr (5, [.int (iI 0), .int (iI steps), .ref k_ch, .ref k_co, .ref k_ua, .ref k_ub, .ref k_ba, .int (iI (fle 0)), .int (iI (fle 1)), .int (iI (fmo 0)), .int (iI (fmo 1)), .int (iI 0), .ref k_rt, .ref k_rf, .ref k_ct, .ref k_cf, .ref k_nd, .ref k_na, .ref k_no, .ref k_bt, .ref k_bc, .ref k_br, .int (iI bg), .int (iI pn), .ref k_pc, .ref k_pr, .ref k_la, .ref k_lb, .ref k_ha, .ref k_hb, .ref k_ls, .ref k_wc, .int (iI wd), .int (iI mg), .int (iI mw), .int (iI mc)])), (k_ch, .inl (cI, aI 13 fsz)), (k_co, .inl (cI, aI 78 (uZ fco ((6 * a) + (fsz a)) x))), (k_ua, .inl (cI, aI 78 (uZ ffu ((6 * a) + (fsz a)) y))), (k_ub, .inl (cI, aI 78 fsu))]) 3 0 rfl rfl (by omega) (by omega) (by omega) std_M_choice_103 rfl ?_
            refine g_aload_n C 1 std_M_choice_104 rfl ?_
            refine g_get C (st_sub sti_M) 0 rfl rfl 5 (by decide) (List.mem_cons_of_mem _ kw_3_71) rfl rfl std_M_choice_105 ?_
            refine g_iload C 0 std_M_choice_108 rfl ?_
            refine g_iload C 5 std_M_choice_110 rfl ?_
            refine g_iast C (ws' := [(m0, .inr (5, [.int (iI 0), .int (iI steps), .ref k_ch, .ref k_co, .ref k_ua, .ref k_ub, .ref k_ba, .int (iI (fle 0)), .int (iI (fle 1)), .int (iI (fmo 0)), .int (iI (fmo 1)), .int (iI 0), .ref k_rt, .ref k_rf, .ref k_ct, .ref k_cf, .ref k_nd, .ref k_na, .ref k_no, .ref k_bt, .ref k_bc, .ref k_br, .int (iI bg), .int (iI pn), .ref k_pc, .ref k_pr, .ref k_la, .ref k_lb, .ref k_ha, .ref k_hb, .ref k_ls, .ref k_wc, .int (iI wd), .int (iI mg), .int (iI mw), .int (iI mc)])), (k_ch, .inl (cI, aI 13 fsz)), (k_co, .inl (cI, aI 78 (uZ fco ((6 * a) + (fsz a)) x))), (k_ua, .inl (cI, aI 78 (uZ ffu ((6 * a) + (fsz a)) y))), (k_ub, .inl (cI, aI 78 (uZ fsu ((6 * a) + (fsz a)) z)))]) 4 0 rfl rfl (by omega) (by omega) (by omega) std_M_choice_112 rfl ?_
            refine g_aload_n C 1 std_M_choice_113 rfl ?_
            refine g_get C (st_sub sti_M) 0 rfl rfl 2 (by decide) (List.mem_cons_of_mem _ kw_3_68) rfl rfl std_M_choice_114 ?_
            refine g_iload_n C 2 std_M_choice_117 rfl ?_
            refine g_dup2 C std_M_choice_118 rfl rfl ?_
            refine g_iald C 1 0 rfl rfl (by omega) (by omega) (by omega) std_M_choice_119 ?_
            refine g_iconst C std_M_choice_120 ?_
            refine g_iadd C std_M_choice_121 ?_
            refine g_iast C (ws' := [(m0, .inr (5, [.int (iI 0), .int (iI steps), .ref k_ch, .ref k_co, .ref k_ua, .ref k_ub, .ref k_ba, .int (iI (fle 0)), .int (iI (fle 1)), .int (iI (fmo 0)), .int (iI (fmo 1)), .int (iI 0), .ref k_rt, .ref k_rf, .ref k_ct, .ref k_cf, .ref k_nd, .ref k_na, .ref k_no, .ref k_bt, .ref k_bc, .ref k_br, .int (iI bg), .int (iI pn), .ref k_pc, .ref k_pr, .ref k_la, .ref k_lb, .ref k_ha, .ref k_hb, .ref k_ls, .ref k_wc, .int (iI wd), .int (iI mg), .int (iI mw), .int (iI mc)])), (k_ch, .inl (cI, aI 13 (uZ fsz a ((fsz a) + 1)))), (k_co, .inl (cI, aI 78 (uZ fco ((6 * a) + (fsz a)) x))), (k_ua, .inl (cI, aI 78 (uZ ffu ((6 * a) + (fsz a)) y))), (k_ub, .inl (cI, aI 78 (uZ fsu ((6 * a) + (fsz a)) z)))]) 1 0 rfl rfl (by omega) (by omega) (by omega) std_M_choice_122 rfl ?_
            refine g_aload_n C 1 std_M_choice_123 rfl ?_
            refine g_get C (st_sub sti_M) 0 rfl rfl 2 (by decide) (List.mem_cons_of_mem _ kw_3_68) rfl rfl std_M_choice_124 ?_
            refine g_iload_n C 2 std_M_choice_127 rfl ?_
            refine g_iald C 1 0 rfl rfl (by omega) (by omega) (by omega) std_M_choice_128 ?_
            refine g_st (st' := [.int (iI ((fsz a) + 1))]) (by rw [uZ_s]) ?_
            refine g_iconst C std_M_choice_129 ?_
            refine g_isub C std_M_choice_130 ?_
            refine g_wide (k := 0) (n := 0) (Nat.le_of_ble_eq_true rfl) (Nat.le_of_ble_eq_true rfl) ?_
            refine g_ws (ws' := [(m0, .inr (5, [.int (iI 0), .int (iI steps), .ref k_ch, .ref k_co, .ref k_ua, .ref k_ub, .ref k_ba, .int (iI (fle 0)), .int (iI (fle 1)), .int (iI (fmo 0)), .int (iI (fmo 1)), .int (iI (bI False)), .ref k_rt, .ref k_rf, .ref k_ct, .ref k_cf, .ref k_nd, .ref k_na, .ref k_no, .ref k_bt, .ref k_bc, .ref k_br, .int (iI bg), .int (iI pn), .ref k_pc, .ref k_pr, .ref k_la, .ref k_lb, .ref k_ha, .ref k_hb, .ref k_ls, .ref k_wc, .int (iI wd), .int (iI mg), .int (iI mw), .int (iI mc)])), (k_ch, .inl (cI, aI 13 (uZ fsz a ((fsz a) + 1)))), (k_co, .inl (cI, aI 78 (uZ fco ((6 * a) + (fsz a)) x))), (k_ua, .inl (cI, aI 78 (uZ ffu ((6 * a) + (fsz a)) y))), (k_ub, .inl (cI, aI 78 (uZ fsu ((6 * a) + (fsz a)) z)))]) (by rw [show bI False = 0 from bI_f id]) ?_
            refine g_ws (ws' := [(m0, .inr (5, [.int (iI 0), .int (iI steps), .ref k_ch, .ref k_co, .ref k_ua, .ref k_ub, .ref k_ba, .int (iI (fle 0)), .int (iI (fle 1)), .int (iI (fmo 0)), .int (iI (fmo 1)), .int (iI (bI False)), .ref k_rt, .ref k_rf, .ref k_ct, .ref k_cf, .ref k_nd, .ref k_na, .ref k_no, .ref k_bt, .ref k_bc, .ref k_br, .int (iI bg), .int (iI pn), .ref k_pc, .ref k_pr, .ref k_la, .ref k_lb, .ref k_ha, .ref k_hb, .ref k_ls, .ref k_wc, .int (iI wd), .int (iI mg), .int (iI mw), .int (iI mc)])), (k_ch, .inl (cI, aI 13 (uZ fsz a ((fsz a) + 1)))), (k_co, .inl (cI, aI 78 (uZ fco ((a * 6) + (fsz a)) x))), (k_ua, .inl (cI, aI 78 (uZ ffu ((a * 6) + (fsz a)) y))), (k_ub, .inl (cI, aI 78 (uZ fsu ((a * 6) + (fsz a)) z)))]) (by rw [Int.mul_comm 6 a]) ?_
            exact hret _ _ _ (False, (uZ fsz a ((fsz a) + 1)), (uZ fco ((a * 6) + (fsz a)) x), (uZ ffu ((a * 6) + (fsz a)) y), (uZ fsu ((a * 6) + (fsz a)) z)) (Or.inr (Or.inr (⟨by omega, congrArg iI (by omega), rfl⟩))) std_M_choice_131
          · refine g_ldc C (z := (-3000000)) (List.mem_cons_of_mem _ kw_3_180) (by decide) std_M_choice_67 ?_
            refine g_wide (k := 0) (n := 0) (Nat.le_of_ble_eq_true rfl) (Nat.le_of_ble_eq_true rfl) ?_
            exact hret _ _ _ (HM, fsz, fco, ffu, fsu) (Or.inr (Or.inl ⟨by omega, rfl, rfl⟩)) std_M_choice_69
        · refine g_ldc C (z := (-2000000)) (List.mem_cons_of_mem _ kw_3_188) (by decide) std_M_choice_53 ?_
          refine g_wide (k := 0) (n := 0) (Nat.le_of_ble_eq_true rfl) (Nat.le_of_ble_eq_true rfl) ?_
          exact hret _ _ _ (HM, fsz, fco, ffu, fsu) (Or.inl ⟨by omega, rfl, rfl⟩) std_M_choice_55

abbrev sty_M_cost : MethodName := ⟨"StateTablesModel", "cost", "(III)I"⟩
abbrev stc_M_cost : ByteArray := prog_7_method_7_code
theorem sth_M_cost : (sty_M_cost).cls ≠ "java/lang/invoke/MethodHandle" ∧ (sty_M_cost).cls ≠ "java/lang/invoke/VarHandle" ∧ (parseMethodDescriptor (sty_M_cost).desc).map (fun d => d.parameters.length) = some 3 := by decide +kernel
theorem std_M_cost_0 : decode stc_M_cost 0 = .ok (.aload_n 0, 1) := by decide +kernel
theorem std_M_cost_1 : decode stc_M_cost 1 = .ok (.iconst 0, 1) := by decide +kernel
theorem std_M_cost_2 : decode stc_M_cost 2 = .ok (.putfield 1, 3) := by decide +kernel
theorem std_M_cost_5 : decode stc_M_cost 5 = .ok (.aload_n 0, 1) := by decide +kernel
theorem std_M_cost_6 : decode stc_M_cost 6 = .ok (.iload_n 1, 1) := by decide +kernel
theorem std_M_cost_7 : decode stc_M_cost 7 = .ok (.iload_n 2, 1) := by decide +kernel
theorem std_M_cost_8 : decode stc_M_cost 8 = .ok (.invokevirtual 105, 3) := by decide +kernel
theorem kw_3_196 : Cond.code sty_M_noChoice stc_M_noChoice 3 (some .boolean) ∈ stGW := st_t3 (List.mem_of_getElem? (i := 196) (by decide +kernel)) (by decide +kernel)
theorem kw_3_193 : Cond.methodLink "StateTablesModel" 105 (sty_M_noChoice) ∈ stGW := st_t3 (List.mem_of_getElem? (i := 193) (by decide +kernel)) (by decide +kernel)
theorem kw_3_195 : Cond.instanceMethod (sty_M_noChoice) ∈ stGW := st_t3 (List.mem_of_getElem? (i := 195) (by decide +kernel)) (by decide +kernel)
theorem kw_0_18 : Cond.selects "StateTablesModel" (sty_M_noChoice) (sty_M_noChoice) ∈ stGW := st_t0 (List.mem_of_getElem? (i := 18) (by decide +kernel)) (by decide +kernel)
theorem std_M_cost_11 : decode stc_M_cost 11 = .ok (.ifCond .ne 16, 3) := by decide +kernel
theorem std_M_cost_27 : decode stc_M_cost 27 = .ok (.ldc 104, 2) := by decide +kernel
theorem std_M_cost_29 : decode stc_M_cost 29 = .ok (.ireturn, 1) := by decide +kernel
theorem std_M_cost_14 : decode stc_M_cost 14 = .ok (.iload_n 3, 1) := by decide +kernel
theorem std_M_cost_15 : decode stc_M_cost 15 = .ok (.sipush (-1000), 3) := by decide +kernel
theorem std_M_cost_18 : decode stc_M_cost 18 = .ok (.sipush 1000, 3) := by decide +kernel
theorem std_M_cost_21 : decode stc_M_cost 21 = .ok (.invokestatic 100, 3) := by decide +kernel
theorem std_M_cost_24 : decode stc_M_cost 24 = .ok (.ifCond .ne 6, 3) := by decide +kernel
theorem std_M_cost_30 : decode stc_M_cost 30 = .ok (.aload_n 0, 1) := by decide +kernel
theorem std_M_cost_31 : decode stc_M_cost 31 = .ok (.iconst 0, 1) := by decide +kernel
theorem std_M_cost_32 : decode stc_M_cost 32 = .ok (.putfield 96, 3) := by decide +kernel
theorem std_M_cost_35 : decode stc_M_cost 35 = .ok (.aload_n 0, 1) := by decide +kernel
theorem std_M_cost_36 : decode stc_M_cost 36 = .ok (.getfield 17, 3) := by decide +kernel
theorem std_M_cost_39 : decode stc_M_cost 39 = .ok (.bipush 6, 2) := by decide +kernel
theorem std_M_cost_41 : decode stc_M_cost 41 = .ok (.iload_n 1, 1) := by decide +kernel
theorem std_M_cost_42 : decode stc_M_cost 42 = .ok (.imul, 1) := by decide +kernel
theorem std_M_cost_43 : decode stc_M_cost 43 = .ok (.iload_n 2, 1) := by decide +kernel
theorem std_M_cost_44 : decode stc_M_cost 44 = .ok (.iadd, 1) := by decide +kernel
theorem std_M_cost_45 : decode stc_M_cost 45 = .ok (.iaload, 1) := by decide +kernel
theorem std_M_cost_46 : decode stc_M_cost 46 = .ok (.istore 4, 2) := by decide +kernel
theorem std_M_cost_48 : decode stc_M_cost 48 = .ok (.aload_n 0, 1) := by decide +kernel
theorem std_M_cost_49 : decode stc_M_cost 49 = .ok (.getfield 17, 3) := by decide +kernel
theorem std_M_cost_52 : decode stc_M_cost 52 = .ok (.bipush 6, 2) := by decide +kernel
theorem std_M_cost_54 : decode stc_M_cost 54 = .ok (.iload_n 1, 1) := by decide +kernel
theorem std_M_cost_55 : decode stc_M_cost 55 = .ok (.imul, 1) := by decide +kernel
theorem std_M_cost_56 : decode stc_M_cost 56 = .ok (.iload_n 2, 1) := by decide +kernel
theorem std_M_cost_57 : decode stc_M_cost 57 = .ok (.iadd, 1) := by decide +kernel
theorem std_M_cost_58 : decode stc_M_cost 58 = .ok (.iload_n 3, 1) := by decide +kernel
theorem std_M_cost_59 : decode stc_M_cost 59 = .ok (.iastore, 1) := by decide +kernel
theorem std_M_cost_60 : decode stc_M_cost 60 = .ok (.iload 4, 2) := by decide +kernel
theorem std_M_cost_62 : decode stc_M_cost 62 = .ok (.ireturn, 1) := by decide +kernel
set_option maxHeartbeats 4000000 in
set_option maxRecDepth 100000 in
theorem c_m_cost (l : Launch) (dC : Nat → ClassId) (dI : Nat → Nat → Nat) (cI cJ cZ : ClassId) (m0 : Nat) (k_ch : Nat) (k_co : Nat) (k_ua : Nat) (k_ub : Nat) (k_ba : Nat) (k_rt : Nat) (k_rf : Nat) (k_ct : Nat) (k_cf : Nat) (k_nd : Nat) (k_na : Nat) (k_no : Nat) (k_bt : Nat) (k_bc : Nat) (k_br : Nat) (k_pc : Nat) (k_pr : Nat) (k_la : Nat) (k_lb : Nat) (k_ha : Nat) (k_hb : Nat) (k_ls : Nat) (k_wc : Nat) (HM : Prop) (bg : Int) (pn : Int) (wd : Int) (mg : Int) (mw : Int) (mc : Int) (steps : Int) (fle : Int → Int) (fmo : Int → Int) (fsz : Int → Int) (fco : Int → Int) (a : Int) (b : Int) (x : Int) (kst : 0 ≤ steps ∧ steps ≤ 12) (ksz : ∀ j, 0 ≤ j → j < 12 → 0 ≤ fsz j ∧ fsz j ≤ 6) (ka : rI a) (kb : rI b) (kx : rI x) : ∀ sz, Met l sty_M_cost (Cond.code sty_M_cost stc_M_cost 5 (some .int) :: stGW) ({ frames := 2, cells := 0, slots := 0, locals := 44 } : Room) (va_Pc [.ref m0, .int (iI a), .int (iI b), .int (iI x)] (zPre (dC, dI) stCl [(cI, .int), (cJ, .long), (cZ, .boolean)] st_nw [(m0, .inr (5, [.int (iI 0), .int (iI steps), .ref k_ch, .ref k_co, .ref k_ua, .ref k_ub, .ref k_ba, .int (iI (fle 0)), .int (iI (fle 1)), .int (iI (fmo 0)), .int (iI (fmo 1)), .int (iI (bI HM)), .ref k_rt, .ref k_rf, .ref k_ct, .ref k_cf, .ref k_nd, .ref k_na, .ref k_no, .ref k_bt, .ref k_bc, .ref k_br, .int (iI bg), .int (iI pn), .ref k_pc, .ref k_pr, .ref k_la, .ref k_lb, .ref k_ha, .ref k_hb, .ref k_ls, .ref k_wc, .int (iI wd), .int (iI mg), .int (iI mw), .int (iI mc)])), (k_ch, .inl (cI, aI 13 fsz)), (k_co, .inl (cI, aI 78 fco))] sz)) (va_Qi (fun (r : Int32) (u : Prop × (Int → Int)) => (¬ (((0 ≤ a ∧ a < steps) ∧ 0 ≤ b ∧ b < fsz a) ∧ -1000 ≤ x ∧ x ≤ 1000) ∧ r = iI (-2000000) ∧ u = (HM, fco)) ∨ ((((0 ≤ a ∧ a < steps) ∧ 0 ≤ b ∧ b < fsz a) ∧ -1000 ≤ x ∧ x ≤ 1000) ∧ r = iI (fco ((a * 6) + b)) ∧ u = (False, (uZ fco ((a * 6) + b) x)))) (zPost (dC, dI) stCl [(cI, .int), (cJ, .long), (cZ, .boolean)] [(m0, .inr (5, [.int (iI 0), .int (iI steps), .ref k_ch, .ref k_co, .ref k_ua, .ref k_ub, .ref k_ba, .int (iI (fle 0)), .int (iI (fle 1)), .int (iI (fmo 0)), .int (iI (fmo 1)), .int (iI (bI HM)), .ref k_rt, .ref k_rf, .ref k_ct, .ref k_cf, .ref k_nd, .ref k_na, .ref k_no, .ref k_bt, .ref k_bc, .ref k_br, .int (iI bg), .int (iI pn), .ref k_pc, .ref k_pr, .ref k_la, .ref k_lb, .ref k_ha, .ref k_hb, .ref k_ls, .ref k_wc, .int (iI wd), .int (iI mg), .int (iI mw), .int (iI mc)])), (k_ch, .inl (cI, aI 13 fsz)), (k_co, .inl (cI, aI 78 fco))] sz (fun u : Prop × (Int → Int) => [(m0, .inr (5, [.int (iI 0), .int (iI steps), .ref k_ch, .ref k_co, .ref k_ua, .ref k_ub, .ref k_ba, .int (iI (fle 0)), .int (iI (fle 1)), .int (iI (fmo 0)), .int (iI (fmo 1)), .int (iI (bI u.1)), .ref k_rt, .ref k_rf, .ref k_ct, .ref k_cf, .ref k_nd, .ref k_na, .ref k_no, .ref k_bt, .ref k_bc, .ref k_br, .int (iI bg), .int (iI pn), .ref k_pc, .ref k_pr, .ref k_la, .ref k_lb, .ref k_ha, .ref k_hb, .ref k_ls, .ref k_wc, .int (iI wd), .int (iI mg), .int (iI mw), .int (iI mc)])), (k_ch, .inl (cI, aI 13 fsz)), (k_co, .inl (cI, aI 78 (u.2)))])) (va_A [(m0, .inr (5, [.int (iI 0), .int (iI steps), .ref k_ch, .ref k_co, .ref k_ua, .ref k_ub, .ref k_ba, .int (iI (fle 0)), .int (iI (fle 1)), .int (iI (fmo 0)), .int (iI (fmo 1)), .int (iI (bI HM)), .ref k_rt, .ref k_rf, .ref k_ct, .ref k_cf, .ref k_nd, .ref k_na, .ref k_no, .ref k_bt, .ref k_bc, .ref k_br, .int (iI bg), .int (iI pn), .ref k_pc, .ref k_pr, .ref k_la, .ref k_lb, .ref k_ha, .ref k_hb, .ref k_ls, .ref k_wc, .int (iI wd), .int (iI mg), .int (iI mw), .int (iI mc)])), (k_ch, .inl (cI, aI 13 fsz)), (k_co, .inl (cI, aI 78 fco))] sz)) 0 0 (va_A [(m0, .inr (5, [.int (iI 0), .int (iI steps), .ref k_ch, .ref k_co, .ref k_ua, .ref k_ub, .ref k_ba, .int (iI (fle 0)), .int (iI (fle 1)), .int (iI (fmo 0)), .int (iI (fmo 1)), .int (iI (bI HM)), .ref k_rt, .ref k_rf, .ref k_ct, .ref k_cf, .ref k_nd, .ref k_na, .ref k_no, .ref k_bt, .ref k_bc, .ref k_br, .int (iI bg), .int (iI pn), .ref k_pc, .ref k_pr, .ref k_la, .ref k_lb, .ref k_ha, .ref k_hb, .ref k_ls, .ref k_wc, .int (iI wd), .int (iI mg), .int (iI mw), .int (iI mc)])), (k_ch, .inl (cI, aI 13 fsz)), (k_co, .inl (cI, aI 78 fco))] sz) := by
  refine met_i (by decide) rfl (Nat.le_of_ble_eq_true rfl) ?_
  intro p e s m below meth c A Q C hmn hret
  refine g_aload_n C 0 std_M_cost_0 rfl ?_
  refine g_iconst C std_M_cost_1 ?_
  refine g_put C (ws' := [(m0, .inr (5, [.int (iI 0), .int (iI steps), .ref k_ch, .ref k_co, .ref k_ua, .ref k_ub, .ref k_ba, .int (iI (fle 0)), .int (iI (fle 1)), .int (iI (fmo 0)), .int (iI (fmo 1)), .int (iI (bI HM)), .ref k_rt, .ref k_rf, .ref k_ct, .ref k_cf, .ref k_nd, .ref k_na, .ref k_no, .ref k_bt, .ref k_bc, .ref k_br, .int (iI bg), .int (iI pn), .ref k_pc, .ref k_pr, .ref k_la, .ref k_lb, .ref k_ha, .ref k_hb, .ref k_ls, .ref k_wc, .int (iI wd), .int (iI mg), .int (iI mw), .int (iI mc)])), (k_ch, .inl (cI, aI 13 fsz)), (k_co, .inl (cI, aI 78 fco))]) (st_sub sti_M) stt_M sto_M stn_M 0 rfl rfl 0 (by decide) (List.mem_cons_of_mem _ kw_3_66) rfl rfl rfl rfl (Nat.le_of_ble_eq_true rfl) std_M_cost_2 rfl ?_
  refine g_aload_n C 0 std_M_cost_5 rfl ?_
  refine g_iload_n C 1 std_M_cost_6 rfl ?_
  refine g_iload_n C 2 std_M_cost_7 rfl ?_
  refine g_V_i (wc := [(m0, .inr (5, [.int (iI 0), .int (iI steps), .ref k_ch, .ref k_co, .ref k_ua, .ref k_ub, .ref k_ba, .int (iI (fle 0)), .int (iI (fle 1)), .int (iI (fmo 0)), .int (iI (fmo 1)), .int (iI (bI HM)), .ref k_rt, .ref k_rf, .ref k_ct, .ref k_cf, .ref k_nd, .ref k_na, .ref k_no, .ref k_bt, .ref k_bc, .ref k_br, .int (iI bg), .int (iI pn), .ref k_pc, .ref k_pr, .ref k_la, .ref k_lb, .ref k_ha, .ref k_hb, .ref k_ls, .ref k_wc, .int (iI wd), .int (iI mg), .int (iI mw), .int (iI mc)])), (k_ch, .inl (cI, aI 13 fsz))]) (wr := [(k_co, .inl (cI, aI 78 fco))]) (rest := []) C (c_m_noChoice l dC dI cI cJ cZ m0 k_ch k_co k_ua k_ub k_ba k_rt k_rf k_ct k_cf k_nd k_na k_no k_bt k_bc k_br k_pc k_pr k_la k_lb k_ha k_hb k_ls k_wc HM bg pn wd mg mw mc steps fsz fle fmo a b (kst) (ksz) (by unfold rI at *; omega) (by unfold rI at *; omega)) (st_cV C kw_3_196 kw_3_193 kw_1_6 kw_3_195 kw_0_18 sth_M_noChoice ⟨Nat.le_of_ble_eq_true rfl, Nat.le_of_ble_eq_true rfl⟩) 0 rfl rfl rfl rfl (Nat.le_of_ble_eq_true rfl) std_M_cost_8 ⟨Nat.le_of_ble_eq_true rfl, Nat.le_of_ble_eq_true rfl⟩ [0, 1] [2] rfl rfl rfl rfl (by decide) (fun r1 u2 h3 => ?_)
  subst h3
  refine g_ws (ws' := [(k_co, .inl (cI, aI 78 fco)), (m0, .inr (5, [.int (iI 0), .int (iI steps), .ref k_ch, .ref k_co, .ref k_ua, .ref k_ub, .ref k_ba, .int (iI (fle 0)), .int (iI (fle 1)), .int (iI (fmo 0)), .int (iI (fmo 1)), .int (iI (bI HM)), .ref k_rt, .ref k_rf, .ref k_ct, .ref k_cf, .ref k_nd, .ref k_na, .ref k_no, .ref k_bt, .ref k_bc, .ref k_br, .int (iI bg), .int (iI pn), .ref k_pc, .ref k_pr, .ref k_la, .ref k_lb, .ref k_ha, .ref k_hb, .ref k_ls, .ref k_wc, .int (iI wd), .int (iI mg), .int (iI mw), .int (iI mc)])), (k_ch, .inl (cI, aI 13 fsz))]) rfl ?_
  refine g_ifne_b (tgt := 27) C std_M_cost_11 (by decide) (fun c4 => ?_) (fun c4 => ?_)
  · refine g_ldc C (z := (-2000000)) (List.mem_cons_of_mem _ kw_3_188) (by decide) std_M_cost_27 ?_
    refine g_sub (ws' := [(m0, .inr (5, [.int (iI 0), .int (iI steps), .ref k_ch, .ref k_co, .ref k_ua, .ref k_ub, .ref k_ba, .int (iI (fle 0)), .int (iI (fle 1)), .int (iI (fmo 0)), .int (iI (fmo 1)), .int (iI (bI HM)), .ref k_rt, .ref k_rf, .ref k_ct, .ref k_cf, .ref k_nd, .ref k_na, .ref k_no, .ref k_bt, .ref k_bc, .ref k_br, .int (iI bg), .int (iI pn), .ref k_pc, .ref k_pr, .ref k_la, .ref k_lb, .ref k_ha, .ref k_hb, .ref k_ls, .ref k_wc, .int (iI wd), .int (iI mg), .int (iI mw), .int (iI mc)])), (k_ch, .inl (cI, aI 13 fsz)), (k_co, .inl (cI, aI 78 fco))]) [1, 2, 0] rfl rfl ?_
    refine g_wide (k := 0) (n := 0) (Nat.le_of_ble_eq_true rfl) (Nat.le_of_ble_eq_true rfl) ?_
    exact hret _ _ _ (HM, fco) (Or.inl ⟨by omega, rfl, rfl⟩) std_M_cost_29
  · refine g_iload_n C 3 std_M_cost_14 rfl ?_
    refine g_sipush C std_M_cost_15 (by decide) ?_
    refine g_sipush C std_M_cost_18 (by decide) ?_
    refine g_S_i (wc := []) (wr := [(k_co, .inl (cI, aI 78 fco)), (m0, .inr (5, [.int (iI 0), .int (iI steps), .ref k_ch, .ref k_co, .ref k_ua, .ref k_ub, .ref k_ba, .int (iI (fle 0)), .int (iI (fle 1)), .int (iI (fmo 0)), .int (iI (fmo 1)), .int (iI (bI HM)), .ref k_rt, .ref k_rf, .ref k_ct, .ref k_cf, .ref k_nd, .ref k_na, .ref k_no, .ref k_bt, .ref k_bc, .ref k_br, .int (iI bg), .int (iI pn), .ref k_pc, .ref k_pr, .ref k_la, .ref k_lb, .ref k_ha, .ref k_hb, .ref k_ls, .ref k_wc, .int (iI wd), .int (iI mg), .int (iI mw), .int (iI mc)])), (k_ch, .inl (cI, aI 13 fsz))]) (rest := []) C (c_m_in l dC dI cI cJ cZ x (-1000) 1000 (by unfold rI at *; omega) (by unfold rI at *; omega) (by unfold rI at *; omega)) (st_cS C kw_3_187 kw_3_185 kw_1_6 kw_3_186 sth_M_in ⟨Nat.le_of_ble_eq_true rfl, Nat.le_of_ble_eq_true rfl⟩) rfl rfl (Nat.le_of_ble_eq_true rfl) std_M_cost_21 ⟨Nat.le_of_ble_eq_true rfl, Nat.le_of_ble_eq_true rfl⟩ [] [0, 1, 2] rfl rfl rfl rfl (by decide) (fun r5 u6 h7 => ?_)
    subst h7
    refine g_ws (ws' := [(k_co, .inl (cI, aI 78 fco)), (m0, .inr (5, [.int (iI 0), .int (iI steps), .ref k_ch, .ref k_co, .ref k_ua, .ref k_ub, .ref k_ba, .int (iI (fle 0)), .int (iI (fle 1)), .int (iI (fmo 0)), .int (iI (fmo 1)), .int (iI (bI HM)), .ref k_rt, .ref k_rf, .ref k_ct, .ref k_cf, .ref k_nd, .ref k_na, .ref k_no, .ref k_bt, .ref k_bc, .ref k_br, .int (iI bg), .int (iI pn), .ref k_pc, .ref k_pr, .ref k_la, .ref k_lb, .ref k_ha, .ref k_hb, .ref k_ls, .ref k_wc, .int (iI wd), .int (iI mg), .int (iI mw), .int (iI mc)])), (k_ch, .inl (cI, aI 13 fsz))]) rfl ?_
    refine g_ifne_b (tgt := 30) C std_M_cost_24 (by decide) (fun c8 => ?_) (fun c8 => ?_)
    · have hqa := ksz a (by omega) (by omega)
      refine g_aload_n C 0 std_M_cost_30 rfl ?_
      refine g_iconst C std_M_cost_31 ?_
      refine g_put C (ws' := [(k_co, .inl (cI, aI 78 fco)), (m0, .inr (5, [.int (iI 0), .int (iI steps), .ref k_ch, .ref k_co, .ref k_ua, .ref k_ub, .ref k_ba, .int (iI (fle 0)), .int (iI (fle 1)), .int (iI (fmo 0)), .int (iI (fmo 1)), .int (iI 0), .ref k_rt, .ref k_rf, .ref k_ct, .ref k_cf, .ref k_nd, .ref k_na, .ref k_no, .ref k_bt, .ref k_bc, .ref k_br, .int (iI bg), .int (iI pn), .ref k_pc, .ref k_pr, .ref k_la, .ref k_lb, .ref k_ha, .ref k_hb, .ref k_ls, .ref k_wc, .int (iI wd), .int (iI mg), .int (iI mw), .int (iI mc)])), (k_ch, .inl (cI, aI 13 fsz))]) (st_sub sti_M) stt_M sto_M stn_M 1 rfl rfl 11 (by decide) (List.mem_cons_of_mem _ kw_3_77) rfl rfl (by decide) (by decide) (Nat.le_of_ble_eq_true rfl) std_M_cost_32 rfl ?_
      refine g_aload_n C 0 std_M_cost_35 rfl ?_
      refine g_get C (st_sub sti_M) 1 rfl rfl 3 (by decide) (List.mem_cons_of_mem _ kw_3_69) rfl rfl std_M_cost_36 ?_
      refine g_bipush C std_M_cost_39 (by decide) ?_
      refine g_iload_n C 1 std_M_cost_41 rfl ?_
      refine g_imul C std_M_cost_42 ?_
      refine g_iload_n C 2 std_M_cost_43 rfl ?_
      refine g_iadd C std_M_cost_44 ?_
      refine g_iald C 0 0 rfl rfl (by omega) (by omega) (by omega) std_M_cost_45 ?_
      refine g_istore C (lv' := [(4, .int (iI (fco ((6 * a) + b)))), (0, .ref m0), (1, .int (iI a)), (2, .int (iI b)), (3, .int (iI x))]) std_M_cost_46 (by decide) rfl ?_
      refine g_aload_n C 1 std_M_cost_48 rfl ?_
      refine g_get C (st_sub sti_M) 1 rfl rfl 3 (by decide) (List.mem_cons_of_mem _ kw_3_69) rfl rfl std_M_cost_49 ?_
      refine g_bipush C std_M_cost_52 (by decide) ?_
      refine g_iload_n C 2 std_M_cost_54 rfl ?_
      refine g_imul C std_M_cost_55 ?_
      refine g_iload_n C 3 std_M_cost_56 rfl ?_
      refine g_iadd C std_M_cost_57 ?_
      refine g_iload_n C 4 std_M_cost_58 rfl ?_
      refine g_iast C (ws' := [(k_co, .inl (cI, aI 78 (uZ fco ((6 * a) + b) x))), (m0, .inr (5, [.int (iI 0), .int (iI steps), .ref k_ch, .ref k_co, .ref k_ua, .ref k_ub, .ref k_ba, .int (iI (fle 0)), .int (iI (fle 1)), .int (iI (fmo 0)), .int (iI (fmo 1)), .int (iI 0), .ref k_rt, .ref k_rf, .ref k_ct, .ref k_cf, .ref k_nd, .ref k_na, .ref k_no, .ref k_bt, .ref k_bc, .ref k_br, .int (iI bg), .int (iI pn), .ref k_pc, .ref k_pr, .ref k_la, .ref k_lb, .ref k_ha, .ref k_hb, .ref k_ls, .ref k_wc, .int (iI wd), .int (iI mg), .int (iI mw), .int (iI mc)])), (k_ch, .inl (cI, aI 13 fsz))]) 0 0 rfl rfl (by omega) (by omega) (by omega) std_M_cost_59 rfl ?_
      refine g_iload C 0 std_M_cost_60 rfl ?_
      refine g_sub (ws' := [(m0, .inr (5, [.int (iI 0), .int (iI steps), .ref k_ch, .ref k_co, .ref k_ua, .ref k_ub, .ref k_ba, .int (iI (fle 0)), .int (iI (fle 1)), .int (iI (fmo 0)), .int (iI (fmo 1)), .int (iI 0), .ref k_rt, .ref k_rf, .ref k_ct, .ref k_cf, .ref k_nd, .ref k_na, .ref k_no, .ref k_bt, .ref k_bc, .ref k_br, .int (iI bg), .int (iI pn), .ref k_pc, .ref k_pr, .ref k_la, .ref k_lb, .ref k_ha, .ref k_hb, .ref k_ls, .ref k_wc, .int (iI wd), .int (iI mg), .int (iI mw), .int (iI mc)])), (k_ch, .inl (cI, aI 13 fsz)), (k_co, .inl (cI, aI 78 (uZ fco ((6 * a) + b) x)))]) [1, 2, 0] rfl rfl ?_
      refine g_wide (k := 0) (n := 0) (Nat.le_of_ble_eq_true rfl) (Nat.le_of_ble_eq_true rfl) ?_
      refine g_ws (ws' := [(m0, .inr (5, [.int (iI 0), .int (iI steps), .ref k_ch, .ref k_co, .ref k_ua, .ref k_ub, .ref k_ba, .int (iI (fle 0)), .int (iI (fle 1)), .int (iI (fmo 0)), .int (iI (fmo 1)), .int (iI (bI False)), .ref k_rt, .ref k_rf, .ref k_ct, .ref k_cf, .ref k_nd, .ref k_na, .ref k_no, .ref k_bt, .ref k_bc, .ref k_br, .int (iI bg), .int (iI pn), .ref k_pc, .ref k_pr, .ref k_la, .ref k_lb, .ref k_ha, .ref k_hb, .ref k_ls, .ref k_wc, .int (iI wd), .int (iI mg), .int (iI mw), .int (iI mc)])), (k_ch, .inl (cI, aI 13 fsz)), (k_co, .inl (cI, aI 78 (uZ fco ((6 * a) + b) x)))]) (by rw [show bI False = 0 from bI_f id]) ?_
      refine g_ws (ws' := [(m0, .inr (5, [.int (iI 0), .int (iI steps), .ref k_ch, .ref k_co, .ref k_ua, .ref k_ub, .ref k_ba, .int (iI (fle 0)), .int (iI (fle 1)), .int (iI (fmo 0)), .int (iI (fmo 1)), .int (iI (bI False)), .ref k_rt, .ref k_rf, .ref k_ct, .ref k_cf, .ref k_nd, .ref k_na, .ref k_no, .ref k_bt, .ref k_bc, .ref k_br, .int (iI bg), .int (iI pn), .ref k_pc, .ref k_pr, .ref k_la, .ref k_lb, .ref k_ha, .ref k_hb, .ref k_ls, .ref k_wc, .int (iI wd), .int (iI mg), .int (iI mw), .int (iI mc)])), (k_ch, .inl (cI, aI 13 fsz)), (k_co, .inl (cI, aI 78 (uZ fco ((a * 6) + b) x)))]) (by rw [Int.mul_comm 6 a]) ?_
      exact hret _ _ _ (False, (uZ fco ((a * 6) + b) x)) (Or.inr (⟨by omega, by rw [Int.mul_comm 6 a], rfl⟩)) std_M_cost_62
    · refine g_ldc C (z := (-2000000)) (List.mem_cons_of_mem _ kw_3_188) (by decide) std_M_cost_27 ?_
      refine g_sub (ws' := [(m0, .inr (5, [.int (iI 0), .int (iI steps), .ref k_ch, .ref k_co, .ref k_ua, .ref k_ub, .ref k_ba, .int (iI (fle 0)), .int (iI (fle 1)), .int (iI (fmo 0)), .int (iI (fmo 1)), .int (iI (bI HM)), .ref k_rt, .ref k_rf, .ref k_ct, .ref k_cf, .ref k_nd, .ref k_na, .ref k_no, .ref k_bt, .ref k_bc, .ref k_br, .int (iI bg), .int (iI pn), .ref k_pc, .ref k_pr, .ref k_la, .ref k_lb, .ref k_ha, .ref k_hb, .ref k_ls, .ref k_wc, .int (iI wd), .int (iI mg), .int (iI mw), .int (iI mc)])), (k_ch, .inl (cI, aI 13 fsz)), (k_co, .inl (cI, aI 78 fco))]) [1, 2, 0] rfl rfl ?_
      refine g_wide (k := 0) (n := 0) (Nat.le_of_ble_eq_true rfl) (Nat.le_of_ble_eq_true rfl) ?_
      exact hret _ _ _ (HM, fco) (Or.inl ⟨by omega, rfl, rfl⟩) std_M_cost_29

abbrev sty_M_resource : MethodName := ⟨"StateTablesModel", "resource", "(III)I"⟩
abbrev stc_M_resource : ByteArray := prog_7_method_8_code
theorem sth_M_resource : (sty_M_resource).cls ≠ "java/lang/invoke/MethodHandle" ∧ (sty_M_resource).cls ≠ "java/lang/invoke/VarHandle" ∧ (parseMethodDescriptor (sty_M_resource).desc).map (fun d => d.parameters.length) = some 3 := by decide +kernel
theorem std_M_resource_0 : decode stc_M_resource 0 = .ok (.aload_n 0, 1) := by decide +kernel
theorem std_M_resource_1 : decode stc_M_resource 1 = .ok (.iconst 0, 1) := by decide +kernel
theorem std_M_resource_2 : decode stc_M_resource 2 = .ok (.putfield 1, 3) := by decide +kernel
theorem std_M_resource_5 : decode stc_M_resource 5 = .ok (.iload_n 1, 1) := by decide +kernel
theorem std_M_resource_6 : decode stc_M_resource 6 = .ok (.iconst 0, 1) := by decide +kernel
theorem std_M_resource_7 : decode stc_M_resource 7 = .ok (.iconst 1, 1) := by decide +kernel
theorem std_M_resource_8 : decode stc_M_resource 8 = .ok (.invokestatic 100, 3) := by decide +kernel
theorem std_M_resource_11 : decode stc_M_resource 11 = .ok (.ifCond .eq 22, 3) := by decide +kernel
theorem std_M_resource_33 : decode stc_M_resource 33 = .ok (.ldc 104, 2) := by decide +kernel
theorem std_M_resource_35 : decode stc_M_resource 35 = .ok (.ireturn, 1) := by decide +kernel
theorem std_M_resource_14 : decode stc_M_resource 14 = .ok (.iload_n 2, 1) := by decide +kernel
theorem std_M_resource_15 : decode stc_M_resource 15 = .ok (.iconst 0, 1) := by decide +kernel
theorem std_M_resource_16 : decode stc_M_resource 16 = .ok (.iload_n 3, 1) := by decide +kernel
theorem std_M_resource_17 : decode stc_M_resource 17 = .ok (.invokestatic 100, 3) := by decide +kernel
theorem std_M_resource_20 : decode stc_M_resource 20 = .ok (.ifCond .eq 13, 3) := by decide +kernel
theorem std_M_resource_23 : decode stc_M_resource 23 = .ok (.iload_n 3, 1) := by decide +kernel
theorem std_M_resource_24 : decode stc_M_resource 24 = .ok (.iconst 0, 1) := by decide +kernel
theorem std_M_resource_25 : decode stc_M_resource 25 = .ok (.bipush 40, 2) := by decide +kernel
theorem std_M_resource_27 : decode stc_M_resource 27 = .ok (.invokestatic 100, 3) := by decide +kernel
theorem std_M_resource_30 : decode stc_M_resource 30 = .ok (.ifCond .ne 6, 3) := by decide +kernel
theorem std_M_resource_36 : decode stc_M_resource 36 = .ok (.aload_n 0, 1) := by decide +kernel
theorem std_M_resource_37 : decode stc_M_resource 37 = .ok (.iconst 0, 1) := by decide +kernel
theorem std_M_resource_38 : decode stc_M_resource 38 = .ok (.putfield 96, 3) := by decide +kernel
theorem std_M_resource_41 : decode stc_M_resource 41 = .ok (.iload_n 1, 1) := by decide +kernel
theorem std_M_resource_42 : decode stc_M_resource 42 = .ok (.ifCond .ne 18, 3) := by decide +kernel
theorem std_M_resource_60 : decode stc_M_resource 60 = .ok (.bipush 100, 2) := by decide +kernel
theorem std_M_resource_62 : decode stc_M_resource 62 = .ok (.aload_n 0, 1) := by decide +kernel
theorem std_M_resource_63 : decode stc_M_resource 63 = .ok (.getfield 112, 3) := by decide +kernel
theorem kw_3_74 : Cond.fieldLink "StateTablesModel" 112 "StateTablesModel" "leastB" "I" ∈ stGW := st_t3 (List.mem_of_getElem? (i := 74) (by decide +kernel)) (by decide +kernel)
theorem std_M_resource_66 : decode stc_M_resource 66 = .ok (.imul, 1) := by decide +kernel
theorem std_M_resource_67 : decode stc_M_resource 67 = .ok (.aload_n 0, 1) := by decide +kernel
theorem std_M_resource_68 : decode stc_M_resource 68 = .ok (.getfield 33, 3) := by decide +kernel
theorem std_M_resource_71 : decode stc_M_resource 71 = .ok (.iadd, 1) := by decide +kernel
theorem std_M_resource_72 : decode stc_M_resource 72 = .ok (.istore 4, 2) := by decide +kernel
theorem std_M_resource_74 : decode stc_M_resource 74 = .ok (.iload_n 1, 1) := by decide +kernel
theorem std_M_resource_75 : decode stc_M_resource 75 = .ok (.ifCond .ne 16, 3) := by decide +kernel
theorem std_M_resource_91 : decode stc_M_resource 91 = .ok (.aload_n 0, 1) := by decide +kernel
theorem std_M_resource_92 : decode stc_M_resource 92 = .ok (.iload_n 2, 1) := by decide +kernel
theorem std_M_resource_93 : decode stc_M_resource 93 = .ok (.putfield 112, 3) := by decide +kernel
theorem std_M_resource_96 : decode stc_M_resource 96 = .ok (.aload_n 0, 1) := by decide +kernel
theorem std_M_resource_97 : decode stc_M_resource 97 = .ok (.iload_n 3, 1) := by decide +kernel
theorem std_M_resource_98 : decode stc_M_resource 98 = .ok (.putfield 33, 3) := by decide +kernel
theorem std_M_resource_101 : decode stc_M_resource 101 = .ok (.iload 4, 2) := by decide +kernel
theorem std_M_resource_103 : decode stc_M_resource 103 = .ok (.ireturn, 1) := by decide +kernel
theorem std_M_resource_78 : decode stc_M_resource 78 = .ok (.aload_n 0, 1) := by decide +kernel
theorem std_M_resource_79 : decode stc_M_resource 79 = .ok (.iload_n 2, 1) := by decide +kernel
theorem std_M_resource_80 : decode stc_M_resource 80 = .ok (.putfield 109, 3) := by decide +kernel
theorem kw_3_73 : Cond.fieldLink "StateTablesModel" 109 "StateTablesModel" "leastA" "I" ∈ stGW := st_t3 (List.mem_of_getElem? (i := 73) (by decide +kernel)) (by decide +kernel)
theorem std_M_resource_83 : decode stc_M_resource 83 = .ok (.aload_n 0, 1) := by decide +kernel
theorem std_M_resource_84 : decode stc_M_resource 84 = .ok (.iload_n 3, 1) := by decide +kernel
theorem std_M_resource_85 : decode stc_M_resource 85 = .ok (.putfield 30, 3) := by decide +kernel
theorem std_M_resource_88 : decode stc_M_resource 88 = .ok (.goto 13, 3) := by decide +kernel
theorem std_M_resource_45 : decode stc_M_resource 45 = .ok (.bipush 100, 2) := by decide +kernel
theorem std_M_resource_47 : decode stc_M_resource 47 = .ok (.aload_n 0, 1) := by decide +kernel
theorem std_M_resource_48 : decode stc_M_resource 48 = .ok (.getfield 109, 3) := by decide +kernel
theorem std_M_resource_51 : decode stc_M_resource 51 = .ok (.imul, 1) := by decide +kernel
theorem std_M_resource_52 : decode stc_M_resource 52 = .ok (.aload_n 0, 1) := by decide +kernel
theorem std_M_resource_53 : decode stc_M_resource 53 = .ok (.getfield 30, 3) := by decide +kernel
theorem std_M_resource_56 : decode stc_M_resource 56 = .ok (.iadd, 1) := by decide +kernel
theorem std_M_resource_57 : decode stc_M_resource 57 = .ok (.goto 15, 3) := by decide +kernel
set_option maxHeartbeats 4000000 in
set_option maxRecDepth 100000 in
theorem c_m_resource (l : Launch) (dC : Nat → ClassId) (dI : Nat → Nat → Nat) (cI cJ cZ : ClassId) (m0 : Nat) (k_ch : Nat) (k_co : Nat) (k_ua : Nat) (k_ub : Nat) (k_ba : Nat) (k_rt : Nat) (k_rf : Nat) (k_ct : Nat) (k_cf : Nat) (k_nd : Nat) (k_na : Nat) (k_no : Nat) (k_bt : Nat) (k_bc : Nat) (k_br : Nat) (k_pc : Nat) (k_pr : Nat) (k_la : Nat) (k_lb : Nat) (k_ha : Nat) (k_hb : Nat) (k_ls : Nat) (k_wc : Nat) (HM : Prop) (bg : Int) (pn : Int) (wd : Int) (mg : Int) (mw : Int) (mc : Int) (steps : Int) (fle : Int → Int) (fmo : Int → Int) (a : Int) (x : Int) (y : Int) (ka : rI a) (kx : rI x) (ky : rI y) : ∀ sz, Met l sty_M_resource (Cond.code sty_M_resource stc_M_resource 5 (some .int) :: stGW) ({ frames := 1, cells := 0, slots := 0, locals := 22 } : Room) (va_Pc [.ref m0, .int (iI a), .int (iI x), .int (iI y)] (zPre (dC, dI) stCl [(cI, .int), (cJ, .long), (cZ, .boolean)] st_nw [(m0, .inr (5, [.int (iI 0), .int (iI steps), .ref k_ch, .ref k_co, .ref k_ua, .ref k_ub, .ref k_ba, .int (iI (fle 0)), .int (iI (fle 1)), .int (iI (fmo 0)), .int (iI (fmo 1)), .int (iI (bI HM)), .ref k_rt, .ref k_rf, .ref k_ct, .ref k_cf, .ref k_nd, .ref k_na, .ref k_no, .ref k_bt, .ref k_bc, .ref k_br, .int (iI bg), .int (iI pn), .ref k_pc, .ref k_pr, .ref k_la, .ref k_lb, .ref k_ha, .ref k_hb, .ref k_ls, .ref k_wc, .int (iI wd), .int (iI mg), .int (iI mw), .int (iI mc)]))] sz)) (va_Qi (fun (r : Int32) (u : Prop × (Int → Int) × (Int → Int)) => (¬ ((0 ≤ a ∧ a ≤ 1) ∧ (0 ≤ x ∧ x ≤ y) ∧ y ≤ 40) ∧ r = iI (-2000000) ∧ u = (HM, fle, fmo)) ∨ (((0 ≤ a ∧ a ≤ 1) ∧ (0 ≤ x ∧ x ≤ y) ∧ y ≤ 40) ∧ r = iI ((100 * (fle a)) + (fmo a)) ∧ u = (False, (uZ fle a x), (uZ fmo a y)))) (zPost (dC, dI) stCl [(cI, .int), (cJ, .long), (cZ, .boolean)] [(m0, .inr (5, [.int (iI 0), .int (iI steps), .ref k_ch, .ref k_co, .ref k_ua, .ref k_ub, .ref k_ba, .int (iI (fle 0)), .int (iI (fle 1)), .int (iI (fmo 0)), .int (iI (fmo 1)), .int (iI (bI HM)), .ref k_rt, .ref k_rf, .ref k_ct, .ref k_cf, .ref k_nd, .ref k_na, .ref k_no, .ref k_bt, .ref k_bc, .ref k_br, .int (iI bg), .int (iI pn), .ref k_pc, .ref k_pr, .ref k_la, .ref k_lb, .ref k_ha, .ref k_hb, .ref k_ls, .ref k_wc, .int (iI wd), .int (iI mg), .int (iI mw), .int (iI mc)]))] sz (fun u : Prop × (Int → Int) × (Int → Int) => [(m0, .inr (5, [.int (iI 0), .int (iI steps), .ref k_ch, .ref k_co, .ref k_ua, .ref k_ub, .ref k_ba, .int (iI (u.2.1 0)), .int (iI (u.2.1 1)), .int (iI (u.2.2 0)), .int (iI (u.2.2 1)), .int (iI (bI u.1)), .ref k_rt, .ref k_rf, .ref k_ct, .ref k_cf, .ref k_nd, .ref k_na, .ref k_no, .ref k_bt, .ref k_bc, .ref k_br, .int (iI bg), .int (iI pn), .ref k_pc, .ref k_pr, .ref k_la, .ref k_lb, .ref k_ha, .ref k_hb, .ref k_ls, .ref k_wc, .int (iI wd), .int (iI mg), .int (iI mw), .int (iI mc)]))])) (va_A [(m0, .inr (5, [.int (iI 0), .int (iI steps), .ref k_ch, .ref k_co, .ref k_ua, .ref k_ub, .ref k_ba, .int (iI (fle 0)), .int (iI (fle 1)), .int (iI (fmo 0)), .int (iI (fmo 1)), .int (iI (bI HM)), .ref k_rt, .ref k_rf, .ref k_ct, .ref k_cf, .ref k_nd, .ref k_na, .ref k_no, .ref k_bt, .ref k_bc, .ref k_br, .int (iI bg), .int (iI pn), .ref k_pc, .ref k_pr, .ref k_la, .ref k_lb, .ref k_ha, .ref k_hb, .ref k_ls, .ref k_wc, .int (iI wd), .int (iI mg), .int (iI mw), .int (iI mc)]))] sz)) 0 0 (va_A [(m0, .inr (5, [.int (iI 0), .int (iI steps), .ref k_ch, .ref k_co, .ref k_ua, .ref k_ub, .ref k_ba, .int (iI (fle 0)), .int (iI (fle 1)), .int (iI (fmo 0)), .int (iI (fmo 1)), .int (iI (bI HM)), .ref k_rt, .ref k_rf, .ref k_ct, .ref k_cf, .ref k_nd, .ref k_na, .ref k_no, .ref k_bt, .ref k_bc, .ref k_br, .int (iI bg), .int (iI pn), .ref k_pc, .ref k_pr, .ref k_la, .ref k_lb, .ref k_ha, .ref k_hb, .ref k_ls, .ref k_wc, .int (iI wd), .int (iI mg), .int (iI mw), .int (iI mc)]))] sz) := by
  refine met_i (by decide) rfl (Nat.le_of_ble_eq_true rfl) ?_
  intro p e s m below meth c A Q C hmn hret
  refine g_aload_n C 0 std_M_resource_0 rfl ?_
  refine g_iconst C std_M_resource_1 ?_
  refine g_put C (ws' := [(m0, .inr (5, [.int (iI 0), .int (iI steps), .ref k_ch, .ref k_co, .ref k_ua, .ref k_ub, .ref k_ba, .int (iI (fle 0)), .int (iI (fle 1)), .int (iI (fmo 0)), .int (iI (fmo 1)), .int (iI (bI HM)), .ref k_rt, .ref k_rf, .ref k_ct, .ref k_cf, .ref k_nd, .ref k_na, .ref k_no, .ref k_bt, .ref k_bc, .ref k_br, .int (iI bg), .int (iI pn), .ref k_pc, .ref k_pr, .ref k_la, .ref k_lb, .ref k_ha, .ref k_hb, .ref k_ls, .ref k_wc, .int (iI wd), .int (iI mg), .int (iI mw), .int (iI mc)]))]) (st_sub sti_M) stt_M sto_M stn_M 0 rfl rfl 0 (by decide) (List.mem_cons_of_mem _ kw_3_66) rfl rfl rfl rfl (Nat.le_of_ble_eq_true rfl) std_M_resource_2 rfl ?_
  refine g_iload_n C 1 std_M_resource_5 rfl ?_
  refine g_iconst C std_M_resource_6 ?_
  refine g_iconst C std_M_resource_7 ?_
  refine g_S_i (wc := []) (wr := [(m0, .inr (5, [.int (iI 0), .int (iI steps), .ref k_ch, .ref k_co, .ref k_ua, .ref k_ub, .ref k_ba, .int (iI (fle 0)), .int (iI (fle 1)), .int (iI (fmo 0)), .int (iI (fmo 1)), .int (iI (bI HM)), .ref k_rt, .ref k_rf, .ref k_ct, .ref k_cf, .ref k_nd, .ref k_na, .ref k_no, .ref k_bt, .ref k_bc, .ref k_br, .int (iI bg), .int (iI pn), .ref k_pc, .ref k_pr, .ref k_la, .ref k_lb, .ref k_ha, .ref k_hb, .ref k_ls, .ref k_wc, .int (iI wd), .int (iI mg), .int (iI mw), .int (iI mc)]))]) (rest := []) C (c_m_in l dC dI cI cJ cZ a 0 1 (by unfold rI at *; omega) (by unfold rI at *; omega) (by unfold rI at *; omega)) (st_cS C kw_3_187 kw_3_185 kw_1_6 kw_3_186 sth_M_in ⟨Nat.le_of_ble_eq_true rfl, Nat.le_of_ble_eq_true rfl⟩) rfl rfl (Nat.le_of_ble_eq_true rfl) std_M_resource_8 ⟨Nat.le_of_ble_eq_true rfl, Nat.le_of_ble_eq_true rfl⟩ [] [0] rfl rfl rfl rfl (by decide) (fun r1 u2 h3 => ?_)
  subst h3
  refine g_ws (ws' := [(m0, .inr (5, [.int (iI 0), .int (iI steps), .ref k_ch, .ref k_co, .ref k_ua, .ref k_ub, .ref k_ba, .int (iI (fle 0)), .int (iI (fle 1)), .int (iI (fmo 0)), .int (iI (fmo 1)), .int (iI (bI HM)), .ref k_rt, .ref k_rf, .ref k_ct, .ref k_cf, .ref k_nd, .ref k_na, .ref k_no, .ref k_bt, .ref k_bc, .ref k_br, .int (iI bg), .int (iI pn), .ref k_pc, .ref k_pr, .ref k_la, .ref k_lb, .ref k_ha, .ref k_hb, .ref k_ls, .ref k_wc, .int (iI wd), .int (iI mg), .int (iI mw), .int (iI mc)]))]) rfl ?_
  refine g_ifeq_b (tgt := 33) C std_M_resource_11 (by decide) (fun c4 => ?_) (fun c4 => ?_)
  · refine g_ldc C (z := (-2000000)) (List.mem_cons_of_mem _ kw_3_188) (by decide) std_M_resource_33 ?_
    refine g_wide (k := 0) (n := 0) (Nat.le_of_ble_eq_true rfl) (Nat.le_of_ble_eq_true rfl) ?_
    exact hret _ _ _ (HM, fle, fmo) (Or.inl ⟨by omega, rfl, rfl⟩) std_M_resource_35
  · refine g_iload_n C 2 std_M_resource_14 rfl ?_
    refine g_iconst C std_M_resource_15 ?_
    refine g_iload_n C 3 std_M_resource_16 rfl ?_
    refine g_S_i (wc := []) (wr := [(m0, .inr (5, [.int (iI 0), .int (iI steps), .ref k_ch, .ref k_co, .ref k_ua, .ref k_ub, .ref k_ba, .int (iI (fle 0)), .int (iI (fle 1)), .int (iI (fmo 0)), .int (iI (fmo 1)), .int (iI (bI HM)), .ref k_rt, .ref k_rf, .ref k_ct, .ref k_cf, .ref k_nd, .ref k_na, .ref k_no, .ref k_bt, .ref k_bc, .ref k_br, .int (iI bg), .int (iI pn), .ref k_pc, .ref k_pr, .ref k_la, .ref k_lb, .ref k_ha, .ref k_hb, .ref k_ls, .ref k_wc, .int (iI wd), .int (iI mg), .int (iI mw), .int (iI mc)]))]) (rest := []) C (c_m_in l dC dI cI cJ cZ x 0 y (by unfold rI at *; omega) (by unfold rI at *; omega) (by unfold rI at *; omega)) (st_cS C kw_3_187 kw_3_185 kw_1_6 kw_3_186 sth_M_in ⟨Nat.le_of_ble_eq_true rfl, Nat.le_of_ble_eq_true rfl⟩) rfl rfl (Nat.le_of_ble_eq_true rfl) std_M_resource_17 ⟨Nat.le_of_ble_eq_true rfl, Nat.le_of_ble_eq_true rfl⟩ [] [0] rfl rfl rfl rfl (by decide) (fun r5 u6 h7 => ?_)
    subst h7
    refine g_ws (ws' := [(m0, .inr (5, [.int (iI 0), .int (iI steps), .ref k_ch, .ref k_co, .ref k_ua, .ref k_ub, .ref k_ba, .int (iI (fle 0)), .int (iI (fle 1)), .int (iI (fmo 0)), .int (iI (fmo 1)), .int (iI (bI HM)), .ref k_rt, .ref k_rf, .ref k_ct, .ref k_cf, .ref k_nd, .ref k_na, .ref k_no, .ref k_bt, .ref k_bc, .ref k_br, .int (iI bg), .int (iI pn), .ref k_pc, .ref k_pr, .ref k_la, .ref k_lb, .ref k_ha, .ref k_hb, .ref k_ls, .ref k_wc, .int (iI wd), .int (iI mg), .int (iI mw), .int (iI mc)]))]) rfl ?_
    refine g_ifeq_b (tgt := 33) C std_M_resource_20 (by decide) (fun c8 => ?_) (fun c8 => ?_)
    · refine g_ldc C (z := (-2000000)) (List.mem_cons_of_mem _ kw_3_188) (by decide) std_M_resource_33 ?_
      refine g_wide (k := 0) (n := 0) (Nat.le_of_ble_eq_true rfl) (Nat.le_of_ble_eq_true rfl) ?_
      exact hret _ _ _ (HM, fle, fmo) (Or.inl ⟨by omega, rfl, rfl⟩) std_M_resource_35
    · refine g_iload_n C 3 std_M_resource_23 rfl ?_
      refine g_iconst C std_M_resource_24 ?_
      refine g_bipush C std_M_resource_25 (by decide) ?_
      refine g_S_i (wc := []) (wr := [(m0, .inr (5, [.int (iI 0), .int (iI steps), .ref k_ch, .ref k_co, .ref k_ua, .ref k_ub, .ref k_ba, .int (iI (fle 0)), .int (iI (fle 1)), .int (iI (fmo 0)), .int (iI (fmo 1)), .int (iI (bI HM)), .ref k_rt, .ref k_rf, .ref k_ct, .ref k_cf, .ref k_nd, .ref k_na, .ref k_no, .ref k_bt, .ref k_bc, .ref k_br, .int (iI bg), .int (iI pn), .ref k_pc, .ref k_pr, .ref k_la, .ref k_lb, .ref k_ha, .ref k_hb, .ref k_ls, .ref k_wc, .int (iI wd), .int (iI mg), .int (iI mw), .int (iI mc)]))]) (rest := []) C (c_m_in l dC dI cI cJ cZ y 0 40 (by unfold rI at *; omega) (by unfold rI at *; omega) (by unfold rI at *; omega)) (st_cS C kw_3_187 kw_3_185 kw_1_6 kw_3_186 sth_M_in ⟨Nat.le_of_ble_eq_true rfl, Nat.le_of_ble_eq_true rfl⟩) rfl rfl (Nat.le_of_ble_eq_true rfl) std_M_resource_27 ⟨Nat.le_of_ble_eq_true rfl, Nat.le_of_ble_eq_true rfl⟩ [] [0] rfl rfl rfl rfl (by decide) (fun r9 u10 h11 => ?_)
      subst h11
      refine g_ws (ws' := [(m0, .inr (5, [.int (iI 0), .int (iI steps), .ref k_ch, .ref k_co, .ref k_ua, .ref k_ub, .ref k_ba, .int (iI (fle 0)), .int (iI (fle 1)), .int (iI (fmo 0)), .int (iI (fmo 1)), .int (iI (bI HM)), .ref k_rt, .ref k_rf, .ref k_ct, .ref k_cf, .ref k_nd, .ref k_na, .ref k_no, .ref k_bt, .ref k_bc, .ref k_br, .int (iI bg), .int (iI pn), .ref k_pc, .ref k_pr, .ref k_la, .ref k_lb, .ref k_ha, .ref k_hb, .ref k_ls, .ref k_wc, .int (iI wd), .int (iI mg), .int (iI mw), .int (iI mc)]))]) rfl ?_
      refine g_ifne_b (tgt := 36) C std_M_resource_30 (by decide) (fun c12 => ?_) (fun c12 => ?_)
      · refine g_aload_n C 0 std_M_resource_36 rfl ?_
        refine g_iconst C std_M_resource_37 ?_
        refine g_put C (ws' := [(m0, .inr (5, [.int (iI 0), .int (iI steps), .ref k_ch, .ref k_co, .ref k_ua, .ref k_ub, .ref k_ba, .int (iI (fle 0)), .int (iI (fle 1)), .int (iI (fmo 0)), .int (iI (fmo 1)), .int (iI 0), .ref k_rt, .ref k_rf, .ref k_ct, .ref k_cf, .ref k_nd, .ref k_na, .ref k_no, .ref k_bt, .ref k_bc, .ref k_br, .int (iI bg), .int (iI pn), .ref k_pc, .ref k_pr, .ref k_la, .ref k_lb, .ref k_ha, .ref k_hb, .ref k_ls, .ref k_wc, .int (iI wd), .int (iI mg), .int (iI mw), .int (iI mc)]))]) (st_sub sti_M) stt_M sto_M stn_M 0 rfl rfl 11 (by decide) (List.mem_cons_of_mem _ kw_3_77) rfl rfl (by decide) (by decide) (Nat.le_of_ble_eq_true rfl) std_M_resource_38 rfl ?_
        refine g_iload_n C 1 std_M_resource_41 rfl ?_
        refine g_if_ne (tgt := 60) C std_M_resource_42 (by decide) ⟨by omega, by omega⟩ (fun c13 => ?_) (fun c13 => ?_)
        · refine g_bipush C std_M_resource_60 (by decide) ?_
          refine g_aload_n C 0 std_M_resource_62 rfl ?_
          refine g_get C (st_sub sti_M) 0 rfl rfl 8 (by decide) (List.mem_cons_of_mem _ kw_3_74) rfl rfl std_M_resource_63 ?_
          refine g_imul C std_M_resource_66 ?_
          refine g_aload_n C 0 std_M_resource_67 rfl ?_
          refine g_get C (st_sub sti_M) 0 rfl rfl 10 (by decide) (List.mem_cons_of_mem _ kw_3_76) rfl rfl std_M_resource_68 ?_
          refine g_iadd C std_M_resource_71 ?_
          refine g_istore C (lv' := [(4, .int (iI ((100 * (fle 1)) + (fmo 1)))), (0, .ref m0), (1, .int (iI a)), (2, .int (iI x)), (3, .int (iI y))]) std_M_resource_72 (by decide) rfl ?_
          refine g_iload_n C 2 std_M_resource_74 rfl ?_
          refine g_if_ne (tgt := 91) C std_M_resource_75 (by decide) ⟨by omega, by omega⟩ (fun c14 => ?_) (fun c14 => ?_)
          · refine g_aload_n C 1 std_M_resource_91 rfl ?_
            refine g_iload_n C 3 std_M_resource_92 rfl ?_
            refine g_put C (ws' := [(m0, .inr (5, [.int (iI 0), .int (iI steps), .ref k_ch, .ref k_co, .ref k_ua, .ref k_ub, .ref k_ba, .int (iI (fle 0)), .int (iI x), .int (iI (fmo 0)), .int (iI (fmo 1)), .int (iI 0), .ref k_rt, .ref k_rf, .ref k_ct, .ref k_cf, .ref k_nd, .ref k_na, .ref k_no, .ref k_bt, .ref k_bc, .ref k_br, .int (iI bg), .int (iI pn), .ref k_pc, .ref k_pr, .ref k_la, .ref k_lb, .ref k_ha, .ref k_hb, .ref k_ls, .ref k_wc, .int (iI wd), .int (iI mg), .int (iI mw), .int (iI mc)]))]) (st_sub sti_M) stt_M sto_M stn_M 0 rfl rfl 8 (by decide) (List.mem_cons_of_mem _ kw_3_74) rfl rfl rfl rfl (Nat.le_of_ble_eq_true rfl) std_M_resource_93 rfl ?_
            refine g_aload_n C 1 std_M_resource_96 rfl ?_
            refine g_iload_n C 4 std_M_resource_97 rfl ?_
            refine g_put C (ws' := [(m0, .inr (5, [.int (iI 0), .int (iI steps), .ref k_ch, .ref k_co, .ref k_ua, .ref k_ub, .ref k_ba, .int (iI (fle 0)), .int (iI x), .int (iI (fmo 0)), .int (iI y), .int (iI 0), .ref k_rt, .ref k_rf, .ref k_ct, .ref k_cf, .ref k_nd, .ref k_na, .ref k_no, .ref k_bt, .ref k_bc, .ref k_br, .int (iI bg), .int (iI pn), .ref k_pc, .ref k_pr, .ref k_la, .ref k_lb, .ref k_ha, .ref k_hb, .ref k_ls, .ref k_wc, .int (iI wd), .int (iI mg), .int (iI mw), .int (iI mc)]))]) (st_sub sti_M) stt_M sto_M stn_M 0 rfl rfl 10 (by decide) (List.mem_cons_of_mem _ kw_3_76) rfl rfl rfl rfl (Nat.le_of_ble_eq_true rfl) std_M_resource_98 rfl ?_
            refine g_iload C 0 std_M_resource_101 rfl ?_
            refine g_wide (k := 0) (n := 0) (Nat.le_of_ble_eq_true rfl) (Nat.le_of_ble_eq_true rfl) ?_
            refine g_ws (ws' := [(m0, .inr (5, [.int (iI 0), .int (iI steps), .ref k_ch, .ref k_co, .ref k_ua, .ref k_ub, .ref k_ba, .int (iI (fle 0)), .int (iI x), .int (iI (fmo 0)), .int (iI y), .int (iI (bI False)), .ref k_rt, .ref k_rf, .ref k_ct, .ref k_cf, .ref k_nd, .ref k_na, .ref k_no, .ref k_bt, .ref k_bc, .ref k_br, .int (iI bg), .int (iI pn), .ref k_pc, .ref k_pr, .ref k_la, .ref k_lb, .ref k_ha, .ref k_hb, .ref k_ls, .ref k_wc, .int (iI wd), .int (iI mg), .int (iI mw), .int (iI mc)]))]) (by rw [show bI False = 0 from bI_f id]) ?_
            have hz : a = 1 := by omega
            refine g_ws (ws' := [(m0, .inr (5, [.int (iI 0), .int (iI steps), .ref k_ch, .ref k_co, .ref k_ua, .ref k_ub, .ref k_ba, .int (iI (uZ fle a x 0)), .int (iI (uZ fle a x 1)), .int (iI (uZ fmo a y 0)), .int (iI (uZ fmo a y 1)), .int (iI (bI False)), .ref k_rt, .ref k_rf, .ref k_ct, .ref k_cf, .ref k_nd, .ref k_na, .ref k_no, .ref k_bt, .ref k_bc, .ref k_br, .int (iI bg), .int (iI pn), .ref k_pc, .ref k_pr, .ref k_la, .ref k_lb, .ref k_ha, .ref k_hb, .ref k_ls, .ref k_wc, .int (iI wd), .int (iI mg), .int (iI mw), .int (iI mc)]))]) (by subst hz; rw [uZ_s, uZ_s, uZ_n (by decide), uZ_n (by decide)]) ?_
            exact hret _ _ _ (False, (uZ fle a x), (uZ fmo a y)) (Or.inr (⟨by omega, by rw [hz], rfl⟩)) std_M_resource_103
          · refine g_aload_n C 1 std_M_resource_78 rfl ?_
            refine g_iload_n C 3 std_M_resource_79 rfl ?_
            refine g_put C (ws' := [(m0, .inr (5, [.int (iI 0), .int (iI steps), .ref k_ch, .ref k_co, .ref k_ua, .ref k_ub, .ref k_ba, .int (iI x), .int (iI (fle 1)), .int (iI (fmo 0)), .int (iI (fmo 1)), .int (iI 0), .ref k_rt, .ref k_rf, .ref k_ct, .ref k_cf, .ref k_nd, .ref k_na, .ref k_no, .ref k_bt, .ref k_bc, .ref k_br, .int (iI bg), .int (iI pn), .ref k_pc, .ref k_pr, .ref k_la, .ref k_lb, .ref k_ha, .ref k_hb, .ref k_ls, .ref k_wc, .int (iI wd), .int (iI mg), .int (iI mw), .int (iI mc)]))]) (st_sub sti_M) stt_M sto_M stn_M 0 rfl rfl 7 (by decide) (List.mem_cons_of_mem _ kw_3_73) rfl rfl rfl rfl (Nat.le_of_ble_eq_true rfl) std_M_resource_80 rfl ?_
            refine g_aload_n C 1 std_M_resource_83 rfl ?_
            refine g_iload_n C 4 std_M_resource_84 rfl ?_
            refine g_put C (ws' := [(m0, .inr (5, [.int (iI 0), .int (iI steps), .ref k_ch, .ref k_co, .ref k_ua, .ref k_ub, .ref k_ba, .int (iI x), .int (iI (fle 1)), .int (iI y), .int (iI (fmo 1)), .int (iI 0), .ref k_rt, .ref k_rf, .ref k_ct, .ref k_cf, .ref k_nd, .ref k_na, .ref k_no, .ref k_bt, .ref k_bc, .ref k_br, .int (iI bg), .int (iI pn), .ref k_pc, .ref k_pr, .ref k_la, .ref k_lb, .ref k_ha, .ref k_hb, .ref k_ls, .ref k_wc, .int (iI wd), .int (iI mg), .int (iI mw), .int (iI mc)]))]) (st_sub sti_M) stt_M sto_M stn_M 0 rfl rfl 9 (by decide) (List.mem_cons_of_mem _ kw_3_75) rfl rfl rfl rfl (Nat.le_of_ble_eq_true rfl) std_M_resource_85 rfl ?_
            refine g_goto (tgt := 101) C std_M_resource_88 (by decide) ?_
            refine g_iload C 0 std_M_resource_101 rfl ?_
            refine g_wide (k := 0) (n := 0) (Nat.le_of_ble_eq_true rfl) (Nat.le_of_ble_eq_true rfl) ?_
            refine g_ws (ws' := [(m0, .inr (5, [.int (iI 0), .int (iI steps), .ref k_ch, .ref k_co, .ref k_ua, .ref k_ub, .ref k_ba, .int (iI x), .int (iI (fle 1)), .int (iI y), .int (iI (fmo 1)), .int (iI (bI False)), .ref k_rt, .ref k_rf, .ref k_ct, .ref k_cf, .ref k_nd, .ref k_na, .ref k_no, .ref k_bt, .ref k_bc, .ref k_br, .int (iI bg), .int (iI pn), .ref k_pc, .ref k_pr, .ref k_la, .ref k_lb, .ref k_ha, .ref k_hb, .ref k_ls, .ref k_wc, .int (iI wd), .int (iI mg), .int (iI mw), .int (iI mc)]))]) (by rw [show bI False = 0 from bI_f id]) ?_
            have hz : a = 0 := by omega
            refine g_ws (ws' := [(m0, .inr (5, [.int (iI 0), .int (iI steps), .ref k_ch, .ref k_co, .ref k_ua, .ref k_ub, .ref k_ba, .int (iI (uZ fle a x 0)), .int (iI (uZ fle a x 1)), .int (iI (uZ fmo a y 0)), .int (iI (uZ fmo a y 1)), .int (iI (bI False)), .ref k_rt, .ref k_rf, .ref k_ct, .ref k_cf, .ref k_nd, .ref k_na, .ref k_no, .ref k_bt, .ref k_bc, .ref k_br, .int (iI bg), .int (iI pn), .ref k_pc, .ref k_pr, .ref k_la, .ref k_lb, .ref k_ha, .ref k_hb, .ref k_ls, .ref k_wc, .int (iI wd), .int (iI mg), .int (iI mw), .int (iI mc)]))]) (by subst hz; rw [uZ_s, uZ_s, uZ_n (by decide), uZ_n (by decide)]) ?_
            exact hret _ _ _ (False, (uZ fle a x), (uZ fmo a y)) (Or.inr (⟨by omega, absurd hz (by omega), rfl⟩)) std_M_resource_103
        · refine g_bipush C std_M_resource_45 (by decide) ?_
          refine g_aload_n C 0 std_M_resource_47 rfl ?_
          refine g_get C (st_sub sti_M) 0 rfl rfl 7 (by decide) (List.mem_cons_of_mem _ kw_3_73) rfl rfl std_M_resource_48 ?_
          refine g_imul C std_M_resource_51 ?_
          refine g_aload_n C 0 std_M_resource_52 rfl ?_
          refine g_get C (st_sub sti_M) 0 rfl rfl 9 (by decide) (List.mem_cons_of_mem _ kw_3_75) rfl rfl std_M_resource_53 ?_
          refine g_iadd C std_M_resource_56 ?_
          refine g_goto (tgt := 72) C std_M_resource_57 (by decide) ?_
          refine g_istore C (lv' := [(4, .int (iI ((100 * (fle 0)) + (fmo 0)))), (0, .ref m0), (1, .int (iI a)), (2, .int (iI x)), (3, .int (iI y))]) std_M_resource_72 (by decide) rfl ?_
          refine g_iload_n C 2 std_M_resource_74 rfl ?_
          refine g_if_ne (tgt := 91) C std_M_resource_75 (by decide) ⟨by omega, by omega⟩ (fun c15 => ?_) (fun c15 => ?_)
          · refine g_aload_n C 1 std_M_resource_91 rfl ?_
            refine g_iload_n C 3 std_M_resource_92 rfl ?_
            refine g_put C (ws' := [(m0, .inr (5, [.int (iI 0), .int (iI steps), .ref k_ch, .ref k_co, .ref k_ua, .ref k_ub, .ref k_ba, .int (iI (fle 0)), .int (iI x), .int (iI (fmo 0)), .int (iI (fmo 1)), .int (iI 0), .ref k_rt, .ref k_rf, .ref k_ct, .ref k_cf, .ref k_nd, .ref k_na, .ref k_no, .ref k_bt, .ref k_bc, .ref k_br, .int (iI bg), .int (iI pn), .ref k_pc, .ref k_pr, .ref k_la, .ref k_lb, .ref k_ha, .ref k_hb, .ref k_ls, .ref k_wc, .int (iI wd), .int (iI mg), .int (iI mw), .int (iI mc)]))]) (st_sub sti_M) stt_M sto_M stn_M 0 rfl rfl 8 (by decide) (List.mem_cons_of_mem _ kw_3_74) rfl rfl rfl rfl (Nat.le_of_ble_eq_true rfl) std_M_resource_93 rfl ?_
            refine g_aload_n C 1 std_M_resource_96 rfl ?_
            refine g_iload_n C 4 std_M_resource_97 rfl ?_
            refine g_put C (ws' := [(m0, .inr (5, [.int (iI 0), .int (iI steps), .ref k_ch, .ref k_co, .ref k_ua, .ref k_ub, .ref k_ba, .int (iI (fle 0)), .int (iI x), .int (iI (fmo 0)), .int (iI y), .int (iI 0), .ref k_rt, .ref k_rf, .ref k_ct, .ref k_cf, .ref k_nd, .ref k_na, .ref k_no, .ref k_bt, .ref k_bc, .ref k_br, .int (iI bg), .int (iI pn), .ref k_pc, .ref k_pr, .ref k_la, .ref k_lb, .ref k_ha, .ref k_hb, .ref k_ls, .ref k_wc, .int (iI wd), .int (iI mg), .int (iI mw), .int (iI mc)]))]) (st_sub sti_M) stt_M sto_M stn_M 0 rfl rfl 10 (by decide) (List.mem_cons_of_mem _ kw_3_76) rfl rfl rfl rfl (Nat.le_of_ble_eq_true rfl) std_M_resource_98 rfl ?_
            refine g_iload C 0 std_M_resource_101 rfl ?_
            refine g_wide (k := 0) (n := 0) (Nat.le_of_ble_eq_true rfl) (Nat.le_of_ble_eq_true rfl) ?_
            refine g_ws (ws' := [(m0, .inr (5, [.int (iI 0), .int (iI steps), .ref k_ch, .ref k_co, .ref k_ua, .ref k_ub, .ref k_ba, .int (iI (fle 0)), .int (iI x), .int (iI (fmo 0)), .int (iI y), .int (iI (bI False)), .ref k_rt, .ref k_rf, .ref k_ct, .ref k_cf, .ref k_nd, .ref k_na, .ref k_no, .ref k_bt, .ref k_bc, .ref k_br, .int (iI bg), .int (iI pn), .ref k_pc, .ref k_pr, .ref k_la, .ref k_lb, .ref k_ha, .ref k_hb, .ref k_ls, .ref k_wc, .int (iI wd), .int (iI mg), .int (iI mw), .int (iI mc)]))]) (by rw [show bI False = 0 from bI_f id]) ?_
            have hz : a = 1 := by omega
            refine g_ws (ws' := [(m0, .inr (5, [.int (iI 0), .int (iI steps), .ref k_ch, .ref k_co, .ref k_ua, .ref k_ub, .ref k_ba, .int (iI (uZ fle a x 0)), .int (iI (uZ fle a x 1)), .int (iI (uZ fmo a y 0)), .int (iI (uZ fmo a y 1)), .int (iI (bI False)), .ref k_rt, .ref k_rf, .ref k_ct, .ref k_cf, .ref k_nd, .ref k_na, .ref k_no, .ref k_bt, .ref k_bc, .ref k_br, .int (iI bg), .int (iI pn), .ref k_pc, .ref k_pr, .ref k_la, .ref k_lb, .ref k_ha, .ref k_hb, .ref k_ls, .ref k_wc, .int (iI wd), .int (iI mg), .int (iI mw), .int (iI mc)]))]) (by subst hz; rw [uZ_s, uZ_s, uZ_n (by decide), uZ_n (by decide)]) ?_
            exact hret _ _ _ (False, (uZ fle a x), (uZ fmo a y)) (Or.inr (⟨by omega, absurd hz (by omega), rfl⟩)) std_M_resource_103
          · refine g_aload_n C 1 std_M_resource_78 rfl ?_
            refine g_iload_n C 3 std_M_resource_79 rfl ?_
            refine g_put C (ws' := [(m0, .inr (5, [.int (iI 0), .int (iI steps), .ref k_ch, .ref k_co, .ref k_ua, .ref k_ub, .ref k_ba, .int (iI x), .int (iI (fle 1)), .int (iI (fmo 0)), .int (iI (fmo 1)), .int (iI 0), .ref k_rt, .ref k_rf, .ref k_ct, .ref k_cf, .ref k_nd, .ref k_na, .ref k_no, .ref k_bt, .ref k_bc, .ref k_br, .int (iI bg), .int (iI pn), .ref k_pc, .ref k_pr, .ref k_la, .ref k_lb, .ref k_ha, .ref k_hb, .ref k_ls, .ref k_wc, .int (iI wd), .int (iI mg), .int (iI mw), .int (iI mc)]))]) (st_sub sti_M) stt_M sto_M stn_M 0 rfl rfl 7 (by decide) (List.mem_cons_of_mem _ kw_3_73) rfl rfl rfl rfl (Nat.le_of_ble_eq_true rfl) std_M_resource_80 rfl ?_
            refine g_aload_n C 1 std_M_resource_83 rfl ?_
            refine g_iload_n C 4 std_M_resource_84 rfl ?_
            refine g_put C (ws' := [(m0, .inr (5, [.int (iI 0), .int (iI steps), .ref k_ch, .ref k_co, .ref k_ua, .ref k_ub, .ref k_ba, .int (iI x), .int (iI (fle 1)), .int (iI y), .int (iI (fmo 1)), .int (iI 0), .ref k_rt, .ref k_rf, .ref k_ct, .ref k_cf, .ref k_nd, .ref k_na, .ref k_no, .ref k_bt, .ref k_bc, .ref k_br, .int (iI bg), .int (iI pn), .ref k_pc, .ref k_pr, .ref k_la, .ref k_lb, .ref k_ha, .ref k_hb, .ref k_ls, .ref k_wc, .int (iI wd), .int (iI mg), .int (iI mw), .int (iI mc)]))]) (st_sub sti_M) stt_M sto_M stn_M 0 rfl rfl 9 (by decide) (List.mem_cons_of_mem _ kw_3_75) rfl rfl rfl rfl (Nat.le_of_ble_eq_true rfl) std_M_resource_85 rfl ?_
            refine g_goto (tgt := 101) C std_M_resource_88 (by decide) ?_
            refine g_iload C 0 std_M_resource_101 rfl ?_
            refine g_wide (k := 0) (n := 0) (Nat.le_of_ble_eq_true rfl) (Nat.le_of_ble_eq_true rfl) ?_
            refine g_ws (ws' := [(m0, .inr (5, [.int (iI 0), .int (iI steps), .ref k_ch, .ref k_co, .ref k_ua, .ref k_ub, .ref k_ba, .int (iI x), .int (iI (fle 1)), .int (iI y), .int (iI (fmo 1)), .int (iI (bI False)), .ref k_rt, .ref k_rf, .ref k_ct, .ref k_cf, .ref k_nd, .ref k_na, .ref k_no, .ref k_bt, .ref k_bc, .ref k_br, .int (iI bg), .int (iI pn), .ref k_pc, .ref k_pr, .ref k_la, .ref k_lb, .ref k_ha, .ref k_hb, .ref k_ls, .ref k_wc, .int (iI wd), .int (iI mg), .int (iI mw), .int (iI mc)]))]) (by rw [show bI False = 0 from bI_f id]) ?_
            have hz : a = 0 := by omega
            refine g_ws (ws' := [(m0, .inr (5, [.int (iI 0), .int (iI steps), .ref k_ch, .ref k_co, .ref k_ua, .ref k_ub, .ref k_ba, .int (iI (uZ fle a x 0)), .int (iI (uZ fle a x 1)), .int (iI (uZ fmo a y 0)), .int (iI (uZ fmo a y 1)), .int (iI (bI False)), .ref k_rt, .ref k_rf, .ref k_ct, .ref k_cf, .ref k_nd, .ref k_na, .ref k_no, .ref k_bt, .ref k_bc, .ref k_br, .int (iI bg), .int (iI pn), .ref k_pc, .ref k_pr, .ref k_la, .ref k_lb, .ref k_ha, .ref k_hb, .ref k_ls, .ref k_wc, .int (iI wd), .int (iI mg), .int (iI mw), .int (iI mc)]))]) (by subst hz; rw [uZ_s, uZ_s, uZ_n (by decide), uZ_n (by decide)]) ?_
            exact hret _ _ _ (False, (uZ fle a x), (uZ fmo a y)) (Or.inr (⟨by omega, by rw [hz], rfl⟩)) std_M_resource_103
      · refine g_ldc C (z := (-2000000)) (List.mem_cons_of_mem _ kw_3_188) (by decide) std_M_resource_33 ?_
        refine g_wide (k := 0) (n := 0) (Nat.le_of_ble_eq_true rfl) (Nat.le_of_ble_eq_true rfl) ?_
        exact hret _ _ _ (HM, fle, fmo) (Or.inl ⟨by omega, rfl, rfl⟩) std_M_resource_35

abbrev sty_M_bar : MethodName := ⟨"StateTablesModel", "bar", "(IIIZ)I"⟩
abbrev stc_M_bar : ByteArray := prog_7_method_10_code
theorem sth_M_bar : (sty_M_bar).cls ≠ "java/lang/invoke/MethodHandle" ∧ (sty_M_bar).cls ≠ "java/lang/invoke/VarHandle" ∧ (parseMethodDescriptor (sty_M_bar).desc).map (fun d => d.parameters.length) = some 4 := by decide +kernel
theorem std_M_bar_0 : decode stc_M_bar 0 = .ok (.aload_n 0, 1) := by decide +kernel
theorem std_M_bar_1 : decode stc_M_bar 1 = .ok (.iconst 0, 1) := by decide +kernel
theorem std_M_bar_2 : decode stc_M_bar 2 = .ok (.putfield 1, 3) := by decide +kernel
theorem std_M_bar_5 : decode stc_M_bar 5 = .ok (.aload_n 0, 1) := by decide +kernel
theorem std_M_bar_6 : decode stc_M_bar 6 = .ok (.iload_n 1, 1) := by decide +kernel
theorem std_M_bar_7 : decode stc_M_bar 7 = .ok (.iload_n 2, 1) := by decide +kernel
theorem std_M_bar_8 : decode stc_M_bar 8 = .ok (.invokevirtual 105, 3) := by decide +kernel
theorem std_M_bar_11 : decode stc_M_bar 11 = .ok (.ifCond .ne 14, 3) := by decide +kernel
theorem std_M_bar_25 : decode stc_M_bar 25 = .ok (.ldc 104, 2) := by decide +kernel
theorem std_M_bar_27 : decode stc_M_bar 27 = .ok (.ireturn, 1) := by decide +kernel
theorem std_M_bar_14 : decode stc_M_bar 14 = .ok (.aload_n 0, 1) := by decide +kernel
theorem std_M_bar_15 : decode stc_M_bar 15 = .ok (.iload_n 1, 1) := by decide +kernel
theorem std_M_bar_16 : decode stc_M_bar 16 = .ok (.iconst 1, 1) := by decide +kernel
theorem std_M_bar_17 : decode stc_M_bar 17 = .ok (.iadd, 1) := by decide +kernel
theorem std_M_bar_18 : decode stc_M_bar 18 = .ok (.iload_n 3, 1) := by decide +kernel
theorem std_M_bar_19 : decode stc_M_bar 19 = .ok (.invokevirtual 105, 3) := by decide +kernel
theorem std_M_bar_22 : decode stc_M_bar 22 = .ok (.ifCond .eq 6, 3) := by decide +kernel
theorem std_M_bar_28 : decode stc_M_bar 28 = .ok (.aload_n 0, 1) := by decide +kernel
theorem std_M_bar_29 : decode stc_M_bar 29 = .ok (.iconst 0, 1) := by decide +kernel
theorem std_M_bar_30 : decode stc_M_bar 30 = .ok (.putfield 96, 3) := by decide +kernel
theorem std_M_bar_33 : decode stc_M_bar 33 = .ok (.aload_n 0, 1) := by decide +kernel
theorem std_M_bar_34 : decode stc_M_bar 34 = .ok (.getfield 26, 3) := by decide +kernel
theorem std_M_bar_37 : decode stc_M_bar 37 = .ok (.aload_n 0, 1) := by decide +kernel
theorem std_M_bar_38 : decode stc_M_bar 38 = .ok (.iload_n 1, 1) := by decide +kernel
theorem std_M_bar_39 : decode stc_M_bar 39 = .ok (.iload_n 2, 1) := by decide +kernel
theorem std_M_bar_40 : decode stc_M_bar 40 = .ok (.iload_n 3, 1) := by decide +kernel
theorem std_M_bar_41 : decode stc_M_bar 41 = .ok (.invokevirtual 115, 3) := by decide +kernel
theorem std_M_bar_44 : decode stc_M_bar 44 = .ok (.baload, 1) := by decide +kernel
theorem std_M_bar_45 : decode stc_M_bar 45 = .ok (.istore 5, 2) := by decide +kernel
theorem std_M_bar_47 : decode stc_M_bar 47 = .ok (.aload_n 0, 1) := by decide +kernel
theorem std_M_bar_48 : decode stc_M_bar 48 = .ok (.getfield 26, 3) := by decide +kernel
theorem std_M_bar_51 : decode stc_M_bar 51 = .ok (.aload_n 0, 1) := by decide +kernel
theorem std_M_bar_52 : decode stc_M_bar 52 = .ok (.iload_n 1, 1) := by decide +kernel
theorem std_M_bar_53 : decode stc_M_bar 53 = .ok (.iload_n 2, 1) := by decide +kernel
theorem std_M_bar_54 : decode stc_M_bar 54 = .ok (.iload_n 3, 1) := by decide +kernel
theorem std_M_bar_55 : decode stc_M_bar 55 = .ok (.invokevirtual 115, 3) := by decide +kernel
theorem std_M_bar_58 : decode stc_M_bar 58 = .ok (.iload 4, 2) := by decide +kernel
theorem std_M_bar_60 : decode stc_M_bar 60 = .ok (.bastore, 1) := by decide +kernel
theorem std_M_bar_61 : decode stc_M_bar 61 = .ok (.iload 5, 2) := by decide +kernel
theorem std_M_bar_63 : decode stc_M_bar 63 = .ok (.ifCond .eq 7, 3) := by decide +kernel
theorem std_M_bar_70 : decode stc_M_bar 70 = .ok (.iconst 0, 1) := by decide +kernel
theorem std_M_bar_71 : decode stc_M_bar 71 = .ok (.ireturn, 1) := by decide +kernel
theorem std_M_bar_66 : decode stc_M_bar 66 = .ok (.iconst 1, 1) := by decide +kernel
theorem std_M_bar_67 : decode stc_M_bar 67 = .ok (.goto 4, 3) := by decide +kernel
set_option maxHeartbeats 4000000 in
set_option maxRecDepth 100000 in
theorem c_m_bar (l : Launch) (dC : Nat → ClassId) (dI : Nat → Nat → Nat) (cI cJ cZ : ClassId) (m0 : Nat) (k_ch : Nat) (k_co : Nat) (k_ua : Nat) (k_ub : Nat) (k_ba : Nat) (k_rt : Nat) (k_rf : Nat) (k_ct : Nat) (k_cf : Nat) (k_nd : Nat) (k_na : Nat) (k_no : Nat) (k_bt : Nat) (k_bc : Nat) (k_br : Nat) (k_pc : Nat) (k_pr : Nat) (k_la : Nat) (k_lb : Nat) (k_ha : Nat) (k_hb : Nat) (k_ls : Nat) (k_wc : Nat) (HM : Prop) (bg : Int) (pn : Int) (wd : Int) (mg : Int) (mw : Int) (mc : Int) (steps : Int) (fle : Int → Int) (fmo : Int → Int) (fsz : Int → Int) (fba : Int → Int) (a : Int) (x : Int) (b : Int) (v : Prop) (kst : 0 ≤ steps ∧ steps ≤ 12) (ksz : ∀ j, 0 ≤ j → j < 12 → 0 ≤ fsz j ∧ fsz j ≤ 6) (ka : rI a) (kx : rI x) (kb : rI b) (kba : ∀ j, fba j = 0 ∨ fba j = 1) : ∀ sz, Met l sty_M_bar (Cond.code sty_M_bar stc_M_bar 6 (some .int) :: stGW) ({ frames := 2, cells := 0, slots := 0, locals := 44 } : Room) (va_Pc [.ref m0, .int (iI a), .int (iI x), .int (iI b), .int (iI (bI v))] (zPre (dC, dI) stCl [(cI, .int), (cJ, .long), (cZ, .boolean)] st_nw [(m0, .inr (5, [.int (iI 0), .int (iI steps), .ref k_ch, .ref k_co, .ref k_ua, .ref k_ub, .ref k_ba, .int (iI (fle 0)), .int (iI (fle 1)), .int (iI (fmo 0)), .int (iI (fmo 1)), .int (iI (bI HM)), .ref k_rt, .ref k_rf, .ref k_ct, .ref k_cf, .ref k_nd, .ref k_na, .ref k_no, .ref k_bt, .ref k_bc, .ref k_br, .int (iI bg), .int (iI pn), .ref k_pc, .ref k_pr, .ref k_la, .ref k_lb, .ref k_ha, .ref k_hb, .ref k_ls, .ref k_wc, .int (iI wd), .int (iI mg), .int (iI mw), .int (iI mc)])), (k_ch, .inl (cI, aI 13 fsz)), (k_ba, .inl (cZ, aI 468 fba))] sz)) (va_Qi (fun (r : Int32) (u : Prop × (Int → Int)) => (¬ (((0 ≤ a ∧ a < steps) ∧ 0 ≤ x ∧ x < fsz a) ∧ ((0 ≤ a + 1 ∧ a + 1 < steps) ∧ 0 ≤ b ∧ b < fsz (a + 1))) ∧ r = iI (-2000000) ∧ u = (HM, fba)) ∨ ((((0 ≤ a ∧ a < steps) ∧ 0 ≤ x ∧ x < fsz a) ∧ ((0 ≤ a + 1 ∧ a + 1 < steps) ∧ 0 ≤ b ∧ b < fsz (a + 1))) ∧ r = iI (fba (((36 * a) + (6 * x)) + b)) ∧ u = (False, (uZ fba (((36 * a) + (6 * x)) + b) (bI v))))) (zPost (dC, dI) stCl [(cI, .int), (cJ, .long), (cZ, .boolean)] [(m0, .inr (5, [.int (iI 0), .int (iI steps), .ref k_ch, .ref k_co, .ref k_ua, .ref k_ub, .ref k_ba, .int (iI (fle 0)), .int (iI (fle 1)), .int (iI (fmo 0)), .int (iI (fmo 1)), .int (iI (bI HM)), .ref k_rt, .ref k_rf, .ref k_ct, .ref k_cf, .ref k_nd, .ref k_na, .ref k_no, .ref k_bt, .ref k_bc, .ref k_br, .int (iI bg), .int (iI pn), .ref k_pc, .ref k_pr, .ref k_la, .ref k_lb, .ref k_ha, .ref k_hb, .ref k_ls, .ref k_wc, .int (iI wd), .int (iI mg), .int (iI mw), .int (iI mc)])), (k_ch, .inl (cI, aI 13 fsz)), (k_ba, .inl (cZ, aI 468 fba))] sz (fun u : Prop × (Int → Int) => [(m0, .inr (5, [.int (iI 0), .int (iI steps), .ref k_ch, .ref k_co, .ref k_ua, .ref k_ub, .ref k_ba, .int (iI (fle 0)), .int (iI (fle 1)), .int (iI (fmo 0)), .int (iI (fmo 1)), .int (iI (bI u.1)), .ref k_rt, .ref k_rf, .ref k_ct, .ref k_cf, .ref k_nd, .ref k_na, .ref k_no, .ref k_bt, .ref k_bc, .ref k_br, .int (iI bg), .int (iI pn), .ref k_pc, .ref k_pr, .ref k_la, .ref k_lb, .ref k_ha, .ref k_hb, .ref k_ls, .ref k_wc, .int (iI wd), .int (iI mg), .int (iI mw), .int (iI mc)])), (k_ch, .inl (cI, aI 13 fsz)), (k_ba, .inl (cZ, aI 468 (u.2)))])) (va_A [(m0, .inr (5, [.int (iI 0), .int (iI steps), .ref k_ch, .ref k_co, .ref k_ua, .ref k_ub, .ref k_ba, .int (iI (fle 0)), .int (iI (fle 1)), .int (iI (fmo 0)), .int (iI (fmo 1)), .int (iI (bI HM)), .ref k_rt, .ref k_rf, .ref k_ct, .ref k_cf, .ref k_nd, .ref k_na, .ref k_no, .ref k_bt, .ref k_bc, .ref k_br, .int (iI bg), .int (iI pn), .ref k_pc, .ref k_pr, .ref k_la, .ref k_lb, .ref k_ha, .ref k_hb, .ref k_ls, .ref k_wc, .int (iI wd), .int (iI mg), .int (iI mw), .int (iI mc)])), (k_ch, .inl (cI, aI 13 fsz)), (k_ba, .inl (cZ, aI 468 fba))] sz)) 0 0 (va_A [(m0, .inr (5, [.int (iI 0), .int (iI steps), .ref k_ch, .ref k_co, .ref k_ua, .ref k_ub, .ref k_ba, .int (iI (fle 0)), .int (iI (fle 1)), .int (iI (fmo 0)), .int (iI (fmo 1)), .int (iI (bI HM)), .ref k_rt, .ref k_rf, .ref k_ct, .ref k_cf, .ref k_nd, .ref k_na, .ref k_no, .ref k_bt, .ref k_bc, .ref k_br, .int (iI bg), .int (iI pn), .ref k_pc, .ref k_pr, .ref k_la, .ref k_lb, .ref k_ha, .ref k_hb, .ref k_ls, .ref k_wc, .int (iI wd), .int (iI mg), .int (iI mw), .int (iI mc)])), (k_ch, .inl (cI, aI 13 fsz)), (k_ba, .inl (cZ, aI 468 fba))] sz) := by
  refine met_i (by decide) rfl (Nat.le_of_ble_eq_true rfl) ?_
  intro p e s m below meth c A Q C hmn hret
  refine g_aload_n C 0 std_M_bar_0 rfl ?_
  refine g_iconst C std_M_bar_1 ?_
  refine g_put C (ws' := [(m0, .inr (5, [.int (iI 0), .int (iI steps), .ref k_ch, .ref k_co, .ref k_ua, .ref k_ub, .ref k_ba, .int (iI (fle 0)), .int (iI (fle 1)), .int (iI (fmo 0)), .int (iI (fmo 1)), .int (iI (bI HM)), .ref k_rt, .ref k_rf, .ref k_ct, .ref k_cf, .ref k_nd, .ref k_na, .ref k_no, .ref k_bt, .ref k_bc, .ref k_br, .int (iI bg), .int (iI pn), .ref k_pc, .ref k_pr, .ref k_la, .ref k_lb, .ref k_ha, .ref k_hb, .ref k_ls, .ref k_wc, .int (iI wd), .int (iI mg), .int (iI mw), .int (iI mc)])), (k_ch, .inl (cI, aI 13 fsz)), (k_ba, .inl (cZ, aI 468 fba))]) (st_sub sti_M) stt_M sto_M stn_M 0 rfl rfl 0 (by decide) (List.mem_cons_of_mem _ kw_3_66) rfl rfl rfl rfl (Nat.le_of_ble_eq_true rfl) std_M_bar_2 rfl ?_
  refine g_aload_n C 0 std_M_bar_5 rfl ?_
  refine g_iload_n C 1 std_M_bar_6 rfl ?_
  refine g_iload_n C 2 std_M_bar_7 rfl ?_
  refine g_V_i (wc := [(m0, .inr (5, [.int (iI 0), .int (iI steps), .ref k_ch, .ref k_co, .ref k_ua, .ref k_ub, .ref k_ba, .int (iI (fle 0)), .int (iI (fle 1)), .int (iI (fmo 0)), .int (iI (fmo 1)), .int (iI (bI HM)), .ref k_rt, .ref k_rf, .ref k_ct, .ref k_cf, .ref k_nd, .ref k_na, .ref k_no, .ref k_bt, .ref k_bc, .ref k_br, .int (iI bg), .int (iI pn), .ref k_pc, .ref k_pr, .ref k_la, .ref k_lb, .ref k_ha, .ref k_hb, .ref k_ls, .ref k_wc, .int (iI wd), .int (iI mg), .int (iI mw), .int (iI mc)])), (k_ch, .inl (cI, aI 13 fsz))]) (wr := [(k_ba, .inl (cZ, aI 468 fba))]) (rest := []) C (c_m_noChoice l dC dI cI cJ cZ m0 k_ch k_co k_ua k_ub k_ba k_rt k_rf k_ct k_cf k_nd k_na k_no k_bt k_bc k_br k_pc k_pr k_la k_lb k_ha k_hb k_ls k_wc HM bg pn wd mg mw mc steps fsz fle fmo a x (kst) (ksz) (by unfold rI at *; omega) (by unfold rI at *; omega)) (st_cV C kw_3_196 kw_3_193 kw_1_6 kw_3_195 kw_0_18 sth_M_noChoice ⟨Nat.le_of_ble_eq_true rfl, Nat.le_of_ble_eq_true rfl⟩) 0 rfl rfl rfl rfl (Nat.le_of_ble_eq_true rfl) std_M_bar_8 ⟨Nat.le_of_ble_eq_true rfl, Nat.le_of_ble_eq_true rfl⟩ [0, 1] [2] rfl rfl rfl rfl (by decide) (fun r1 u2 h3 => ?_)
  subst h3
  refine g_ws (ws' := [(k_ba, .inl (cZ, aI 468 fba)), (m0, .inr (5, [.int (iI 0), .int (iI steps), .ref k_ch, .ref k_co, .ref k_ua, .ref k_ub, .ref k_ba, .int (iI (fle 0)), .int (iI (fle 1)), .int (iI (fmo 0)), .int (iI (fmo 1)), .int (iI (bI HM)), .ref k_rt, .ref k_rf, .ref k_ct, .ref k_cf, .ref k_nd, .ref k_na, .ref k_no, .ref k_bt, .ref k_bc, .ref k_br, .int (iI bg), .int (iI pn), .ref k_pc, .ref k_pr, .ref k_la, .ref k_lb, .ref k_ha, .ref k_hb, .ref k_ls, .ref k_wc, .int (iI wd), .int (iI mg), .int (iI mw), .int (iI mc)])), (k_ch, .inl (cI, aI 13 fsz))]) rfl ?_
  refine g_ifne_b (tgt := 25) C std_M_bar_11 (by decide) (fun c4 => ?_) (fun c4 => ?_)
  · refine g_ldc C (z := (-2000000)) (List.mem_cons_of_mem _ kw_3_188) (by decide) std_M_bar_25 ?_
    refine g_sub (ws' := [(m0, .inr (5, [.int (iI 0), .int (iI steps), .ref k_ch, .ref k_co, .ref k_ua, .ref k_ub, .ref k_ba, .int (iI (fle 0)), .int (iI (fle 1)), .int (iI (fmo 0)), .int (iI (fmo 1)), .int (iI (bI HM)), .ref k_rt, .ref k_rf, .ref k_ct, .ref k_cf, .ref k_nd, .ref k_na, .ref k_no, .ref k_bt, .ref k_bc, .ref k_br, .int (iI bg), .int (iI pn), .ref k_pc, .ref k_pr, .ref k_la, .ref k_lb, .ref k_ha, .ref k_hb, .ref k_ls, .ref k_wc, .int (iI wd), .int (iI mg), .int (iI mw), .int (iI mc)])), (k_ch, .inl (cI, aI 13 fsz)), (k_ba, .inl (cZ, aI 468 fba))]) [1, 2, 0] rfl rfl ?_
    refine g_wide (k := 0) (n := 0) (Nat.le_of_ble_eq_true rfl) (Nat.le_of_ble_eq_true rfl) ?_
    exact hret _ _ _ (HM, fba) (Or.inl ⟨by omega, rfl, rfl⟩) std_M_bar_27
  · have hc0 : (0 ≤ a ∧ a ≤ steps - 1) ∧ 0 ≤ x ∧ x ≤ fsz a - 1 := Classical.byContradiction c4
    refine g_aload_n C 0 std_M_bar_14 rfl ?_
    refine g_iload_n C 1 std_M_bar_15 rfl ?_
    refine g_iconst C std_M_bar_16 ?_
    refine g_iadd C std_M_bar_17 ?_
    refine g_iload_n C 3 std_M_bar_18 rfl ?_
    refine g_V_i (wc := [(m0, .inr (5, [.int (iI 0), .int (iI steps), .ref k_ch, .ref k_co, .ref k_ua, .ref k_ub, .ref k_ba, .int (iI (fle 0)), .int (iI (fle 1)), .int (iI (fmo 0)), .int (iI (fmo 1)), .int (iI (bI HM)), .ref k_rt, .ref k_rf, .ref k_ct, .ref k_cf, .ref k_nd, .ref k_na, .ref k_no, .ref k_bt, .ref k_bc, .ref k_br, .int (iI bg), .int (iI pn), .ref k_pc, .ref k_pr, .ref k_la, .ref k_lb, .ref k_ha, .ref k_hb, .ref k_ls, .ref k_wc, .int (iI wd), .int (iI mg), .int (iI mw), .int (iI mc)])), (k_ch, .inl (cI, aI 13 fsz))]) (wr := [(k_ba, .inl (cZ, aI 468 fba))]) (rest := []) C (c_m_noChoice l dC dI cI cJ cZ m0 k_ch k_co k_ua k_ub k_ba k_rt k_rf k_ct k_cf k_nd k_na k_no k_bt k_bc k_br k_pc k_pr k_la k_lb k_ha k_hb k_ls k_wc HM bg pn wd mg mw mc steps fsz fle fmo (a + 1) b (kst) (ksz) (by unfold rI at *; omega) (by unfold rI at *; omega)) (st_cV C kw_3_196 kw_3_193 kw_1_6 kw_3_195 kw_0_18 sth_M_noChoice ⟨Nat.le_of_ble_eq_true rfl, Nat.le_of_ble_eq_true rfl⟩) 0 rfl rfl rfl rfl (Nat.le_of_ble_eq_true rfl) std_M_bar_19 ⟨Nat.le_of_ble_eq_true rfl, Nat.le_of_ble_eq_true rfl⟩ [1, 2] [0] rfl rfl rfl rfl (by decide) (fun r5 u6 h7 => ?_)
    subst h7
    refine g_ws (ws' := [(k_ba, .inl (cZ, aI 468 fba)), (m0, .inr (5, [.int (iI 0), .int (iI steps), .ref k_ch, .ref k_co, .ref k_ua, .ref k_ub, .ref k_ba, .int (iI (fle 0)), .int (iI (fle 1)), .int (iI (fmo 0)), .int (iI (fmo 1)), .int (iI (bI HM)), .ref k_rt, .ref k_rf, .ref k_ct, .ref k_cf, .ref k_nd, .ref k_na, .ref k_no, .ref k_bt, .ref k_bc, .ref k_br, .int (iI bg), .int (iI pn), .ref k_pc, .ref k_pr, .ref k_la, .ref k_lb, .ref k_ha, .ref k_hb, .ref k_ls, .ref k_wc, .int (iI wd), .int (iI mg), .int (iI mw), .int (iI mc)])), (k_ch, .inl (cI, aI 13 fsz))]) rfl ?_
    refine g_ifeq_b (tgt := 28) C std_M_bar_22 (by decide) (fun c8 => ?_) (fun c8 => ?_)
    · have hc1 : (0 ≤ a + 1 ∧ a + 1 ≤ steps - 1) ∧ 0 ≤ b ∧ b ≤ fsz (a + 1) - 1 := Classical.byContradiction c8
      have hqa := ksz a (by omega) (by omega)
      have hqb := ksz (a + 1) (by omega) (by omega)
      have hb01 := kba (((36 * a) + (6 * x)) + b)
      refine g_aload_n C 0 std_M_bar_28 rfl ?_
      refine g_iconst C std_M_bar_29 ?_
      refine g_put C (ws' := [(k_ba, .inl (cZ, aI 468 fba)), (m0, .inr (5, [.int (iI 0), .int (iI steps), .ref k_ch, .ref k_co, .ref k_ua, .ref k_ub, .ref k_ba, .int (iI (fle 0)), .int (iI (fle 1)), .int (iI (fmo 0)), .int (iI (fmo 1)), .int (iI 0), .ref k_rt, .ref k_rf, .ref k_ct, .ref k_cf, .ref k_nd, .ref k_na, .ref k_no, .ref k_bt, .ref k_bc, .ref k_br, .int (iI bg), .int (iI pn), .ref k_pc, .ref k_pr, .ref k_la, .ref k_lb, .ref k_ha, .ref k_hb, .ref k_ls, .ref k_wc, .int (iI wd), .int (iI mg), .int (iI mw), .int (iI mc)])), (k_ch, .inl (cI, aI 13 fsz))]) (st_sub sti_M) stt_M sto_M stn_M 1 rfl rfl 11 (by decide) (List.mem_cons_of_mem _ kw_3_77) rfl rfl (by decide) (by decide) (Nat.le_of_ble_eq_true rfl) std_M_bar_30 rfl ?_
      refine g_ws (ws' := [(k_ba, .inl (cZ, aI 468 fba)), (m0, .inr (5, [.int (iI 0), .int (iI steps), .ref k_ch, .ref k_co, .ref k_ua, .ref k_ub, .ref k_ba, .int (iI (fle 0)), .int (iI (fle 1)), .int (iI (fmo 0)), .int (iI (fmo 1)), .int (iI (bI False)), .ref k_rt, .ref k_rf, .ref k_ct, .ref k_cf, .ref k_nd, .ref k_na, .ref k_no, .ref k_bt, .ref k_bc, .ref k_br, .int (iI bg), .int (iI pn), .ref k_pc, .ref k_pr, .ref k_la, .ref k_lb, .ref k_ha, .ref k_hb, .ref k_ls, .ref k_wc, .int (iI wd), .int (iI mg), .int (iI mw), .int (iI mc)])), (k_ch, .inl (cI, aI 13 fsz))]) (by rw [show bI False = 0 from bI_f id]) ?_
      refine g_aload_n C 0 std_M_bar_33 rfl ?_
      refine g_get C (st_sub sti_M) 1 rfl rfl 6 (by decide) (List.mem_cons_of_mem _ kw_3_72) rfl rfl std_M_bar_34 ?_
      refine g_aload_n C 0 std_M_bar_37 rfl ?_
      refine g_iload_n C 1 std_M_bar_38 rfl ?_
      refine g_iload_n C 2 std_M_bar_39 rfl ?_
      refine g_iload_n C 3 std_M_bar_40 rfl ?_
      refine g_V_i (wc := [(m0, .inr (5, [.int (iI 0), .int (iI steps), .ref k_ch, .ref k_co, .ref k_ua, .ref k_ub, .ref k_ba, .int (iI (fle 0)), .int (iI (fle 1)), .int (iI (fmo 0)), .int (iI (fmo 1)), .int (iI (bI False)), .ref k_rt, .ref k_rf, .ref k_ct, .ref k_cf, .ref k_nd, .ref k_na, .ref k_no, .ref k_bt, .ref k_bc, .ref k_br, .int (iI bg), .int (iI pn), .ref k_pc, .ref k_pr, .ref k_la, .ref k_lb, .ref k_ha, .ref k_hb, .ref k_ls, .ref k_wc, .int (iI wd), .int (iI mg), .int (iI mw), .int (iI mc)]))]) (wr := [(k_ba, .inl (cZ, aI 468 fba)), (k_ch, .inl (cI, aI 13 fsz))]) (rest := [.ref k_ba]) C (c_m_pair l dC dI cI cJ cZ m0 k_ch k_co k_ua k_ub k_ba k_rt k_rf k_ct k_cf k_nd k_na k_no k_bt k_bc k_br k_pc k_pr k_la k_lb k_ha k_hb k_ls k_wc False bg pn wd mg mw mc steps fle fmo a x b ) (st_cV C kw_3_208 kw_3_205 kw_1_6 kw_3_207 kw_0_19 sth_M_pair ⟨Nat.le_of_ble_eq_true rfl, Nat.le_of_ble_eq_true rfl⟩) 0 rfl rfl rfl rfl (Nat.le_of_ble_eq_true rfl) std_M_bar_41 ⟨Nat.le_of_ble_eq_true rfl, Nat.le_of_ble_eq_true rfl⟩ [1] [0, 2] rfl rfl rfl rfl (by decide) (fun r9 u10 h11 => ?_)
      subst h11
      refine g_ws (ws' := [(k_ba, .inl (cZ, aI 468 fba)), (k_ch, .inl (cI, aI 13 fsz)), (m0, .inr (5, [.int (iI 0), .int (iI steps), .ref k_ch, .ref k_co, .ref k_ua, .ref k_ub, .ref k_ba, .int (iI (fle 0)), .int (iI (fle 1)), .int (iI (fmo 0)), .int (iI (fmo 1)), .int (iI (bI False)), .ref k_rt, .ref k_rf, .ref k_ct, .ref k_cf, .ref k_nd, .ref k_na, .ref k_no, .ref k_bt, .ref k_bc, .ref k_br, .int (iI bg), .int (iI pn), .ref k_pc, .ref k_pr, .ref k_la, .ref k_lb, .ref k_ha, .ref k_hb, .ref k_ls, .ref k_wc, .int (iI wd), .int (iI mg), .int (iI mw), .int (iI mc)]))]) rfl ?_
      refine g_zald C 0 2 rfl rfl (by omega) (by omega) (by omega) std_M_bar_44 ?_
      refine g_istore C (lv' := [(5, .int (iI (fba (((36 * a) + (6 * x)) + b)))), (0, .ref m0), (1, .int (iI a)), (2, .int (iI x)), (3, .int (iI b)), (4, .int (iI (bI v)))]) std_M_bar_45 (by decide) rfl ?_
      refine g_aload_n C 1 std_M_bar_47 rfl ?_
      refine g_get C (st_sub sti_M) 2 rfl rfl 6 (by decide) (List.mem_cons_of_mem _ kw_3_72) rfl rfl std_M_bar_48 ?_
      refine g_aload_n C 1 std_M_bar_51 rfl ?_
      refine g_iload_n C 2 std_M_bar_52 rfl ?_
      refine g_iload_n C 3 std_M_bar_53 rfl ?_
      refine g_iload_n C 4 std_M_bar_54 rfl ?_
      refine g_V_i (wc := [(m0, .inr (5, [.int (iI 0), .int (iI steps), .ref k_ch, .ref k_co, .ref k_ua, .ref k_ub, .ref k_ba, .int (iI (fle 0)), .int (iI (fle 1)), .int (iI (fmo 0)), .int (iI (fmo 1)), .int (iI (bI False)), .ref k_rt, .ref k_rf, .ref k_ct, .ref k_cf, .ref k_nd, .ref k_na, .ref k_no, .ref k_bt, .ref k_bc, .ref k_br, .int (iI bg), .int (iI pn), .ref k_pc, .ref k_pr, .ref k_la, .ref k_lb, .ref k_ha, .ref k_hb, .ref k_ls, .ref k_wc, .int (iI wd), .int (iI mg), .int (iI mw), .int (iI mc)]))]) (wr := [(k_ba, .inl (cZ, aI 468 fba)), (k_ch, .inl (cI, aI 13 fsz))]) (rest := [.ref k_ba]) C (c_m_pair l dC dI cI cJ cZ m0 k_ch k_co k_ua k_ub k_ba k_rt k_rf k_ct k_cf k_nd k_na k_no k_bt k_bc k_br k_pc k_pr k_la k_lb k_ha k_hb k_ls k_wc False bg pn wd mg mw mc steps fle fmo a x b ) (st_cV C kw_3_208 kw_3_205 kw_1_6 kw_3_207 kw_0_19 sth_M_pair ⟨Nat.le_of_ble_eq_true rfl, Nat.le_of_ble_eq_true rfl⟩) 0 rfl rfl rfl rfl (Nat.le_of_ble_eq_true rfl) std_M_bar_55 ⟨Nat.le_of_ble_eq_true rfl, Nat.le_of_ble_eq_true rfl⟩ [2] [0, 1] rfl rfl rfl rfl (by decide) (fun r12 u13 h14 => ?_)
      subst h14
      refine g_ws (ws' := [(k_ba, .inl (cZ, aI 468 fba)), (k_ch, .inl (cI, aI 13 fsz)), (m0, .inr (5, [.int (iI 0), .int (iI steps), .ref k_ch, .ref k_co, .ref k_ua, .ref k_ub, .ref k_ba, .int (iI (fle 0)), .int (iI (fle 1)), .int (iI (fmo 0)), .int (iI (fmo 1)), .int (iI (bI False)), .ref k_rt, .ref k_rf, .ref k_ct, .ref k_cf, .ref k_nd, .ref k_na, .ref k_no, .ref k_bt, .ref k_bc, .ref k_br, .int (iI bg), .int (iI pn), .ref k_pc, .ref k_pr, .ref k_la, .ref k_lb, .ref k_ha, .ref k_hb, .ref k_ls, .ref k_wc, .int (iI wd), .int (iI mg), .int (iI mw), .int (iI mc)]))]) rfl ?_
      refine g_iload C 5 std_M_bar_58 rfl ?_
      refine g_zast C (ws' := [(k_ba, .inl (cZ, aI 468 (uZ fba (((36 * a) + (6 * x)) + b) (bI v)))), (k_ch, .inl (cI, aI 13 fsz)), (m0, .inr (5, [.int (iI 0), .int (iI steps), .ref k_ch, .ref k_co, .ref k_ua, .ref k_ub, .ref k_ba, .int (iI (fle 0)), .int (iI (fle 1)), .int (iI (fmo 0)), .int (iI (fmo 1)), .int (iI (bI False)), .ref k_rt, .ref k_rf, .ref k_ct, .ref k_cf, .ref k_nd, .ref k_na, .ref k_no, .ref k_bt, .ref k_bc, .ref k_br, .int (iI bg), .int (iI pn), .ref k_pc, .ref k_pr, .ref k_la, .ref k_lb, .ref k_ha, .ref k_hb, .ref k_ls, .ref k_wc, .int (iI wd), .int (iI mg), .int (iI mw), .int (iI mc)]))]) 0 2 rfl rfl (bI_c _) (by omega) (by omega) (by omega) std_M_bar_60 rfl ?_
      refine g_iload C 0 std_M_bar_61 rfl ?_
      refine g_if_eq (tgt := 70) C std_M_bar_63 (by decide) ⟨by omega, by omega⟩ (fun c15 => ?_) (fun c15 => ?_)
      · refine g_iconst C std_M_bar_70 ?_
        refine g_sub (ws' := [(m0, .inr (5, [.int (iI 0), .int (iI steps), .ref k_ch, .ref k_co, .ref k_ua, .ref k_ub, .ref k_ba, .int (iI (fle 0)), .int (iI (fle 1)), .int (iI (fmo 0)), .int (iI (fmo 1)), .int (iI (bI False)), .ref k_rt, .ref k_rf, .ref k_ct, .ref k_cf, .ref k_nd, .ref k_na, .ref k_no, .ref k_bt, .ref k_bc, .ref k_br, .int (iI bg), .int (iI pn), .ref k_pc, .ref k_pr, .ref k_la, .ref k_lb, .ref k_ha, .ref k_hb, .ref k_ls, .ref k_wc, .int (iI wd), .int (iI mg), .int (iI mw), .int (iI mc)])), (k_ch, .inl (cI, aI 13 fsz)), (k_ba, .inl (cZ, aI 468 (uZ fba (((36 * a) + (6 * x)) + b) (bI v))))]) [2, 1, 0] rfl rfl ?_
        refine g_wide (k := 0) (n := 0) (Nat.le_of_ble_eq_true rfl) (Nat.le_of_ble_eq_true rfl) ?_
        refine g_ws (ws' := [(m0, .inr (5, [.int (iI 0), .int (iI steps), .ref k_ch, .ref k_co, .ref k_ua, .ref k_ub, .ref k_ba, .int (iI (fle 0)), .int (iI (fle 1)), .int (iI (fmo 0)), .int (iI (fmo 1)), .int (iI (bI False)), .ref k_rt, .ref k_rf, .ref k_ct, .ref k_cf, .ref k_nd, .ref k_na, .ref k_no, .ref k_bt, .ref k_bc, .ref k_br, .int (iI bg), .int (iI pn), .ref k_pc, .ref k_pr, .ref k_la, .ref k_lb, .ref k_ha, .ref k_hb, .ref k_ls, .ref k_wc, .int (iI wd), .int (iI mg), .int (iI mw), .int (iI mc)])), (k_ch, .inl (cI, aI 13 fsz)), (k_ba, .inl (cZ, aI 468 (uZ fba (((36 * a) + (6 * x)) + b) (bI v))))]) (by rw [show bI False = 0 from bI_f id]) ?_
        exact hret _ _ _ (False, (uZ fba (((36 * a) + (6 * x)) + b) (bI v))) (Or.inr (⟨by omega, congrArg iI (by omega), rfl⟩)) std_M_bar_71
      · refine g_iconst C std_M_bar_66 ?_
        refine g_goto (tgt := 71) C std_M_bar_67 (by decide) ?_
        refine g_sub (ws' := [(m0, .inr (5, [.int (iI 0), .int (iI steps), .ref k_ch, .ref k_co, .ref k_ua, .ref k_ub, .ref k_ba, .int (iI (fle 0)), .int (iI (fle 1)), .int (iI (fmo 0)), .int (iI (fmo 1)), .int (iI (bI False)), .ref k_rt, .ref k_rf, .ref k_ct, .ref k_cf, .ref k_nd, .ref k_na, .ref k_no, .ref k_bt, .ref k_bc, .ref k_br, .int (iI bg), .int (iI pn), .ref k_pc, .ref k_pr, .ref k_la, .ref k_lb, .ref k_ha, .ref k_hb, .ref k_ls, .ref k_wc, .int (iI wd), .int (iI mg), .int (iI mw), .int (iI mc)])), (k_ch, .inl (cI, aI 13 fsz)), (k_ba, .inl (cZ, aI 468 (uZ fba (((36 * a) + (6 * x)) + b) (bI v))))]) [2, 1, 0] rfl rfl ?_
        refine g_wide (k := 0) (n := 0) (Nat.le_of_ble_eq_true rfl) (Nat.le_of_ble_eq_true rfl) ?_
        refine g_ws (ws' := [(m0, .inr (5, [.int (iI 0), .int (iI steps), .ref k_ch, .ref k_co, .ref k_ua, .ref k_ub, .ref k_ba, .int (iI (fle 0)), .int (iI (fle 1)), .int (iI (fmo 0)), .int (iI (fmo 1)), .int (iI (bI False)), .ref k_rt, .ref k_rf, .ref k_ct, .ref k_cf, .ref k_nd, .ref k_na, .ref k_no, .ref k_bt, .ref k_bc, .ref k_br, .int (iI bg), .int (iI pn), .ref k_pc, .ref k_pr, .ref k_la, .ref k_lb, .ref k_ha, .ref k_hb, .ref k_ls, .ref k_wc, .int (iI wd), .int (iI mg), .int (iI mw), .int (iI mc)])), (k_ch, .inl (cI, aI 13 fsz)), (k_ba, .inl (cZ, aI 468 (uZ fba (((36 * a) + (6 * x)) + b) (bI v))))]) (by rw [show bI False = 0 from bI_f id]) ?_
        exact hret _ _ _ (False, (uZ fba (((36 * a) + (6 * x)) + b) (bI v))) (Or.inr (⟨by omega, congrArg iI (by omega), rfl⟩)) std_M_bar_71
    · refine g_ldc C (z := (-2000000)) (List.mem_cons_of_mem _ kw_3_188) (by decide) std_M_bar_25 ?_
      refine g_sub (ws' := [(m0, .inr (5, [.int (iI 0), .int (iI steps), .ref k_ch, .ref k_co, .ref k_ua, .ref k_ub, .ref k_ba, .int (iI (fle 0)), .int (iI (fle 1)), .int (iI (fmo 0)), .int (iI (fmo 1)), .int (iI (bI HM)), .ref k_rt, .ref k_rf, .ref k_ct, .ref k_cf, .ref k_nd, .ref k_na, .ref k_no, .ref k_bt, .ref k_bc, .ref k_br, .int (iI bg), .int (iI pn), .ref k_pc, .ref k_pr, .ref k_la, .ref k_lb, .ref k_ha, .ref k_hb, .ref k_ls, .ref k_wc, .int (iI wd), .int (iI mg), .int (iI mw), .int (iI mc)])), (k_ch, .inl (cI, aI 13 fsz)), (k_ba, .inl (cZ, aI 468 fba))]) [1, 2, 0] rfl rfl ?_
      refine g_wide (k := 0) (n := 0) (Nat.le_of_ble_eq_true rfl) (Nat.le_of_ble_eq_true rfl) ?_
      exact hret _ _ _ (HM, fba) (Or.inl ⟨by omega, rfl, rfl⟩) std_M_bar_27

