/-! the model: move, isOne, order, mayFollow -/
abbrev sty_M_move : MethodName := ⟨"StateTablesModel", "move", "(II)V"⟩
abbrev stc_M_move : ByteArray := prog_7_method_33_code
theorem sth_M_move : (sty_M_move).cls ≠ "java/lang/invoke/MethodHandle" ∧ (sty_M_move).cls ≠ "java/lang/invoke/VarHandle" ∧ (parseMethodDescriptor (sty_M_move).desc).map (fun d => d.parameters.length) = some 2 := by decide +kernel
theorem std_M_move_0 : decode stc_M_move 0 = .ok (.aload_n 0, 1) := by decide +kernel
theorem std_M_move_1 : decode stc_M_move 1 = .ok (.getfield 74, 3) := by decide +kernel
theorem kw_3_92 : Cond.fieldLink "StateTablesModel" 74 "StateTablesModel" "lowA" "[I" ∈ stGW := st_t3 (List.mem_of_getElem? (i := 92) (by decide +kernel)) (by decide +kernel)
theorem std_M_move_4 : decode stc_M_move 4 = .ok (.iload_n 2, 1) := by decide +kernel
theorem std_M_move_5 : decode stc_M_move 5 = .ok (.aload_n 0, 1) := by decide +kernel
theorem std_M_move_6 : decode stc_M_move 6 = .ok (.getfield 74, 3) := by decide +kernel
theorem std_M_move_9 : decode stc_M_move 9 = .ok (.iload_n 1, 1) := by decide +kernel
theorem std_M_move_10 : decode stc_M_move 10 = .ok (.iaload, 1) := by decide +kernel
theorem std_M_move_11 : decode stc_M_move 11 = .ok (.iastore, 1) := by decide +kernel
theorem std_M_move_12 : decode stc_M_move 12 = .ok (.aload_n 0, 1) := by decide +kernel
theorem std_M_move_13 : decode stc_M_move 13 = .ok (.getfield 77, 3) := by decide +kernel
theorem kw_3_93 : Cond.fieldLink "StateTablesModel" 77 "StateTablesModel" "lowB" "[I" ∈ stGW := st_t3 (List.mem_of_getElem? (i := 93) (by decide +kernel)) (by decide +kernel)
theorem std_M_move_16 : decode stc_M_move 16 = .ok (.iload_n 2, 1) := by decide +kernel
theorem std_M_move_17 : decode stc_M_move 17 = .ok (.aload_n 0, 1) := by decide +kernel
theorem std_M_move_18 : decode stc_M_move 18 = .ok (.getfield 77, 3) := by decide +kernel
theorem std_M_move_21 : decode stc_M_move 21 = .ok (.iload_n 1, 1) := by decide +kernel
theorem std_M_move_22 : decode stc_M_move 22 = .ok (.iaload, 1) := by decide +kernel
theorem std_M_move_23 : decode stc_M_move 23 = .ok (.iastore, 1) := by decide +kernel
theorem std_M_move_24 : decode stc_M_move 24 = .ok (.aload_n 0, 1) := by decide +kernel
theorem std_M_move_25 : decode stc_M_move 25 = .ok (.getfield 80, 3) := by decide +kernel
theorem kw_3_94 : Cond.fieldLink "StateTablesModel" 80 "StateTablesModel" "highA" "[I" ∈ stGW := st_t3 (List.mem_of_getElem? (i := 94) (by decide +kernel)) (by decide +kernel)
theorem std_M_move_28 : decode stc_M_move 28 = .ok (.iload_n 2, 1) := by decide +kernel
theorem std_M_move_29 : decode stc_M_move 29 = .ok (.aload_n 0, 1) := by decide +kernel
theorem std_M_move_30 : decode stc_M_move 30 = .ok (.getfield 80, 3) := by decide +kernel
theorem std_M_move_33 : decode stc_M_move 33 = .ok (.iload_n 1, 1) := by decide +kernel
theorem std_M_move_34 : decode stc_M_move 34 = .ok (.iaload, 1) := by decide +kernel
theorem std_M_move_35 : decode stc_M_move 35 = .ok (.iastore, 1) := by decide +kernel
theorem std_M_move_36 : decode stc_M_move 36 = .ok (.aload_n 0, 1) := by decide +kernel
theorem std_M_move_37 : decode stc_M_move 37 = .ok (.getfield 83, 3) := by decide +kernel
theorem kw_3_95 : Cond.fieldLink "StateTablesModel" 83 "StateTablesModel" "highB" "[I" ∈ stGW := st_t3 (List.mem_of_getElem? (i := 95) (by decide +kernel)) (by decide +kernel)
theorem std_M_move_40 : decode stc_M_move 40 = .ok (.iload_n 2, 1) := by decide +kernel
theorem std_M_move_41 : decode stc_M_move 41 = .ok (.aload_n 0, 1) := by decide +kernel
theorem std_M_move_42 : decode stc_M_move 42 = .ok (.getfield 83, 3) := by decide +kernel
theorem std_M_move_45 : decode stc_M_move 45 = .ok (.iload_n 1, 1) := by decide +kernel
theorem std_M_move_46 : decode stc_M_move 46 = .ok (.iaload, 1) := by decide +kernel
theorem std_M_move_47 : decode stc_M_move 47 = .ok (.iastore, 1) := by decide +kernel
theorem std_M_move_48 : decode stc_M_move 48 = .ok (.aload_n 0, 1) := by decide +kernel
theorem std_M_move_49 : decode stc_M_move 49 = .ok (.getfield 86, 3) := by decide +kernel
theorem kw_3_96 : Cond.fieldLink "StateTablesModel" 86 "StateTablesModel" "lasts" "[I" ∈ stGW := st_t3 (List.mem_of_getElem? (i := 96) (by decide +kernel)) (by decide +kernel)
theorem std_M_move_52 : decode stc_M_move 52 = .ok (.iload_n 2, 1) := by decide +kernel
theorem std_M_move_53 : decode stc_M_move 53 = .ok (.aload_n 0, 1) := by decide +kernel
theorem std_M_move_54 : decode stc_M_move 54 = .ok (.getfield 86, 3) := by decide +kernel
theorem std_M_move_57 : decode stc_M_move 57 = .ok (.iload_n 1, 1) := by decide +kernel
theorem std_M_move_58 : decode stc_M_move 58 = .ok (.iaload, 1) := by decide +kernel
theorem std_M_move_59 : decode stc_M_move 59 = .ok (.iastore, 1) := by decide +kernel
theorem std_M_move_60 : decode stc_M_move 60 = .ok (.aload_n 0, 1) := by decide +kernel
theorem std_M_move_61 : decode stc_M_move 61 = .ok (.getfield 89, 3) := by decide +kernel
theorem kw_3_97 : Cond.fieldLink "StateTablesModel" 89 "StateTablesModel" "wideCost" "[I" ∈ stGW := st_t3 (List.mem_of_getElem? (i := 97) (by decide +kernel)) (by decide +kernel)
theorem std_M_move_64 : decode stc_M_move 64 = .ok (.iload_n 2, 1) := by decide +kernel
theorem std_M_move_65 : decode stc_M_move 65 = .ok (.aload_n 0, 1) := by decide +kernel
theorem std_M_move_66 : decode stc_M_move 66 = .ok (.getfield 89, 3) := by decide +kernel
theorem std_M_move_69 : decode stc_M_move 69 = .ok (.iload_n 1, 1) := by decide +kernel
theorem std_M_move_70 : decode stc_M_move 70 = .ok (.iaload, 1) := by decide +kernel
theorem std_M_move_71 : decode stc_M_move 71 = .ok (.iastore, 1) := by decide +kernel
theorem std_M_move_72 : decode stc_M_move 72 = .ok (.return_, 1) := by decide +kernel
set_option maxHeartbeats 4000000 in
set_option maxRecDepth 100000 in
theorem c_m_move (l : Launch) (dC : Nat → ClassId) (dI : Nat → Nat → Nat) (cI cJ cZ : ClassId) (m0 : Nat) (k_ch : Nat) (k_co : Nat) (k_ua : Nat) (k_ub : Nat) (k_ba : Nat) (k_rt : Nat) (k_rf : Nat) (k_ct : Nat) (k_cf : Nat) (k_nd : Nat) (k_na : Nat) (k_no : Nat) (k_bt : Nat) (k_bc : Nat) (k_br : Nat) (k_pc : Nat) (k_pr : Nat) (k_la : Nat) (k_lb : Nat) (k_ha : Nat) (k_hb : Nat) (k_ls : Nat) (k_wc : Nat) (HM : Prop) (bg : Int) (pn : Int) (wd : Int) (mg : Int) (mw : Int) (mc : Int) (steps : Int) (fle : Int → Int) (fmo : Int → Int) (VV : Int → Int) (a : Int) (b : Int) (ka : 0 ≤ a ∧ a < 800) (kb : 0 ≤ b ∧ b < 800) : ∀ sz, Met l sty_M_move (Cond.code sty_M_move stc_M_move 3 none :: stGW) ({ frames := 0, cells := 0, slots := 0, locals := 0 } : Room) (va_Pc [.ref m0, .int (iI a), .int (iI b)] (zPre (dC, dI) stCl [(cI, .int), (cJ, .long), (cZ, .boolean)] st_nw [(m0, .inr (5, [.int (iI 0), .int (iI steps), .ref k_ch, .ref k_co, .ref k_ua, .ref k_ub, .ref k_ba, .int (iI (fle 0)), .int (iI (fle 1)), .int (iI (fmo 0)), .int (iI (fmo 1)), .int (iI (bI HM)), .ref k_rt, .ref k_rf, .ref k_ct, .ref k_cf, .ref k_nd, .ref k_na, .ref k_no, .ref k_bt, .ref k_bc, .ref k_br, .int (iI bg), .int (iI pn), .ref k_pc, .ref k_pr, .ref k_la, .ref k_lb, .ref k_ha, .ref k_hb, .ref k_ls, .ref k_wc, .int (iI wd), .int (iI mg), .int (iI mw), .int (iI mc)])), (k_la, .inl (cI, aI 800 (fA VV))), (k_lb, .inl (cI, aI 800 (fB VV))), (k_ha, .inl (cI, aI 800 (fC VV))), (k_hb, .inl (cI, aI 800 (fD VV))), (k_ls, .inl (cI, aI 800 (fL VV))), (k_wc, .inl (cI, aI 800 (fW VV)))] sz)) (va_Qv (fun (_ : Unit) => True) (zPost (dC, dI) stCl [(cI, .int), (cJ, .long), (cZ, .boolean)] [(m0, .inr (5, [.int (iI 0), .int (iI steps), .ref k_ch, .ref k_co, .ref k_ua, .ref k_ub, .ref k_ba, .int (iI (fle 0)), .int (iI (fle 1)), .int (iI (fmo 0)), .int (iI (fmo 1)), .int (iI (bI HM)), .ref k_rt, .ref k_rf, .ref k_ct, .ref k_cf, .ref k_nd, .ref k_na, .ref k_no, .ref k_bt, .ref k_bc, .ref k_br, .int (iI bg), .int (iI pn), .ref k_pc, .ref k_pr, .ref k_la, .ref k_lb, .ref k_ha, .ref k_hb, .ref k_ls, .ref k_wc, .int (iI wd), .int (iI mg), .int (iI mw), .int (iI mc)])), (k_la, .inl (cI, aI 800 (fA VV))), (k_lb, .inl (cI, aI 800 (fB VV))), (k_ha, .inl (cI, aI 800 (fC VV))), (k_hb, .inl (cI, aI 800 (fD VV))), (k_ls, .inl (cI, aI 800 (fL VV))), (k_wc, .inl (cI, aI 800 (fW VV)))] sz (fun _ : Unit => [(m0, .inr (5, [.int (iI 0), .int (iI steps), .ref k_ch, .ref k_co, .ref k_ua, .ref k_ub, .ref k_ba, .int (iI (fle 0)), .int (iI (fle 1)), .int (iI (fmo 0)), .int (iI (fmo 1)), .int (iI (bI HM)), .ref k_rt, .ref k_rf, .ref k_ct, .ref k_cf, .ref k_nd, .ref k_na, .ref k_no, .ref k_bt, .ref k_bc, .ref k_br, .int (iI bg), .int (iI pn), .ref k_pc, .ref k_pr, .ref k_la, .ref k_lb, .ref k_ha, .ref k_hb, .ref k_ls, .ref k_wc, .int (iI wd), .int (iI mg), .int (iI mw), .int (iI mc)])), (k_la, .inl (cI, aI 800 (fA (uZ VV b (VV a))))), (k_lb, .inl (cI, aI 800 (fB (uZ VV b (VV a))))), (k_ha, .inl (cI, aI 800 (fC (uZ VV b (VV a))))), (k_hb, .inl (cI, aI 800 (fD (uZ VV b (VV a))))), (k_ls, .inl (cI, aI 800 (fL (uZ VV b (VV a))))), (k_wc, .inl (cI, aI 800 (fW (uZ VV b (VV a)))))])) (va_A [(m0, .inr (5, [.int (iI 0), .int (iI steps), .ref k_ch, .ref k_co, .ref k_ua, .ref k_ub, .ref k_ba, .int (iI (fle 0)), .int (iI (fle 1)), .int (iI (fmo 0)), .int (iI (fmo 1)), .int (iI (bI HM)), .ref k_rt, .ref k_rf, .ref k_ct, .ref k_cf, .ref k_nd, .ref k_na, .ref k_no, .ref k_bt, .ref k_bc, .ref k_br, .int (iI bg), .int (iI pn), .ref k_pc, .ref k_pr, .ref k_la, .ref k_lb, .ref k_ha, .ref k_hb, .ref k_ls, .ref k_wc, .int (iI wd), .int (iI mg), .int (iI mw), .int (iI mc)])), (k_la, .inl (cI, aI 800 (fA VV))), (k_lb, .inl (cI, aI 800 (fB VV))), (k_ha, .inl (cI, aI 800 (fC VV))), (k_hb, .inl (cI, aI 800 (fD VV))), (k_ls, .inl (cI, aI 800 (fL VV))), (k_wc, .inl (cI, aI 800 (fW VV)))] sz)) 0 0 (va_A [(m0, .inr (5, [.int (iI 0), .int (iI steps), .ref k_ch, .ref k_co, .ref k_ua, .ref k_ub, .ref k_ba, .int (iI (fle 0)), .int (iI (fle 1)), .int (iI (fmo 0)), .int (iI (fmo 1)), .int (iI (bI HM)), .ref k_rt, .ref k_rf, .ref k_ct, .ref k_cf, .ref k_nd, .ref k_na, .ref k_no, .ref k_bt, .ref k_bc, .ref k_br, .int (iI bg), .int (iI pn), .ref k_pc, .ref k_pr, .ref k_la, .ref k_lb, .ref k_ha, .ref k_hb, .ref k_ls, .ref k_wc, .int (iI wd), .int (iI mg), .int (iI mw), .int (iI mc)])), (k_la, .inl (cI, aI 800 (fA VV))), (k_lb, .inl (cI, aI 800 (fB VV))), (k_ha, .inl (cI, aI 800 (fC VV))), (k_hb, .inl (cI, aI 800 (fD VV))), (k_ls, .inl (cI, aI 800 (fL VV))), (k_wc, .inl (cI, aI 800 (fW VV)))] sz) := by
  refine met_v (by decide) rfl (Nat.le_of_ble_eq_true rfl) ?_
  intro p e s m below meth c A Q C hmn hret
  refine g_aload_n C 0 std_M_move_0 rfl ?_
  refine g_get C (st_sub sti_M) 0 rfl rfl 26 (by decide) (List.mem_cons_of_mem _ kw_3_92) rfl rfl std_M_move_1 ?_
  refine g_iload_n C 2 std_M_move_4 rfl ?_
  refine g_aload_n C 0 std_M_move_5 rfl ?_
  refine g_get C (st_sub sti_M) 0 rfl rfl 26 (by decide) (List.mem_cons_of_mem _ kw_3_92) rfl rfl std_M_move_6 ?_
  refine g_iload_n C 1 std_M_move_9 rfl ?_
  refine g_iald C 1 0 rfl rfl (by omega) (by omega) (by omega) std_M_move_10 ?_
  refine g_iast C (ws' := [(m0, .inr (5, [.int (iI 0), .int (iI steps), .ref k_ch, .ref k_co, .ref k_ua, .ref k_ub, .ref k_ba, .int (iI (fle 0)), .int (iI (fle 1)), .int (iI (fmo 0)), .int (iI (fmo 1)), .int (iI (bI HM)), .ref k_rt, .ref k_rf, .ref k_ct, .ref k_cf, .ref k_nd, .ref k_na, .ref k_no, .ref k_bt, .ref k_bc, .ref k_br, .int (iI bg), .int (iI pn), .ref k_pc, .ref k_pr, .ref k_la, .ref k_lb, .ref k_ha, .ref k_hb, .ref k_ls, .ref k_wc, .int (iI wd), .int (iI mg), .int (iI mw), .int (iI mc)])), (k_la, .inl (cI, aI 800 (uZ (fA VV) b ((fA VV) a)))), (k_lb, .inl (cI, aI 800 (fB VV))), (k_ha, .inl (cI, aI 800 (fC VV))), (k_hb, .inl (cI, aI 800 (fD VV))), (k_ls, .inl (cI, aI 800 (fL VV))), (k_wc, .inl (cI, aI 800 (fW VV)))]) 1 0 rfl rfl (by omega) (by omega) (by omega) std_M_move_11 rfl ?_
  refine g_aload_n C 0 std_M_move_12 rfl ?_
  refine g_get C (st_sub sti_M) 0 rfl rfl 27 (by decide) (List.mem_cons_of_mem _ kw_3_93) rfl rfl std_M_move_13 ?_
  refine g_iload_n C 2 std_M_move_16 rfl ?_
  refine g_aload_n C 0 std_M_move_17 rfl ?_
  refine g_get C (st_sub sti_M) 0 rfl rfl 27 (by decide) (List.mem_cons_of_mem _ kw_3_93) rfl rfl std_M_move_18 ?_
  refine g_iload_n C 1 std_M_move_21 rfl ?_
  refine g_iald C 2 0 rfl rfl (by omega) (by omega) (by omega) std_M_move_22 ?_
  refine g_iast C (ws' := [(m0, .inr (5, [.int (iI 0), .int (iI steps), .ref k_ch, .ref k_co, .ref k_ua, .ref k_ub, .ref k_ba, .int (iI (fle 0)), .int (iI (fle 1)), .int (iI (fmo 0)), .int (iI (fmo 1)), .int (iI (bI HM)), .ref k_rt, .ref k_rf, .ref k_ct, .ref k_cf, .ref k_nd, .ref k_na, .ref k_no, .ref k_bt, .ref k_bc, .ref k_br, .int (iI bg), .int (iI pn), .ref k_pc, .ref k_pr, .ref k_la, .ref k_lb, .ref k_ha, .ref k_hb, .ref k_ls, .ref k_wc, .int (iI wd), .int (iI mg), .int (iI mw), .int (iI mc)])), (k_la, .inl (cI, aI 800 (uZ (fA VV) b ((fA VV) a)))), (k_lb, .inl (cI, aI 800 (uZ (fB VV) b ((fB VV) a)))), (k_ha, .inl (cI, aI 800 (fC VV))), (k_hb, .inl (cI, aI 800 (fD VV))), (k_ls, .inl (cI, aI 800 (fL VV))), (k_wc, .inl (cI, aI 800 (fW VV)))]) 2 0 rfl rfl (by omega) (by omega) (by omega) std_M_move_23 rfl ?_
  refine g_aload_n C 0 std_M_move_24 rfl ?_
  refine g_get C (st_sub sti_M) 0 rfl rfl 28 (by decide) (List.mem_cons_of_mem _ kw_3_94) rfl rfl std_M_move_25 ?_
  refine g_iload_n C 2 std_M_move_28 rfl ?_
  refine g_aload_n C 0 std_M_move_29 rfl ?_
  refine g_get C (st_sub sti_M) 0 rfl rfl 28 (by decide) (List.mem_cons_of_mem _ kw_3_94) rfl rfl std_M_move_30 ?_
  refine g_iload_n C 1 std_M_move_33 rfl ?_
  refine g_iald C 3 0 rfl rfl (by omega) (by omega) (by omega) std_M_move_34 ?_
  refine g_iast C (ws' := [(m0, .inr (5, [.int (iI 0), .int (iI steps), .ref k_ch, .ref k_co, .ref k_ua, .ref k_ub, .ref k_ba, .int (iI (fle 0)), .int (iI (fle 1)), .int (iI (fmo 0)), .int (iI (fmo 1)), .int (iI (bI HM)), .ref k_rt, .ref k_rf, .ref k_ct, .ref k_cf, .ref k_nd, .ref k_na, .ref k_no, .ref k_bt, .ref k_bc, .ref k_br, .int (iI bg), .int (iI pn), .ref k_pc, .ref k_pr, .ref k_la, .ref k_lb, .ref k_ha, .ref k_hb, .ref k_ls, .ref k_wc, .int (iI wd), .int (iI mg), .int (iI mw), .int (iI mc)])), (k_la, .inl (cI, aI 800 (uZ (fA VV) b ((fA VV) a)))), (k_lb, .inl (cI, aI 800 (uZ (fB VV) b ((fB VV) a)))), (k_ha, .inl (cI, aI 800 (uZ (fC VV) b ((fC VV) a)))), (k_hb, .inl (cI, aI 800 (fD VV))), (k_ls, .inl (cI, aI 800 (fL VV))), (k_wc, .inl (cI, aI 800 (fW VV)))]) 3 0 rfl rfl (by omega) (by omega) (by omega) std_M_move_35 rfl ?_
  refine g_aload_n C 0 std_M_move_36 rfl ?_
  refine g_get C (st_sub sti_M) 0 rfl rfl 29 (by decide) (List.mem_cons_of_mem _ kw_3_95) rfl rfl std_M_move_37 ?_
  refine g_iload_n C 2 std_M_move_40 rfl ?_
  refine g_aload_n C 0 std_M_move_41 rfl ?_
  refine g_get C (st_sub sti_M) 0 rfl rfl 29 (by decide) (List.mem_cons_of_mem _ kw_3_95) rfl rfl std_M_move_42 ?_
  refine g_iload_n C 1 std_M_move_45 rfl ?_
  refine g_iald C 4 0 rfl rfl (by omega) (by omega) (by omega) std_M_move_46 ?_
  refine g_iast C (ws' := [(m0, .inr (5, [.int (iI 0), .int (iI steps), .ref k_ch, .ref k_co, .ref k_ua, .ref k_ub, .ref k_ba, .int (iI (fle 0)), .int (iI (fle 1)), .int (iI (fmo 0)), .int (iI (fmo 1)), .int (iI (bI HM)), .ref k_rt, .ref k_rf, .ref k_ct, .ref k_cf, .ref k_nd, .ref k_na, .ref k_no, .ref k_bt, .ref k_bc, .ref k_br, .int (iI bg), .int (iI pn), .ref k_pc, .ref k_pr, .ref k_la, .ref k_lb, .ref k_ha, .ref k_hb, .ref k_ls, .ref k_wc, .int (iI wd), .int (iI mg), .int (iI mw), .int (iI mc)])), (k_la, .inl (cI, aI 800 (uZ (fA VV) b ((fA VV) a)))), (k_lb, .inl (cI, aI 800 (uZ (fB VV) b ((fB VV) a)))), (k_ha, .inl (cI, aI 800 (uZ (fC VV) b ((fC VV) a)))), (k_hb, .inl (cI, aI 800 (uZ (fD VV) b ((fD VV) a)))), (k_ls, .inl (cI, aI 800 (fL VV))), (k_wc, .inl (cI, aI 800 (fW VV)))]) 4 0 rfl rfl (by omega) (by omega) (by omega) std_M_move_47 rfl ?_
  refine g_aload_n C 0 std_M_move_48 rfl ?_
  refine g_get C (st_sub sti_M) 0 rfl rfl 30 (by decide) (List.mem_cons_of_mem _ kw_3_96) rfl rfl std_M_move_49 ?_
  refine g_iload_n C 2 std_M_move_52 rfl ?_
  refine g_aload_n C 0 std_M_move_53 rfl ?_
  refine g_get C (st_sub sti_M) 0 rfl rfl 30 (by decide) (List.mem_cons_of_mem _ kw_3_96) rfl rfl std_M_move_54 ?_
  refine g_iload_n C 1 std_M_move_57 rfl ?_
  refine g_iald C 5 0 rfl rfl (by omega) (by omega) (by omega) std_M_move_58 ?_
  refine g_iast C (ws' := [(m0, .inr (5, [.int (iI 0), .int (iI steps), .ref k_ch, .ref k_co, .ref k_ua, .ref k_ub, .ref k_ba, .int (iI (fle 0)), .int (iI (fle 1)), .int (iI (fmo 0)), .int (iI (fmo 1)), .int (iI (bI HM)), .ref k_rt, .ref k_rf, .ref k_ct, .ref k_cf, .ref k_nd, .ref k_na, .ref k_no, .ref k_bt, .ref k_bc, .ref k_br, .int (iI bg), .int (iI pn), .ref k_pc, .ref k_pr, .ref k_la, .ref k_lb, .ref k_ha, .ref k_hb, .ref k_ls, .ref k_wc, .int (iI wd), .int (iI mg), .int (iI mw), .int (iI mc)])), (k_la, .inl (cI, aI 800 (uZ (fA VV) b ((fA VV) a)))), (k_lb, .inl (cI, aI 800 (uZ (fB VV) b ((fB VV) a)))), (k_ha, .inl (cI, aI 800 (uZ (fC VV) b ((fC VV) a)))), (k_hb, .inl (cI, aI 800 (uZ (fD VV) b ((fD VV) a)))), (k_ls, .inl (cI, aI 800 (uZ (fL VV) b ((fL VV) a)))), (k_wc, .inl (cI, aI 800 (fW VV)))]) 5 0 rfl rfl (by omega) (by omega) (by omega) std_M_move_59 rfl ?_
  refine g_aload_n C 0 std_M_move_60 rfl ?_
  refine g_get C (st_sub sti_M) 0 rfl rfl 31 (by decide) (List.mem_cons_of_mem _ kw_3_97) rfl rfl std_M_move_61 ?_
  refine g_iload_n C 2 std_M_move_64 rfl ?_
  refine g_aload_n C 0 std_M_move_65 rfl ?_
  refine g_get C (st_sub sti_M) 0 rfl rfl 31 (by decide) (List.mem_cons_of_mem _ kw_3_97) rfl rfl std_M_move_66 ?_
  refine g_iload_n C 1 std_M_move_69 rfl ?_
  refine g_iald C 6 0 rfl rfl (by omega) (by omega) (by omega) std_M_move_70 ?_
  refine g_iast C (ws' := [(m0, .inr (5, [.int (iI 0), .int (iI steps), .ref k_ch, .ref k_co, .ref k_ua, .ref k_ub, .ref k_ba, .int (iI (fle 0)), .int (iI (fle 1)), .int (iI (fmo 0)), .int (iI (fmo 1)), .int (iI (bI HM)), .ref k_rt, .ref k_rf, .ref k_ct, .ref k_cf, .ref k_nd, .ref k_na, .ref k_no, .ref k_bt, .ref k_bc, .ref k_br, .int (iI bg), .int (iI pn), .ref k_pc, .ref k_pr, .ref k_la, .ref k_lb, .ref k_ha, .ref k_hb, .ref k_ls, .ref k_wc, .int (iI wd), .int (iI mg), .int (iI mw), .int (iI mc)])), (k_la, .inl (cI, aI 800 (uZ (fA VV) b ((fA VV) a)))), (k_lb, .inl (cI, aI 800 (uZ (fB VV) b ((fB VV) a)))), (k_ha, .inl (cI, aI 800 (uZ (fC VV) b ((fC VV) a)))), (k_hb, .inl (cI, aI 800 (uZ (fD VV) b ((fD VV) a)))), (k_ls, .inl (cI, aI 800 (uZ (fL VV) b ((fL VV) a)))), (k_wc, .inl (cI, aI 800 (uZ (fW VV) b ((fW VV) a))))]) 6 0 rfl rfl (by omega) (by omega) (by omega) std_M_move_71 rfl ?_
  refine g_ws (ws' := [(m0, .inr (5, [.int (iI 0), .int (iI steps), .ref k_ch, .ref k_co, .ref k_ua, .ref k_ub, .ref k_ba, .int (iI (fle 0)), .int (iI (fle 1)), .int (iI (fmo 0)), .int (iI (fmo 1)), .int (iI (bI HM)), .ref k_rt, .ref k_rf, .ref k_ct, .ref k_cf, .ref k_nd, .ref k_na, .ref k_no, .ref k_bt, .ref k_bc, .ref k_br, .int (iI bg), .int (iI pn), .ref k_pc, .ref k_pr, .ref k_la, .ref k_lb, .ref k_ha, .ref k_hb, .ref k_ls, .ref k_wc, .int (iI wd), .int (iI mg), .int (iI mw), .int (iI mc)])), (k_la, .inl (cI, aI 800 (fA (uZ VV b (VV a))))), (k_lb, .inl (cI, aI 800 (fB (uZ VV b (VV a))))), (k_ha, .inl (cI, aI 800 (fC (uZ VV b (VV a))))), (k_hb, .inl (cI, aI 800 (fD (uZ VV b (VV a))))), (k_ls, .inl (cI, aI 800 (fL (uZ VV b (VV a))))), (k_wc, .inl (cI, aI 800 (fW (uZ VV b (VV a)))))]) (by rw [fA_m, fB_m, fC_m, fD_m, fL_m, fW_m]) ?_
  exact hret _ _ () (trivial) std_M_move_72

abbrev sty_M_isOne : MethodName := ⟨"StateTablesModel", "isOne", "(II)Z"⟩
abbrev stc_M_isOne : ByteArray := prog_7_method_34_code
theorem sth_M_isOne : (sty_M_isOne).cls ≠ "java/lang/invoke/MethodHandle" ∧ (sty_M_isOne).cls ≠ "java/lang/invoke/VarHandle" ∧ (parseMethodDescriptor (sty_M_isOne).desc).map (fun d => d.parameters.length) = some 2 := by decide +kernel
theorem std_M_isOne_0 : decode stc_M_isOne 0 = .ok (.aload_n 0, 1) := by decide +kernel
theorem std_M_isOne_1 : decode stc_M_isOne 1 = .ok (.getfield 74, 3) := by decide +kernel
theorem std_M_isOne_4 : decode stc_M_isOne 4 = .ok (.iload_n 1, 1) := by decide +kernel
theorem std_M_isOne_5 : decode stc_M_isOne 5 = .ok (.iaload, 1) := by decide +kernel
theorem std_M_isOne_6 : decode stc_M_isOne 6 = .ok (.aload_n 0, 1) := by decide +kernel
theorem std_M_isOne_7 : decode stc_M_isOne 7 = .ok (.getfield 74, 3) := by decide +kernel
theorem std_M_isOne_10 : decode stc_M_isOne 10 = .ok (.iload_n 2, 1) := by decide +kernel
theorem std_M_isOne_11 : decode stc_M_isOne 11 = .ok (.iaload, 1) := by decide +kernel
theorem std_M_isOne_12 : decode stc_M_isOne 12 = .ok (.if_icmp .ne 67, 3) := by decide +kernel
theorem std_M_isOne_79 : decode stc_M_isOne 79 = .ok (.iconst 0, 1) := by decide +kernel
theorem std_M_isOne_80 : decode stc_M_isOne 80 = .ok (.ireturn, 1) := by decide +kernel
theorem std_M_isOne_15 : decode stc_M_isOne 15 = .ok (.aload_n 0, 1) := by decide +kernel
theorem std_M_isOne_16 : decode stc_M_isOne 16 = .ok (.getfield 77, 3) := by decide +kernel
theorem std_M_isOne_19 : decode stc_M_isOne 19 = .ok (.iload_n 1, 1) := by decide +kernel
theorem std_M_isOne_20 : decode stc_M_isOne 20 = .ok (.iaload, 1) := by decide +kernel
theorem std_M_isOne_21 : decode stc_M_isOne 21 = .ok (.aload_n 0, 1) := by decide +kernel
theorem std_M_isOne_22 : decode stc_M_isOne 22 = .ok (.getfield 77, 3) := by decide +kernel
theorem std_M_isOne_25 : decode stc_M_isOne 25 = .ok (.iload_n 2, 1) := by decide +kernel
theorem std_M_isOne_26 : decode stc_M_isOne 26 = .ok (.iaload, 1) := by decide +kernel
theorem std_M_isOne_27 : decode stc_M_isOne 27 = .ok (.if_icmp .ne 52, 3) := by decide +kernel
theorem std_M_isOne_30 : decode stc_M_isOne 30 = .ok (.aload_n 0, 1) := by decide +kernel
theorem std_M_isOne_31 : decode stc_M_isOne 31 = .ok (.getfield 80, 3) := by decide +kernel
theorem std_M_isOne_34 : decode stc_M_isOne 34 = .ok (.iload_n 1, 1) := by decide +kernel
theorem std_M_isOne_35 : decode stc_M_isOne 35 = .ok (.iaload, 1) := by decide +kernel
theorem std_M_isOne_36 : decode stc_M_isOne 36 = .ok (.aload_n 0, 1) := by decide +kernel
theorem std_M_isOne_37 : decode stc_M_isOne 37 = .ok (.getfield 80, 3) := by decide +kernel
theorem std_M_isOne_40 : decode stc_M_isOne 40 = .ok (.iload_n 2, 1) := by decide +kernel
theorem std_M_isOne_41 : decode stc_M_isOne 41 = .ok (.iaload, 1) := by decide +kernel
theorem std_M_isOne_42 : decode stc_M_isOne 42 = .ok (.if_icmp .ne 37, 3) := by decide +kernel
theorem std_M_isOne_45 : decode stc_M_isOne 45 = .ok (.aload_n 0, 1) := by decide +kernel
theorem std_M_isOne_46 : decode stc_M_isOne 46 = .ok (.getfield 83, 3) := by decide +kernel
theorem std_M_isOne_49 : decode stc_M_isOne 49 = .ok (.iload_n 1, 1) := by decide +kernel
theorem std_M_isOne_50 : decode stc_M_isOne 50 = .ok (.iaload, 1) := by decide +kernel
theorem std_M_isOne_51 : decode stc_M_isOne 51 = .ok (.aload_n 0, 1) := by decide +kernel
theorem std_M_isOne_52 : decode stc_M_isOne 52 = .ok (.getfield 83, 3) := by decide +kernel
theorem std_M_isOne_55 : decode stc_M_isOne 55 = .ok (.iload_n 2, 1) := by decide +kernel
theorem std_M_isOne_56 : decode stc_M_isOne 56 = .ok (.iaload, 1) := by decide +kernel
theorem std_M_isOne_57 : decode stc_M_isOne 57 = .ok (.if_icmp .ne 22, 3) := by decide +kernel
theorem std_M_isOne_60 : decode stc_M_isOne 60 = .ok (.aload_n 0, 1) := by decide +kernel
theorem std_M_isOne_61 : decode stc_M_isOne 61 = .ok (.getfield 86, 3) := by decide +kernel
theorem std_M_isOne_64 : decode stc_M_isOne 64 = .ok (.iload_n 1, 1) := by decide +kernel
theorem std_M_isOne_65 : decode stc_M_isOne 65 = .ok (.iaload, 1) := by decide +kernel
theorem std_M_isOne_66 : decode stc_M_isOne 66 = .ok (.aload_n 0, 1) := by decide +kernel
theorem std_M_isOne_67 : decode stc_M_isOne 67 = .ok (.getfield 86, 3) := by decide +kernel
theorem std_M_isOne_70 : decode stc_M_isOne 70 = .ok (.iload_n 2, 1) := by decide +kernel
theorem std_M_isOne_71 : decode stc_M_isOne 71 = .ok (.iaload, 1) := by decide +kernel
theorem std_M_isOne_72 : decode stc_M_isOne 72 = .ok (.if_icmp .ne 7, 3) := by decide +kernel
theorem std_M_isOne_75 : decode stc_M_isOne 75 = .ok (.iconst 1, 1) := by decide +kernel
theorem std_M_isOne_76 : decode stc_M_isOne 76 = .ok (.goto 4, 3) := by decide +kernel
set_option maxHeartbeats 4000000 in
set_option maxRecDepth 100000 in
theorem c_m_isOne (l : Launch) (dC : Nat → ClassId) (dI : Nat → Nat → Nat) (cI cJ cZ : ClassId) (m0 : Nat) (k_ch : Nat) (k_co : Nat) (k_ua : Nat) (k_ub : Nat) (k_ba : Nat) (k_rt : Nat) (k_rf : Nat) (k_ct : Nat) (k_cf : Nat) (k_nd : Nat) (k_na : Nat) (k_no : Nat) (k_bt : Nat) (k_bc : Nat) (k_br : Nat) (k_pc : Nat) (k_pr : Nat) (k_la : Nat) (k_lb : Nat) (k_ha : Nat) (k_hb : Nat) (k_ls : Nat) (k_wc : Nat) (HM : Prop) (bg : Int) (pn : Int) (wd : Int) (mg : Int) (mw : Int) (mc : Int) (steps : Int) (fle : Int → Int) (fmo : Int → Int) (VV : Int → Int) (a : Int) (b : Int) (ka : 0 ≤ a ∧ a < 800) (kb : 0 ≤ b ∧ b < 800) : ∀ sz, Met l sty_M_isOne (Cond.code sty_M_isOne stc_M_isOne 3 (some .boolean) :: stGW) ({ frames := 0, cells := 0, slots := 0, locals := 0 } : Room) (va_Pc [.ref m0, .int (iI a), .int (iI b)] (zPre (dC, dI) stCl [(cI, .int), (cJ, .long), (cZ, .boolean)] st_nw [(m0, .inr (5, [.int (iI 0), .int (iI steps), .ref k_ch, .ref k_co, .ref k_ua, .ref k_ub, .ref k_ba, .int (iI (fle 0)), .int (iI (fle 1)), .int (iI (fmo 0)), .int (iI (fmo 1)), .int (iI (bI HM)), .ref k_rt, .ref k_rf, .ref k_ct, .ref k_cf, .ref k_nd, .ref k_na, .ref k_no, .ref k_bt, .ref k_bc, .ref k_br, .int (iI bg), .int (iI pn), .ref k_pc, .ref k_pr, .ref k_la, .ref k_lb, .ref k_ha, .ref k_hb, .ref k_ls, .ref k_wc, .int (iI wd), .int (iI mg), .int (iI mw), .int (iI mc)])), (k_la, .inl (cI, aI 800 (fA VV))), (k_lb, .inl (cI, aI 800 (fB VV))), (k_ha, .inl (cI, aI 800 (fC VV))), (k_hb, .inl (cI, aI 800 (fD VV))), (k_ls, .inl (cI, aI 800 (fL VV))), (k_wc, .inl (cI, aI 800 (fW VV)))] sz)) (va_Qi (fun (r : Int32) (_ : Unit) => r = iI (bI (((VV a) % 1073741824) = ((VV b) % 1073741824)))) (zPost (dC, dI) stCl [(cI, .int), (cJ, .long), (cZ, .boolean)] [(m0, .inr (5, [.int (iI 0), .int (iI steps), .ref k_ch, .ref k_co, .ref k_ua, .ref k_ub, .ref k_ba, .int (iI (fle 0)), .int (iI (fle 1)), .int (iI (fmo 0)), .int (iI (fmo 1)), .int (iI (bI HM)), .ref k_rt, .ref k_rf, .ref k_ct, .ref k_cf, .ref k_nd, .ref k_na, .ref k_no, .ref k_bt, .ref k_bc, .ref k_br, .int (iI bg), .int (iI pn), .ref k_pc, .ref k_pr, .ref k_la, .ref k_lb, .ref k_ha, .ref k_hb, .ref k_ls, .ref k_wc, .int (iI wd), .int (iI mg), .int (iI mw), .int (iI mc)])), (k_la, .inl (cI, aI 800 (fA VV))), (k_lb, .inl (cI, aI 800 (fB VV))), (k_ha, .inl (cI, aI 800 (fC VV))), (k_hb, .inl (cI, aI 800 (fD VV))), (k_ls, .inl (cI, aI 800 (fL VV))), (k_wc, .inl (cI, aI 800 (fW VV)))] sz (fun _ : Unit => [(m0, .inr (5, [.int (iI 0), .int (iI steps), .ref k_ch, .ref k_co, .ref k_ua, .ref k_ub, .ref k_ba, .int (iI (fle 0)), .int (iI (fle 1)), .int (iI (fmo 0)), .int (iI (fmo 1)), .int (iI (bI HM)), .ref k_rt, .ref k_rf, .ref k_ct, .ref k_cf, .ref k_nd, .ref k_na, .ref k_no, .ref k_bt, .ref k_bc, .ref k_br, .int (iI bg), .int (iI pn), .ref k_pc, .ref k_pr, .ref k_la, .ref k_lb, .ref k_ha, .ref k_hb, .ref k_ls, .ref k_wc, .int (iI wd), .int (iI mg), .int (iI mw), .int (iI mc)])), (k_la, .inl (cI, aI 800 (fA VV))), (k_lb, .inl (cI, aI 800 (fB VV))), (k_ha, .inl (cI, aI 800 (fC VV))), (k_hb, .inl (cI, aI 800 (fD VV))), (k_ls, .inl (cI, aI 800 (fL VV))), (k_wc, .inl (cI, aI 800 (fW VV)))])) (va_A [(m0, .inr (5, [.int (iI 0), .int (iI steps), .ref k_ch, .ref k_co, .ref k_ua, .ref k_ub, .ref k_ba, .int (iI (fle 0)), .int (iI (fle 1)), .int (iI (fmo 0)), .int (iI (fmo 1)), .int (iI (bI HM)), .ref k_rt, .ref k_rf, .ref k_ct, .ref k_cf, .ref k_nd, .ref k_na, .ref k_no, .ref k_bt, .ref k_bc, .ref k_br, .int (iI bg), .int (iI pn), .ref k_pc, .ref k_pr, .ref k_la, .ref k_lb, .ref k_ha, .ref k_hb, .ref k_ls, .ref k_wc, .int (iI wd), .int (iI mg), .int (iI mw), .int (iI mc)])), (k_la, .inl (cI, aI 800 (fA VV))), (k_lb, .inl (cI, aI 800 (fB VV))), (k_ha, .inl (cI, aI 800 (fC VV))), (k_hb, .inl (cI, aI 800 (fD VV))), (k_ls, .inl (cI, aI 800 (fL VV))), (k_wc, .inl (cI, aI 800 (fW VV)))] sz)) 0 0 (va_A [(m0, .inr (5, [.int (iI 0), .int (iI steps), .ref k_ch, .ref k_co, .ref k_ua, .ref k_ub, .ref k_ba, .int (iI (fle 0)), .int (iI (fle 1)), .int (iI (fmo 0)), .int (iI (fmo 1)), .int (iI (bI HM)), .ref k_rt, .ref k_rf, .ref k_ct, .ref k_cf, .ref k_nd, .ref k_na, .ref k_no, .ref k_bt, .ref k_bc, .ref k_br, .int (iI bg), .int (iI pn), .ref k_pc, .ref k_pr, .ref k_la, .ref k_lb, .ref k_ha, .ref k_hb, .ref k_ls, .ref k_wc, .int (iI wd), .int (iI mg), .int (iI mw), .int (iI mc)])), (k_la, .inl (cI, aI 800 (fA VV))), (k_lb, .inl (cI, aI 800 (fB VV))), (k_ha, .inl (cI, aI 800 (fC VV))), (k_hb, .inl (cI, aI 800 (fD VV))), (k_ls, .inl (cI, aI 800 (fL VV))), (k_wc, .inl (cI, aI 800 (fW VV)))] sz) := by
  refine met_z (by decide) rfl (Nat.le_of_ble_eq_true rfl) ?_
  intro p e s m below meth c A Q C hmn hret
  have hma := m6 (R := VV) (k := a)
  have hmb := m6 (R := VV) (k := b)
  refine g_aload_n C 0 std_M_isOne_0 rfl ?_
  refine g_get C (st_sub sti_M) 0 rfl rfl 26 (by decide) (List.mem_cons_of_mem _ kw_3_92) rfl rfl std_M_isOne_1 ?_
  refine g_iload_n C 1 std_M_isOne_4 rfl ?_
  refine g_iald C 1 0 rfl rfl (by omega) (by omega) (by omega) std_M_isOne_5 ?_
  refine g_aload_n C 0 std_M_isOne_6 rfl ?_
  refine g_get C (st_sub sti_M) 0 rfl rfl 26 (by decide) (List.mem_cons_of_mem _ kw_3_92) rfl rfl std_M_isOne_7 ?_
  refine g_iload_n C 2 std_M_isOne_10 rfl ?_
  refine g_iald C 1 0 rfl rfl (by omega) (by omega) (by omega) std_M_isOne_11 ?_
  refine g_icmp_ne (tgt := 79) C std_M_isOne_12 (by decide) ⟨by omega, by omega⟩ ⟨by omega, by omega⟩ (fun c1 => ?_) (fun c1 => ?_)
  · refine g_iconst C std_M_isOne_79 ?_
    exact hret _ _ _ () (by rw [bI_f (by omega)]) (by decide) std_M_isOne_80
  · refine g_aload_n C 0 std_M_isOne_15 rfl ?_
    refine g_get C (st_sub sti_M) 0 rfl rfl 27 (by decide) (List.mem_cons_of_mem _ kw_3_93) rfl rfl std_M_isOne_16 ?_
    refine g_iload_n C 1 std_M_isOne_19 rfl ?_
    refine g_iald C 2 0 rfl rfl (by omega) (by omega) (by omega) std_M_isOne_20 ?_
    refine g_aload_n C 0 std_M_isOne_21 rfl ?_
    refine g_get C (st_sub sti_M) 0 rfl rfl 27 (by decide) (List.mem_cons_of_mem _ kw_3_93) rfl rfl std_M_isOne_22 ?_
    refine g_iload_n C 2 std_M_isOne_25 rfl ?_
    refine g_iald C 2 0 rfl rfl (by omega) (by omega) (by omega) std_M_isOne_26 ?_
    refine g_icmp_ne (tgt := 79) C std_M_isOne_27 (by decide) ⟨by omega, by omega⟩ ⟨by omega, by omega⟩ (fun c2 => ?_) (fun c2 => ?_)
    · refine g_iconst C std_M_isOne_79 ?_
      exact hret _ _ _ () (by rw [bI_f (by omega)]) (by decide) std_M_isOne_80
    · refine g_aload_n C 0 std_M_isOne_30 rfl ?_
      refine g_get C (st_sub sti_M) 0 rfl rfl 28 (by decide) (List.mem_cons_of_mem _ kw_3_94) rfl rfl std_M_isOne_31 ?_
      refine g_iload_n C 1 std_M_isOne_34 rfl ?_
      refine g_iald C 3 0 rfl rfl (by omega) (by omega) (by omega) std_M_isOne_35 ?_
      refine g_aload_n C 0 std_M_isOne_36 rfl ?_
      refine g_get C (st_sub sti_M) 0 rfl rfl 28 (by decide) (List.mem_cons_of_mem _ kw_3_94) rfl rfl std_M_isOne_37 ?_
      refine g_iload_n C 2 std_M_isOne_40 rfl ?_
      refine g_iald C 3 0 rfl rfl (by omega) (by omega) (by omega) std_M_isOne_41 ?_
      refine g_icmp_ne (tgt := 79) C std_M_isOne_42 (by decide) ⟨by omega, by omega⟩ ⟨by omega, by omega⟩ (fun c3 => ?_) (fun c3 => ?_)
      · refine g_iconst C std_M_isOne_79 ?_
        exact hret _ _ _ () (by rw [bI_f (by omega)]) (by decide) std_M_isOne_80
      · refine g_aload_n C 0 std_M_isOne_45 rfl ?_
        refine g_get C (st_sub sti_M) 0 rfl rfl 29 (by decide) (List.mem_cons_of_mem _ kw_3_95) rfl rfl std_M_isOne_46 ?_
        refine g_iload_n C 1 std_M_isOne_49 rfl ?_
        refine g_iald C 4 0 rfl rfl (by omega) (by omega) (by omega) std_M_isOne_50 ?_
        refine g_aload_n C 0 std_M_isOne_51 rfl ?_
        refine g_get C (st_sub sti_M) 0 rfl rfl 29 (by decide) (List.mem_cons_of_mem _ kw_3_95) rfl rfl std_M_isOne_52 ?_
        refine g_iload_n C 2 std_M_isOne_55 rfl ?_
        refine g_iald C 4 0 rfl rfl (by omega) (by omega) (by omega) std_M_isOne_56 ?_
        refine g_icmp_ne (tgt := 79) C std_M_isOne_57 (by decide) ⟨by omega, by omega⟩ ⟨by omega, by omega⟩ (fun c4 => ?_) (fun c4 => ?_)
        · refine g_iconst C std_M_isOne_79 ?_
          exact hret _ _ _ () (by rw [bI_f (by omega)]) (by decide) std_M_isOne_80
        · refine g_aload_n C 0 std_M_isOne_60 rfl ?_
          refine g_get C (st_sub sti_M) 0 rfl rfl 30 (by decide) (List.mem_cons_of_mem _ kw_3_96) rfl rfl std_M_isOne_61 ?_
          refine g_iload_n C 1 std_M_isOne_64 rfl ?_
          refine g_iald C 5 0 rfl rfl (by omega) (by omega) (by omega) std_M_isOne_65 ?_
          refine g_aload_n C 0 std_M_isOne_66 rfl ?_
          refine g_get C (st_sub sti_M) 0 rfl rfl 30 (by decide) (List.mem_cons_of_mem _ kw_3_96) rfl rfl std_M_isOne_67 ?_
          refine g_iload_n C 2 std_M_isOne_70 rfl ?_
          refine g_iald C 5 0 rfl rfl (by omega) (by omega) (by omega) std_M_isOne_71 ?_
          refine g_icmp_ne (tgt := 79) C std_M_isOne_72 (by decide) ⟨by omega, by omega⟩ ⟨by omega, by omega⟩ (fun c5 => ?_) (fun c5 => ?_)
          · refine g_iconst C std_M_isOne_79 ?_
            exact hret _ _ _ () (by rw [bI_f (by omega)]) (by decide) std_M_isOne_80
          · refine g_iconst C std_M_isOne_75 ?_
            refine g_goto (tgt := 80) C std_M_isOne_76 (by decide) ?_
            exact hret _ _ _ () (by rw [bI_t (by omega)]) (by decide) std_M_isOne_80

abbrev sty_M_order : MethodName := ⟨"StateTablesModel", "order", "(II)I"⟩
abbrev stc_M_order : ByteArray := prog_7_method_35_code
theorem sth_M_order : (sty_M_order).cls ≠ "java/lang/invoke/MethodHandle" ∧ (sty_M_order).cls ≠ "java/lang/invoke/VarHandle" ∧ (parseMethodDescriptor (sty_M_order).desc).map (fun d => d.parameters.length) = some 2 := by decide +kernel
theorem std_M_order_0 : decode stc_M_order 0 = .ok (.aload_n 0, 1) := by decide +kernel
theorem std_M_order_1 : decode stc_M_order 1 = .ok (.getfield 89, 3) := by decide +kernel
theorem std_M_order_4 : decode stc_M_order 4 = .ok (.iload_n 1, 1) := by decide +kernel
theorem std_M_order_5 : decode stc_M_order 5 = .ok (.iaload, 1) := by decide +kernel
theorem std_M_order_6 : decode stc_M_order 6 = .ok (.aload_n 0, 1) := by decide +kernel
theorem std_M_order_7 : decode stc_M_order 7 = .ok (.getfield 89, 3) := by decide +kernel
theorem std_M_order_10 : decode stc_M_order 10 = .ok (.iload_n 2, 1) := by decide +kernel
theorem std_M_order_11 : decode stc_M_order 11 = .ok (.iaload, 1) := by decide +kernel
theorem std_M_order_12 : decode stc_M_order 12 = .ok (.isub, 1) := by decide +kernel
theorem std_M_order_13 : decode stc_M_order 13 = .ok (.istore_n 3, 1) := by decide +kernel
theorem std_M_order_102 : decode stc_M_order 102 = .ok (.iload_n 3, 1) := by decide +kernel
theorem std_M_order_103 : decode stc_M_order 103 = .ok (.ifCond .ne 19, 3) := by decide +kernel
theorem std_M_order_122 : decode stc_M_order 122 = .ok (.iload_n 3, 1) := by decide +kernel
theorem std_M_order_123 : decode stc_M_order 123 = .ok (.ireturn, 1) := by decide +kernel
theorem std_M_order_106 : decode stc_M_order 106 = .ok (.aload_n 0, 1) := by decide +kernel
theorem std_M_order_107 : decode stc_M_order 107 = .ok (.getfield 86, 3) := by decide +kernel
theorem std_M_order_110 : decode stc_M_order 110 = .ok (.iload_n 1, 1) := by decide +kernel
theorem std_M_order_111 : decode stc_M_order 111 = .ok (.iaload, 1) := by decide +kernel
theorem std_M_order_112 : decode stc_M_order 112 = .ok (.aload_n 0, 1) := by decide +kernel
theorem std_M_order_113 : decode stc_M_order 113 = .ok (.getfield 86, 3) := by decide +kernel
theorem std_M_order_116 : decode stc_M_order 116 = .ok (.iload_n 2, 1) := by decide +kernel
theorem std_M_order_117 : decode stc_M_order 117 = .ok (.iaload, 1) := by decide +kernel
theorem std_M_order_118 : decode stc_M_order 118 = .ok (.isub, 1) := by decide +kernel
theorem std_M_order_119 : decode stc_M_order 119 = .ok (.goto 4, 3) := by decide +kernel
theorem std_M_order_80 : decode stc_M_order 80 = .ok (.iload_n 3, 1) := by decide +kernel
theorem std_M_order_81 : decode stc_M_order 81 = .ok (.ifCond .ne 19, 3) := by decide +kernel
theorem std_M_order_100 : decode stc_M_order 100 = .ok (.iload_n 3, 1) := by decide +kernel
theorem std_M_order_101 : decode stc_M_order 101 = .ok (.istore_n 3, 1) := by decide +kernel
theorem std_M_order_84 : decode stc_M_order 84 = .ok (.aload_n 0, 1) := by decide +kernel
theorem std_M_order_85 : decode stc_M_order 85 = .ok (.getfield 83, 3) := by decide +kernel
theorem std_M_order_88 : decode stc_M_order 88 = .ok (.iload_n 1, 1) := by decide +kernel
theorem std_M_order_89 : decode stc_M_order 89 = .ok (.iaload, 1) := by decide +kernel
theorem std_M_order_90 : decode stc_M_order 90 = .ok (.aload_n 0, 1) := by decide +kernel
theorem std_M_order_91 : decode stc_M_order 91 = .ok (.getfield 83, 3) := by decide +kernel
theorem std_M_order_94 : decode stc_M_order 94 = .ok (.iload_n 2, 1) := by decide +kernel
theorem std_M_order_95 : decode stc_M_order 95 = .ok (.iaload, 1) := by decide +kernel
theorem std_M_order_96 : decode stc_M_order 96 = .ok (.isub, 1) := by decide +kernel
theorem std_M_order_97 : decode stc_M_order 97 = .ok (.goto 4, 3) := by decide +kernel
theorem std_M_order_58 : decode stc_M_order 58 = .ok (.iload_n 3, 1) := by decide +kernel
theorem std_M_order_59 : decode stc_M_order 59 = .ok (.ifCond .ne 19, 3) := by decide +kernel
theorem std_M_order_78 : decode stc_M_order 78 = .ok (.iload_n 3, 1) := by decide +kernel
theorem std_M_order_79 : decode stc_M_order 79 = .ok (.istore_n 3, 1) := by decide +kernel
theorem std_M_order_62 : decode stc_M_order 62 = .ok (.aload_n 0, 1) := by decide +kernel
theorem std_M_order_63 : decode stc_M_order 63 = .ok (.getfield 80, 3) := by decide +kernel
theorem std_M_order_66 : decode stc_M_order 66 = .ok (.iload_n 1, 1) := by decide +kernel
theorem std_M_order_67 : decode stc_M_order 67 = .ok (.iaload, 1) := by decide +kernel
theorem std_M_order_68 : decode stc_M_order 68 = .ok (.aload_n 0, 1) := by decide +kernel
theorem std_M_order_69 : decode stc_M_order 69 = .ok (.getfield 80, 3) := by decide +kernel
theorem std_M_order_72 : decode stc_M_order 72 = .ok (.iload_n 2, 1) := by decide +kernel
theorem std_M_order_73 : decode stc_M_order 73 = .ok (.iaload, 1) := by decide +kernel
theorem std_M_order_74 : decode stc_M_order 74 = .ok (.isub, 1) := by decide +kernel
theorem std_M_order_75 : decode stc_M_order 75 = .ok (.goto 4, 3) := by decide +kernel
theorem std_M_order_36 : decode stc_M_order 36 = .ok (.iload_n 3, 1) := by decide +kernel
theorem std_M_order_37 : decode stc_M_order 37 = .ok (.ifCond .ne 19, 3) := by decide +kernel
theorem std_M_order_56 : decode stc_M_order 56 = .ok (.iload_n 3, 1) := by decide +kernel
theorem std_M_order_57 : decode stc_M_order 57 = .ok (.istore_n 3, 1) := by decide +kernel
theorem std_M_order_40 : decode stc_M_order 40 = .ok (.aload_n 0, 1) := by decide +kernel
theorem std_M_order_41 : decode stc_M_order 41 = .ok (.getfield 77, 3) := by decide +kernel
theorem std_M_order_44 : decode stc_M_order 44 = .ok (.iload_n 1, 1) := by decide +kernel
theorem std_M_order_45 : decode stc_M_order 45 = .ok (.iaload, 1) := by decide +kernel
theorem std_M_order_46 : decode stc_M_order 46 = .ok (.aload_n 0, 1) := by decide +kernel
theorem std_M_order_47 : decode stc_M_order 47 = .ok (.getfield 77, 3) := by decide +kernel
theorem std_M_order_50 : decode stc_M_order 50 = .ok (.iload_n 2, 1) := by decide +kernel
theorem std_M_order_51 : decode stc_M_order 51 = .ok (.iaload, 1) := by decide +kernel
theorem std_M_order_52 : decode stc_M_order 52 = .ok (.isub, 1) := by decide +kernel
theorem std_M_order_53 : decode stc_M_order 53 = .ok (.goto 4, 3) := by decide +kernel
theorem std_M_order_14 : decode stc_M_order 14 = .ok (.iload_n 3, 1) := by decide +kernel
theorem std_M_order_15 : decode stc_M_order 15 = .ok (.ifCond .ne 19, 3) := by decide +kernel
theorem std_M_order_34 : decode stc_M_order 34 = .ok (.iload_n 3, 1) := by decide +kernel
theorem std_M_order_35 : decode stc_M_order 35 = .ok (.istore_n 3, 1) := by decide +kernel
theorem std_M_order_18 : decode stc_M_order 18 = .ok (.aload_n 0, 1) := by decide +kernel
theorem std_M_order_19 : decode stc_M_order 19 = .ok (.getfield 74, 3) := by decide +kernel
theorem std_M_order_22 : decode stc_M_order 22 = .ok (.iload_n 1, 1) := by decide +kernel
theorem std_M_order_23 : decode stc_M_order 23 = .ok (.iaload, 1) := by decide +kernel
theorem std_M_order_24 : decode stc_M_order 24 = .ok (.aload_n 0, 1) := by decide +kernel
theorem std_M_order_25 : decode stc_M_order 25 = .ok (.getfield 74, 3) := by decide +kernel
theorem std_M_order_28 : decode stc_M_order 28 = .ok (.iload_n 2, 1) := by decide +kernel
theorem std_M_order_29 : decode stc_M_order 29 = .ok (.iaload, 1) := by decide +kernel
theorem std_M_order_30 : decode stc_M_order 30 = .ok (.isub, 1) := by decide +kernel
theorem std_M_order_31 : decode stc_M_order 31 = .ok (.goto 4, 3) := by decide +kernel
set_option maxHeartbeats 4000000 in
set_option maxRecDepth 100000 in
theorem c_m_order (l : Launch) (dC : Nat → ClassId) (dI : Nat → Nat → Nat) (cI cJ cZ : ClassId) (m0 : Nat) (k_ch : Nat) (k_co : Nat) (k_ua : Nat) (k_ub : Nat) (k_ba : Nat) (k_rt : Nat) (k_rf : Nat) (k_ct : Nat) (k_cf : Nat) (k_nd : Nat) (k_na : Nat) (k_no : Nat) (k_bt : Nat) (k_bc : Nat) (k_br : Nat) (k_pc : Nat) (k_pr : Nat) (k_la : Nat) (k_lb : Nat) (k_ha : Nat) (k_hb : Nat) (k_ls : Nat) (k_wc : Nat) (HM : Prop) (bg : Int) (pn : Int) (wd : Int) (mg : Int) (mw : Int) (mc : Int) (steps : Int) (fle : Int → Int) (fmo : Int → Int) (VV : Int → Int) (a : Int) (b : Int) (ka : (0 ≤ a ∧ a < 800) ∧ -20000 ≤ fW VV a ∧ fW VV a ≤ 20000) (kb : (0 ≤ b ∧ b < 800) ∧ -20000 ≤ fW VV b ∧ fW VV b ≤ 20000) : ∀ sz, Met l sty_M_order (Cond.code sty_M_order stc_M_order 4 (some .int) :: stGW) ({ frames := 0, cells := 0, slots := 0, locals := 0 } : Room) (va_Pc [.ref m0, .int (iI a), .int (iI b)] (zPre (dC, dI) stCl [(cI, .int), (cJ, .long), (cZ, .boolean)] st_nw [(m0, .inr (5, [.int (iI 0), .int (iI steps), .ref k_ch, .ref k_co, .ref k_ua, .ref k_ub, .ref k_ba, .int (iI (fle 0)), .int (iI (fle 1)), .int (iI (fmo 0)), .int (iI (fmo 1)), .int (iI (bI HM)), .ref k_rt, .ref k_rf, .ref k_ct, .ref k_cf, .ref k_nd, .ref k_na, .ref k_no, .ref k_bt, .ref k_bc, .ref k_br, .int (iI bg), .int (iI pn), .ref k_pc, .ref k_pr, .ref k_la, .ref k_lb, .ref k_ha, .ref k_hb, .ref k_ls, .ref k_wc, .int (iI wd), .int (iI mg), .int (iI mw), .int (iI mc)])), (k_la, .inl (cI, aI 800 (fA VV))), (k_lb, .inl (cI, aI 800 (fB VV))), (k_ha, .inl (cI, aI 800 (fC VV))), (k_hb, .inl (cI, aI 800 (fD VV))), (k_ls, .inl (cI, aI 800 (fL VV))), (k_wc, .inl (cI, aI 800 (fW VV)))] sz)) (va_Qi (fun (r : Int32) (z : Int) => r = iI z ∧ (0 < z ↔ VV b < VV a) ∧ -40000 ≤ z ∧ z ≤ 40000) (zPost (dC, dI) stCl [(cI, .int), (cJ, .long), (cZ, .boolean)] [(m0, .inr (5, [.int (iI 0), .int (iI steps), .ref k_ch, .ref k_co, .ref k_ua, .ref k_ub, .ref k_ba, .int (iI (fle 0)), .int (iI (fle 1)), .int (iI (fmo 0)), .int (iI (fmo 1)), .int (iI (bI HM)), .ref k_rt, .ref k_rf, .ref k_ct, .ref k_cf, .ref k_nd, .ref k_na, .ref k_no, .ref k_bt, .ref k_bc, .ref k_br, .int (iI bg), .int (iI pn), .ref k_pc, .ref k_pr, .ref k_la, .ref k_lb, .ref k_ha, .ref k_hb, .ref k_ls, .ref k_wc, .int (iI wd), .int (iI mg), .int (iI mw), .int (iI mc)])), (k_la, .inl (cI, aI 800 (fA VV))), (k_lb, .inl (cI, aI 800 (fB VV))), (k_ha, .inl (cI, aI 800 (fC VV))), (k_hb, .inl (cI, aI 800 (fD VV))), (k_ls, .inl (cI, aI 800 (fL VV))), (k_wc, .inl (cI, aI 800 (fW VV)))] sz (fun _ : Int => [(m0, .inr (5, [.int (iI 0), .int (iI steps), .ref k_ch, .ref k_co, .ref k_ua, .ref k_ub, .ref k_ba, .int (iI (fle 0)), .int (iI (fle 1)), .int (iI (fmo 0)), .int (iI (fmo 1)), .int (iI (bI HM)), .ref k_rt, .ref k_rf, .ref k_ct, .ref k_cf, .ref k_nd, .ref k_na, .ref k_no, .ref k_bt, .ref k_bc, .ref k_br, .int (iI bg), .int (iI pn), .ref k_pc, .ref k_pr, .ref k_la, .ref k_lb, .ref k_ha, .ref k_hb, .ref k_ls, .ref k_wc, .int (iI wd), .int (iI mg), .int (iI mw), .int (iI mc)])), (k_la, .inl (cI, aI 800 (fA VV))), (k_lb, .inl (cI, aI 800 (fB VV))), (k_ha, .inl (cI, aI 800 (fC VV))), (k_hb, .inl (cI, aI 800 (fD VV))), (k_ls, .inl (cI, aI 800 (fL VV))), (k_wc, .inl (cI, aI 800 (fW VV)))])) (va_A [(m0, .inr (5, [.int (iI 0), .int (iI steps), .ref k_ch, .ref k_co, .ref k_ua, .ref k_ub, .ref k_ba, .int (iI (fle 0)), .int (iI (fle 1)), .int (iI (fmo 0)), .int (iI (fmo 1)), .int (iI (bI HM)), .ref k_rt, .ref k_rf, .ref k_ct, .ref k_cf, .ref k_nd, .ref k_na, .ref k_no, .ref k_bt, .ref k_bc, .ref k_br, .int (iI bg), .int (iI pn), .ref k_pc, .ref k_pr, .ref k_la, .ref k_lb, .ref k_ha, .ref k_hb, .ref k_ls, .ref k_wc, .int (iI wd), .int (iI mg), .int (iI mw), .int (iI mc)])), (k_la, .inl (cI, aI 800 (fA VV))), (k_lb, .inl (cI, aI 800 (fB VV))), (k_ha, .inl (cI, aI 800 (fC VV))), (k_hb, .inl (cI, aI 800 (fD VV))), (k_ls, .inl (cI, aI 800 (fL VV))), (k_wc, .inl (cI, aI 800 (fW VV)))] sz)) 0 0 (va_A [(m0, .inr (5, [.int (iI 0), .int (iI steps), .ref k_ch, .ref k_co, .ref k_ua, .ref k_ub, .ref k_ba, .int (iI (fle 0)), .int (iI (fle 1)), .int (iI (fmo 0)), .int (iI (fmo 1)), .int (iI (bI HM)), .ref k_rt, .ref k_rf, .ref k_ct, .ref k_cf, .ref k_nd, .ref k_na, .ref k_no, .ref k_bt, .ref k_bc, .ref k_br, .int (iI bg), .int (iI pn), .ref k_pc, .ref k_pr, .ref k_la, .ref k_lb, .ref k_ha, .ref k_hb, .ref k_ls, .ref k_wc, .int (iI wd), .int (iI mg), .int (iI mw), .int (iI mc)])), (k_la, .inl (cI, aI 800 (fA VV))), (k_lb, .inl (cI, aI 800 (fB VV))), (k_ha, .inl (cI, aI 800 (fC VV))), (k_hb, .inl (cI, aI 800 (fD VV))), (k_ls, .inl (cI, aI 800 (fL VV))), (k_wc, .inl (cI, aI 800 (fW VV)))] sz) := by
  refine met_i (by decide) rfl (Nat.le_of_ble_eq_true rfl) ?_
  intro p e s m below meth c A Q C hmn hret
  have hma := m6 (R := VV) (k := a)
  have hmb := m6 (R := VV) (k := b)
  refine g_aload_n C 0 std_M_order_0 rfl ?_
  refine g_get C (st_sub sti_M) 0 rfl rfl 31 (by decide) (List.mem_cons_of_mem _ kw_3_97) rfl rfl std_M_order_1 ?_
  refine g_iload_n C 1 std_M_order_4 rfl ?_
  refine g_iald C 6 0 rfl rfl (by omega) (by omega) (by omega) std_M_order_5 ?_
  refine g_aload_n C 0 std_M_order_6 rfl ?_
  refine g_get C (st_sub sti_M) 0 rfl rfl 31 (by decide) (List.mem_cons_of_mem _ kw_3_97) rfl rfl std_M_order_7 ?_
  refine g_iload_n C 2 std_M_order_10 rfl ?_
  refine g_iald C 6 0 rfl rfl (by omega) (by omega) (by omega) std_M_order_11 ?_
  refine g_isub C std_M_order_12 ?_
  refine g_istore_n C (lv' := [(3, .int (iI (((fW VV) a) - ((fW VV) b)))), (0, .ref m0), (1, .int (iI a)), (2, .int (iI b))]) std_M_order_13 (by decide) rfl ?_
  have L14 : ∀ (z : Int), ((0 < z ↔ fW VV b < fW VV a) ∧ (z < 0 ↔ fW VV a < fW VV b) ∧ -40000 ≤ z ∧ z ≤ 40000) → G p l e ({ frames := 0, cells := 0, slots := 0, locals := 0 } : Room) s m ([.ref m0, .int (iI a), .int (iI b)] : List Value).toArray below meth c (dC, dI) stCl 4 A 0 0 Q [(m0, .inr (5, [.int (iI 0), .int (iI steps), .ref k_ch, .ref k_co, .ref k_ua, .ref k_ub, .ref k_ba, .int (iI (fle 0)), .int (iI (fle 1)), .int (iI (fmo 0)), .int (iI (fmo 1)), .int (iI (bI HM)), .ref k_rt, .ref k_rf, .ref k_ct, .ref k_cf, .ref k_nd, .ref k_na, .ref k_no, .ref k_bt, .ref k_bc, .ref k_br, .int (iI bg), .int (iI pn), .ref k_pc, .ref k_pr, .ref k_la, .ref k_lb, .ref k_ha, .ref k_hb, .ref k_ls, .ref k_wc, .int (iI wd), .int (iI mg), .int (iI mw), .int (iI mc)])), (k_la, .inl (cI, aI 800 (fA VV))), (k_lb, .inl (cI, aI 800 (fB VV))), (k_ha, .inl (cI, aI 800 (fC VV))), (k_hb, .inl (cI, aI 800 (fD VV))), (k_ls, .inl (cI, aI 800 (fL VV))), (k_wc, .inl (cI, aI 800 (fW VV)))] 14 [(3, .int (iI z)), (2, .int (iI b)), (1, .int (iI a)), (0, .ref m0)] [] := by
    intro z kz
    have L36 : ∀ (z : Int), ((0 < z ↔ (fW VV b * 64 + fA VV b) < (fW VV a * 64 + fA VV a)) ∧ (z < 0 ↔ (fW VV a * 64 + fA VV a) < (fW VV b * 64 + fA VV b)) ∧ -40000 ≤ z ∧ z ≤ 40000) → G p l e ({ frames := 0, cells := 0, slots := 0, locals := 0 } : Room) s m ([.ref m0, .int (iI a), .int (iI b)] : List Value).toArray below meth c (dC, dI) stCl 4 A 0 0 Q [(m0, .inr (5, [.int (iI 0), .int (iI steps), .ref k_ch, .ref k_co, .ref k_ua, .ref k_ub, .ref k_ba, .int (iI (fle 0)), .int (iI (fle 1)), .int (iI (fmo 0)), .int (iI (fmo 1)), .int (iI (bI HM)), .ref k_rt, .ref k_rf, .ref k_ct, .ref k_cf, .ref k_nd, .ref k_na, .ref k_no, .ref k_bt, .ref k_bc, .ref k_br, .int (iI bg), .int (iI pn), .ref k_pc, .ref k_pr, .ref k_la, .ref k_lb, .ref k_ha, .ref k_hb, .ref k_ls, .ref k_wc, .int (iI wd), .int (iI mg), .int (iI mw), .int (iI mc)])), (k_la, .inl (cI, aI 800 (fA VV))), (k_lb, .inl (cI, aI 800 (fB VV))), (k_ha, .inl (cI, aI 800 (fC VV))), (k_hb, .inl (cI, aI 800 (fD VV))), (k_ls, .inl (cI, aI 800 (fL VV))), (k_wc, .inl (cI, aI 800 (fW VV)))] 36 [(3, .int (iI z)), (2, .int (iI b)), (1, .int (iI a)), (0, .ref m0)] [] := by
      intro z kz
      have L58 : ∀ (z : Int), ((0 < z ↔ ((fW VV b * 64 + fA VV b) * 64 + fB VV b) < ((fW VV a * 64 + fA VV a) * 64 + fB VV a)) ∧ (z < 0 ↔ ((fW VV a * 64 + fA VV a) * 64 + fB VV a) < ((fW VV b * 64 + fA VV b) * 64 + fB VV b)) ∧ -40000 ≤ z ∧ z ≤ 40000) → G p l e ({ frames := 0, cells := 0, slots := 0, locals := 0 } : Room) s m ([.ref m0, .int (iI a), .int (iI b)] : List Value).toArray below meth c (dC, dI) stCl 4 A 0 0 Q [(m0, .inr (5, [.int (iI 0), .int (iI steps), .ref k_ch, .ref k_co, .ref k_ua, .ref k_ub, .ref k_ba, .int (iI (fle 0)), .int (iI (fle 1)), .int (iI (fmo 0)), .int (iI (fmo 1)), .int (iI (bI HM)), .ref k_rt, .ref k_rf, .ref k_ct, .ref k_cf, .ref k_nd, .ref k_na, .ref k_no, .ref k_bt, .ref k_bc, .ref k_br, .int (iI bg), .int (iI pn), .ref k_pc, .ref k_pr, .ref k_la, .ref k_lb, .ref k_ha, .ref k_hb, .ref k_ls, .ref k_wc, .int (iI wd), .int (iI mg), .int (iI mw), .int (iI mc)])), (k_la, .inl (cI, aI 800 (fA VV))), (k_lb, .inl (cI, aI 800 (fB VV))), (k_ha, .inl (cI, aI 800 (fC VV))), (k_hb, .inl (cI, aI 800 (fD VV))), (k_ls, .inl (cI, aI 800 (fL VV))), (k_wc, .inl (cI, aI 800 (fW VV)))] 58 [(3, .int (iI z)), (2, .int (iI b)), (1, .int (iI a)), (0, .ref m0)] [] := by
        intro z kz
        have L80 : ∀ (z : Int), ((0 < z ↔ (((fW VV b * 64 + fA VV b) * 64 + fB VV b) * 64 + fC VV b) < (((fW VV a * 64 + fA VV a) * 64 + fB VV a) * 64 + fC VV a)) ∧ (z < 0 ↔ (((fW VV a * 64 + fA VV a) * 64 + fB VV a) * 64 + fC VV a) < (((fW VV b * 64 + fA VV b) * 64 + fB VV b) * 64 + fC VV b)) ∧ -40000 ≤ z ∧ z ≤ 40000) → G p l e ({ frames := 0, cells := 0, slots := 0, locals := 0 } : Room) s m ([.ref m0, .int (iI a), .int (iI b)] : List Value).toArray below meth c (dC, dI) stCl 4 A 0 0 Q [(m0, .inr (5, [.int (iI 0), .int (iI steps), .ref k_ch, .ref k_co, .ref k_ua, .ref k_ub, .ref k_ba, .int (iI (fle 0)), .int (iI (fle 1)), .int (iI (fmo 0)), .int (iI (fmo 1)), .int (iI (bI HM)), .ref k_rt, .ref k_rf, .ref k_ct, .ref k_cf, .ref k_nd, .ref k_na, .ref k_no, .ref k_bt, .ref k_bc, .ref k_br, .int (iI bg), .int (iI pn), .ref k_pc, .ref k_pr, .ref k_la, .ref k_lb, .ref k_ha, .ref k_hb, .ref k_ls, .ref k_wc, .int (iI wd), .int (iI mg), .int (iI mw), .int (iI mc)])), (k_la, .inl (cI, aI 800 (fA VV))), (k_lb, .inl (cI, aI 800 (fB VV))), (k_ha, .inl (cI, aI 800 (fC VV))), (k_hb, .inl (cI, aI 800 (fD VV))), (k_ls, .inl (cI, aI 800 (fL VV))), (k_wc, .inl (cI, aI 800 (fW VV)))] 80 [(3, .int (iI z)), (2, .int (iI b)), (1, .int (iI a)), (0, .ref m0)] [] := by
          intro z kz
          have L102 : ∀ (z : Int), ((0 < z ↔ ((((fW VV b * 64 + fA VV b) * 64 + fB VV b) * 64 + fC VV b) * 64 + fD VV b) < ((((fW VV a * 64 + fA VV a) * 64 + fB VV a) * 64 + fC VV a) * 64 + fD VV a)) ∧ (z < 0 ↔ ((((fW VV a * 64 + fA VV a) * 64 + fB VV a) * 64 + fC VV a) * 64 + fD VV a) < ((((fW VV b * 64 + fA VV b) * 64 + fB VV b) * 64 + fC VV b) * 64 + fD VV b)) ∧ -40000 ≤ z ∧ z ≤ 40000) → G p l e ({ frames := 0, cells := 0, slots := 0, locals := 0 } : Room) s m ([.ref m0, .int (iI a), .int (iI b)] : List Value).toArray below meth c (dC, dI) stCl 4 A 0 0 Q [(m0, .inr (5, [.int (iI 0), .int (iI steps), .ref k_ch, .ref k_co, .ref k_ua, .ref k_ub, .ref k_ba, .int (iI (fle 0)), .int (iI (fle 1)), .int (iI (fmo 0)), .int (iI (fmo 1)), .int (iI (bI HM)), .ref k_rt, .ref k_rf, .ref k_ct, .ref k_cf, .ref k_nd, .ref k_na, .ref k_no, .ref k_bt, .ref k_bc, .ref k_br, .int (iI bg), .int (iI pn), .ref k_pc, .ref k_pr, .ref k_la, .ref k_lb, .ref k_ha, .ref k_hb, .ref k_ls, .ref k_wc, .int (iI wd), .int (iI mg), .int (iI mw), .int (iI mc)])), (k_la, .inl (cI, aI 800 (fA VV))), (k_lb, .inl (cI, aI 800 (fB VV))), (k_ha, .inl (cI, aI 800 (fC VV))), (k_hb, .inl (cI, aI 800 (fD VV))), (k_ls, .inl (cI, aI 800 (fL VV))), (k_wc, .inl (cI, aI 800 (fW VV)))] 102 [(3, .int (iI z)), (2, .int (iI b)), (1, .int (iI a)), (0, .ref m0)] [] := by
            intro z kz
            refine g_iload_n C 0 std_M_order_102 rfl ?_
            refine g_if_ne (tgt := 122) C std_M_order_103 (by decide) ⟨by omega, by omega⟩ (fun c1 => ?_) (fun c1 => ?_)
            · refine g_iload_n C 0 std_M_order_122 rfl ?_
              exact hret _ _ _ z (⟨rfl, by omega, by omega, by omega⟩) std_M_order_123
            · refine g_aload_n C 3 std_M_order_106 rfl ?_
              refine g_get C (st_sub sti_M) 0 rfl rfl 30 (by decide) (List.mem_cons_of_mem _ kw_3_96) rfl rfl std_M_order_107 ?_
              refine g_iload_n C 2 std_M_order_110 rfl ?_
              refine g_iald C 5 0 rfl rfl (by omega) (by omega) (by omega) std_M_order_111 ?_
              refine g_aload_n C 3 std_M_order_112 rfl ?_
              refine g_get C (st_sub sti_M) 0 rfl rfl 30 (by decide) (List.mem_cons_of_mem _ kw_3_96) rfl rfl std_M_order_113 ?_
              refine g_iload_n C 1 std_M_order_116 rfl ?_
              refine g_iald C 5 0 rfl rfl (by omega) (by omega) (by omega) std_M_order_117 ?_
              refine g_isub C std_M_order_118 ?_
              refine g_goto (tgt := 123) C std_M_order_119 (by decide) ?_
              exact hret _ _ _ (((fL VV) a) - ((fL VV) b)) (⟨rfl, by omega, by omega, by omega⟩) std_M_order_123
          refine g_iload_n C 0 std_M_order_80 rfl ?_
          refine g_if_ne (tgt := 100) C std_M_order_81 (by decide) ⟨by omega, by omega⟩ (fun c2 => ?_) (fun c2 => ?_)
          · refine g_iload_n C 0 std_M_order_100 rfl ?_
            refine g_istore_n C (lv' := [(3, .int (iI z)), (2, .int (iI b)), (1, .int (iI a)), (0, .ref m0)]) std_M_order_101 (by decide) rfl ?_
            exact L102 z (by omega)
          · refine g_aload_n C 3 std_M_order_84 rfl ?_
            refine g_get C (st_sub sti_M) 0 rfl rfl 29 (by decide) (List.mem_cons_of_mem _ kw_3_95) rfl rfl std_M_order_85 ?_
            refine g_iload_n C 2 std_M_order_88 rfl ?_
            refine g_iald C 4 0 rfl rfl (by omega) (by omega) (by omega) std_M_order_89 ?_
            refine g_aload_n C 3 std_M_order_90 rfl ?_
            refine g_get C (st_sub sti_M) 0 rfl rfl 29 (by decide) (List.mem_cons_of_mem _ kw_3_95) rfl rfl std_M_order_91 ?_
            refine g_iload_n C 1 std_M_order_94 rfl ?_
            refine g_iald C 4 0 rfl rfl (by omega) (by omega) (by omega) std_M_order_95 ?_
            refine g_isub C std_M_order_96 ?_
            refine g_goto (tgt := 101) C std_M_order_97 (by decide) ?_
            refine g_istore_n C (lv' := [(3, .int (iI (((fD VV) a) - ((fD VV) b)))), (2, .int (iI b)), (1, .int (iI a)), (0, .ref m0)]) std_M_order_101 (by decide) rfl ?_
            exact L102 (((fD VV) a) - ((fD VV) b)) (by omega)
        refine g_iload_n C 0 std_M_order_58 rfl ?_
        refine g_if_ne (tgt := 78) C std_M_order_59 (by decide) ⟨by omega, by omega⟩ (fun c3 => ?_) (fun c3 => ?_)
        · refine g_iload_n C 0 std_M_order_78 rfl ?_
          refine g_istore_n C (lv' := [(3, .int (iI z)), (2, .int (iI b)), (1, .int (iI a)), (0, .ref m0)]) std_M_order_79 (by decide) rfl ?_
          exact L80 z (by omega)
        · refine g_aload_n C 3 std_M_order_62 rfl ?_
          refine g_get C (st_sub sti_M) 0 rfl rfl 28 (by decide) (List.mem_cons_of_mem _ kw_3_94) rfl rfl std_M_order_63 ?_
          refine g_iload_n C 2 std_M_order_66 rfl ?_
          refine g_iald C 3 0 rfl rfl (by omega) (by omega) (by omega) std_M_order_67 ?_
          refine g_aload_n C 3 std_M_order_68 rfl ?_
          refine g_get C (st_sub sti_M) 0 rfl rfl 28 (by decide) (List.mem_cons_of_mem _ kw_3_94) rfl rfl std_M_order_69 ?_
          refine g_iload_n C 1 std_M_order_72 rfl ?_
          refine g_iald C 3 0 rfl rfl (by omega) (by omega) (by omega) std_M_order_73 ?_
          refine g_isub C std_M_order_74 ?_
          refine g_goto (tgt := 79) C std_M_order_75 (by decide) ?_
          refine g_istore_n C (lv' := [(3, .int (iI (((fC VV) a) - ((fC VV) b)))), (2, .int (iI b)), (1, .int (iI a)), (0, .ref m0)]) std_M_order_79 (by decide) rfl ?_
          exact L80 (((fC VV) a) - ((fC VV) b)) (by omega)
      refine g_iload_n C 0 std_M_order_36 rfl ?_
      refine g_if_ne (tgt := 56) C std_M_order_37 (by decide) ⟨by omega, by omega⟩ (fun c4 => ?_) (fun c4 => ?_)
      · refine g_iload_n C 0 std_M_order_56 rfl ?_
        refine g_istore_n C (lv' := [(3, .int (iI z)), (2, .int (iI b)), (1, .int (iI a)), (0, .ref m0)]) std_M_order_57 (by decide) rfl ?_
        exact L58 z (by omega)
      · refine g_aload_n C 3 std_M_order_40 rfl ?_
        refine g_get C (st_sub sti_M) 0 rfl rfl 27 (by decide) (List.mem_cons_of_mem _ kw_3_93) rfl rfl std_M_order_41 ?_
        refine g_iload_n C 2 std_M_order_44 rfl ?_
        refine g_iald C 2 0 rfl rfl (by omega) (by omega) (by omega) std_M_order_45 ?_
        refine g_aload_n C 3 std_M_order_46 rfl ?_
        refine g_get C (st_sub sti_M) 0 rfl rfl 27 (by decide) (List.mem_cons_of_mem _ kw_3_93) rfl rfl std_M_order_47 ?_
        refine g_iload_n C 1 std_M_order_50 rfl ?_
        refine g_iald C 2 0 rfl rfl (by omega) (by omega) (by omega) std_M_order_51 ?_
        refine g_isub C std_M_order_52 ?_
        refine g_goto (tgt := 57) C std_M_order_53 (by decide) ?_
        refine g_istore_n C (lv' := [(3, .int (iI (((fB VV) a) - ((fB VV) b)))), (2, .int (iI b)), (1, .int (iI a)), (0, .ref m0)]) std_M_order_57 (by decide) rfl ?_
        exact L58 (((fB VV) a) - ((fB VV) b)) (by omega)
    refine g_iload_n C 0 std_M_order_14 rfl ?_
    refine g_if_ne (tgt := 34) C std_M_order_15 (by decide) ⟨by omega, by omega⟩ (fun c5 => ?_) (fun c5 => ?_)
    · refine g_iload_n C 0 std_M_order_34 rfl ?_
      refine g_istore_n C (lv' := [(3, .int (iI z)), (2, .int (iI b)), (1, .int (iI a)), (0, .ref m0)]) std_M_order_35 (by decide) rfl ?_
      exact L36 z (by omega)
    · refine g_aload_n C 3 std_M_order_18 rfl ?_
      refine g_get C (st_sub sti_M) 0 rfl rfl 26 (by decide) (List.mem_cons_of_mem _ kw_3_92) rfl rfl std_M_order_19 ?_
      refine g_iload_n C 2 std_M_order_22 rfl ?_
      refine g_iald C 1 0 rfl rfl (by omega) (by omega) (by omega) std_M_order_23 ?_
      refine g_aload_n C 3 std_M_order_24 rfl ?_
      refine g_get C (st_sub sti_M) 0 rfl rfl 26 (by decide) (List.mem_cons_of_mem _ kw_3_92) rfl rfl std_M_order_25 ?_
      refine g_iload_n C 1 std_M_order_28 rfl ?_
      refine g_iald C 1 0 rfl rfl (by omega) (by omega) (by omega) std_M_order_29 ?_
      refine g_isub C std_M_order_30 ?_
      refine g_goto (tgt := 35) C std_M_order_31 (by decide) ?_
      refine g_istore_n C (lv' := [(3, .int (iI (((fA VV) a) - ((fA VV) b)))), (2, .int (iI b)), (1, .int (iI a)), (0, .ref m0)]) std_M_order_35 (by decide) rfl ?_
      exact L36 (((fA VV) a) - ((fA VV) b)) (by omega)
  refine g_lv (lv' := [(3, .int (iI (((fW VV) a) - ((fW VV) b)))), (2, .int (iI b)), (1, .int (iI a)), (0, .ref m0)]) [0, 3, 2, 1] rfl ?_
  exact L14 (((fW VV) a) - ((fW VV) b)) (by omega)

abbrev sty_M_mayFollow : MethodName := ⟨"StateTablesModel", "mayFollow", "(III)Z"⟩
abbrev stc_M_mayFollow : ByteArray := prog_7_method_36_code
theorem sth_M_mayFollow : (sty_M_mayFollow).cls ≠ "java/lang/invoke/MethodHandle" ∧ (sty_M_mayFollow).cls ≠ "java/lang/invoke/VarHandle" ∧ (parseMethodDescriptor (sty_M_mayFollow).desc).map (fun d => d.parameters.length) = some 3 := by decide +kernel
theorem std_M_mayFollow_0 : decode stc_M_mayFollow 0 = .ok (.iload_n 2, 1) := by decide +kernel
theorem std_M_mayFollow_1 : decode stc_M_mayFollow 1 = .ok (.ifCond .ne 7, 3) := by decide +kernel
theorem std_M_mayFollow_8 : decode stc_M_mayFollow 8 = .ok (.iconst 0, 1) := by decide +kernel
theorem std_M_mayFollow_9 : decode stc_M_mayFollow 9 = .ok (.istore 4, 2) := by decide +kernel
theorem std_M_mayFollow_11 : decode stc_M_mayFollow 11 = .ok (.iconst 0, 1) := by decide +kernel
theorem std_M_mayFollow_12 : decode stc_M_mayFollow 12 = .ok (.istore 5, 2) := by decide +kernel
theorem std_M_mayFollow_14 : decode stc_M_mayFollow 14 = .ok (.iload 5, 2) := by decide +kernel
theorem std_M_mayFollow_16 : decode stc_M_mayFollow 16 = .ok (.bipush 6, 2) := by decide +kernel
theorem std_M_mayFollow_18 : decode stc_M_mayFollow 18 = .ok (.if_icmp .ge 49, 3) := by decide +kernel
theorem std_M_mayFollow_67 : decode stc_M_mayFollow 67 = .ok (.iload 4, 2) := by decide +kernel
theorem std_M_mayFollow_69 : decode stc_M_mayFollow 69 = .ok (.ireturn, 1) := by decide +kernel
theorem std_M_mayFollow_21 : decode stc_M_mayFollow 21 = .ok (.iload 4, 2) := by decide +kernel
theorem std_M_mayFollow_23 : decode stc_M_mayFollow 23 = .ok (.ifCond .ne 31, 3) := by decide +kernel
theorem std_M_mayFollow_54 : decode stc_M_mayFollow 54 = .ok (.iconst 1, 1) := by decide +kernel
theorem std_M_mayFollow_55 : decode stc_M_mayFollow 55 = .ok (.goto 4, 3) := by decide +kernel
theorem std_M_mayFollow_59 : decode stc_M_mayFollow 59 = .ok (.istore 4, 2) := by decide +kernel
theorem std_M_mayFollow_61 : decode stc_M_mayFollow 61 = .ok (.iinc 5 1, 3) := by decide +kernel
theorem std_M_mayFollow_64 : decode stc_M_mayFollow 64 = .ok (.goto (-50), 3) := by decide +kernel
theorem std_M_mayFollow_26 : decode stc_M_mayFollow 26 = .ok (.iload_n 2, 1) := by decide +kernel
theorem std_M_mayFollow_27 : decode stc_M_mayFollow 27 = .ok (.iload 5, 2) := by decide +kernel
theorem std_M_mayFollow_29 : decode stc_M_mayFollow 29 = .ok (.ishr, 1) := by decide +kernel
theorem std_M_mayFollow_30 : decode stc_M_mayFollow 30 = .ok (.iconst 1, 1) := by decide +kernel
theorem std_M_mayFollow_31 : decode stc_M_mayFollow 31 = .ok (.iand, 1) := by decide +kernel
theorem std_M_mayFollow_32 : decode stc_M_mayFollow 32 = .ok (.iconst 1, 1) := by decide +kernel
theorem std_M_mayFollow_33 : decode stc_M_mayFollow 33 = .ok (.if_icmp .ne 25, 3) := by decide +kernel
theorem std_M_mayFollow_58 : decode stc_M_mayFollow 58 = .ok (.iconst 0, 1) := by decide +kernel
theorem std_M_mayFollow_36 : decode stc_M_mayFollow 36 = .ok (.aload_n 0, 1) := by decide +kernel
theorem std_M_mayFollow_37 : decode stc_M_mayFollow 37 = .ok (.getfield 26, 3) := by decide +kernel
theorem std_M_mayFollow_40 : decode stc_M_mayFollow 40 = .ok (.aload_n 0, 1) := by decide +kernel
theorem std_M_mayFollow_41 : decode stc_M_mayFollow 41 = .ok (.iload_n 1, 1) := by decide +kernel
theorem std_M_mayFollow_42 : decode stc_M_mayFollow 42 = .ok (.iconst 1, 1) := by decide +kernel
theorem std_M_mayFollow_43 : decode stc_M_mayFollow 43 = .ok (.isub, 1) := by decide +kernel
theorem std_M_mayFollow_44 : decode stc_M_mayFollow 44 = .ok (.iload 5, 2) := by decide +kernel
theorem std_M_mayFollow_46 : decode stc_M_mayFollow 46 = .ok (.iload_n 3, 1) := by decide +kernel
theorem std_M_mayFollow_47 : decode stc_M_mayFollow 47 = .ok (.invokevirtual 115, 3) := by decide +kernel
theorem std_M_mayFollow_50 : decode stc_M_mayFollow 50 = .ok (.baload, 1) := by decide +kernel
theorem std_M_mayFollow_51 : decode stc_M_mayFollow 51 = .ok (.ifCond .ne 7, 3) := by decide +kernel
theorem std_M_mayFollow_4 : decode stc_M_mayFollow 4 = .ok (.iconst 1, 1) := by decide +kernel
theorem std_M_mayFollow_5 : decode stc_M_mayFollow 5 = .ok (.goto 4, 3) := by decide +kernel
set_option maxHeartbeats 4000000 in
set_option maxRecDepth 100000 in
theorem c_m_mayFollow (l : Launch) (dC : Nat → ClassId) (dI : Nat → Nat → Nat) (cI cJ cZ : ClassId) (m0 : Nat) (k_ch : Nat) (k_co : Nat) (k_ua : Nat) (k_ub : Nat) (k_ba : Nat) (k_rt : Nat) (k_rf : Nat) (k_ct : Nat) (k_cf : Nat) (k_nd : Nat) (k_na : Nat) (k_no : Nat) (k_bt : Nat) (k_bc : Nat) (k_br : Nat) (k_pc : Nat) (k_pr : Nat) (k_la : Nat) (k_lb : Nat) (k_ha : Nat) (k_hb : Nat) (k_ls : Nat) (k_wc : Nat) (HM : Prop) (bg : Int) (pn : Int) (wd : Int) (mg : Int) (mw : Int) (mc : Int) (steps : Int) (fle : Int → Int) (fmo : Int → Int) (fba : Int → Int) (fbb : Int → Int) (a : Int) (b : Int) (d : Int) (kBR : BR fbb fba) (ka : 0 ≤ a ∧ a < 12) (kb : 0 ≤ b ∧ b < 64) (kd : 0 ≤ d ∧ d < 6) (ks : ¬ b = 0 → 1 ≤ a) : ∀ sz, Met l sty_M_mayFollow (Cond.code sty_M_mayFollow stc_M_mayFollow 6 (some .boolean) :: stGW) ({ frames := 1, cells := 0, slots := 0, locals := 23 } : Room) (va_Pc [.ref m0, .int (iI a), .int (iI b), .int (iI d)] (zPre (dC, dI) stCl [(cI, .int), (cJ, .long), (cZ, .boolean)] st_nw [(m0, .inr (5, [.int (iI 0), .int (iI steps), .ref k_ch, .ref k_co, .ref k_ua, .ref k_ub, .ref k_ba, .int (iI (fle 0)), .int (iI (fle 1)), .int (iI (fmo 0)), .int (iI (fmo 1)), .int (iI (bI HM)), .ref k_rt, .ref k_rf, .ref k_ct, .ref k_cf, .ref k_nd, .ref k_na, .ref k_no, .ref k_bt, .ref k_bc, .ref k_br, .int (iI bg), .int (iI pn), .ref k_pc, .ref k_pr, .ref k_la, .ref k_lb, .ref k_ha, .ref k_hb, .ref k_ls, .ref k_wc, .int (iI wd), .int (iI mg), .int (iI mw), .int (iI mc)])), (k_ba, .inl (cZ, aI 468 fba))] sz)) (va_Qi (fun (r : Int32) (_ : Unit) => r = iI (bI (¬ msk b (fbb ((a * 6) + d))))) (zPost (dC, dI) stCl [(cI, .int), (cJ, .long), (cZ, .boolean)] [(m0, .inr (5, [.int (iI 0), .int (iI steps), .ref k_ch, .ref k_co, .ref k_ua, .ref k_ub, .ref k_ba, .int (iI (fle 0)), .int (iI (fle 1)), .int (iI (fmo 0)), .int (iI (fmo 1)), .int (iI (bI HM)), .ref k_rt, .ref k_rf, .ref k_ct, .ref k_cf, .ref k_nd, .ref k_na, .ref k_no, .ref k_bt, .ref k_bc, .ref k_br, .int (iI bg), .int (iI pn), .ref k_pc, .ref k_pr, .ref k_la, .ref k_lb, .ref k_ha, .ref k_hb, .ref k_ls, .ref k_wc, .int (iI wd), .int (iI mg), .int (iI mw), .int (iI mc)])), (k_ba, .inl (cZ, aI 468 fba))] sz (fun _ : Unit => [(m0, .inr (5, [.int (iI 0), .int (iI steps), .ref k_ch, .ref k_co, .ref k_ua, .ref k_ub, .ref k_ba, .int (iI (fle 0)), .int (iI (fle 1)), .int (iI (fmo 0)), .int (iI (fmo 1)), .int (iI (bI HM)), .ref k_rt, .ref k_rf, .ref k_ct, .ref k_cf, .ref k_nd, .ref k_na, .ref k_no, .ref k_bt, .ref k_bc, .ref k_br, .int (iI bg), .int (iI pn), .ref k_pc, .ref k_pr, .ref k_la, .ref k_lb, .ref k_ha, .ref k_hb, .ref k_ls, .ref k_wc, .int (iI wd), .int (iI mg), .int (iI mw), .int (iI mc)])), (k_ba, .inl (cZ, aI 468 fba))])) (va_A [(m0, .inr (5, [.int (iI 0), .int (iI steps), .ref k_ch, .ref k_co, .ref k_ua, .ref k_ub, .ref k_ba, .int (iI (fle 0)), .int (iI (fle 1)), .int (iI (fmo 0)), .int (iI (fmo 1)), .int (iI (bI HM)), .ref k_rt, .ref k_rf, .ref k_ct, .ref k_cf, .ref k_nd, .ref k_na, .ref k_no, .ref k_bt, .ref k_bc, .ref k_br, .int (iI bg), .int (iI pn), .ref k_pc, .ref k_pr, .ref k_la, .ref k_lb, .ref k_ha, .ref k_hb, .ref k_ls, .ref k_wc, .int (iI wd), .int (iI mg), .int (iI mw), .int (iI mc)])), (k_ba, .inl (cZ, aI 468 fba))] sz)) 0 0 (va_A [(m0, .inr (5, [.int (iI 0), .int (iI steps), .ref k_ch, .ref k_co, .ref k_ua, .ref k_ub, .ref k_ba, .int (iI (fle 0)), .int (iI (fle 1)), .int (iI (fmo 0)), .int (iI (fmo 1)), .int (iI (bI HM)), .ref k_rt, .ref k_rf, .ref k_ct, .ref k_cf, .ref k_nd, .ref k_na, .ref k_no, .ref k_bt, .ref k_bc, .ref k_br, .int (iI bg), .int (iI pn), .ref k_pc, .ref k_pr, .ref k_la, .ref k_lb, .ref k_ha, .ref k_hb, .ref k_ls, .ref k_wc, .int (iI wd), .int (iI mg), .int (iI mw), .int (iI mc)])), (k_ba, .inl (cZ, aI 468 fba))] sz) := by
  refine met_z (by decide) rfl (Nat.le_of_ble_eq_true rfl) ?_
  intro p e s m below meth c A Q C hmn hret
  refine g_iload_n C 2 std_M_mayFollow_0 rfl ?_
  refine g_if_ne (tgt := 8) C std_M_mayFollow_1 (by decide) ⟨by omega, by omega⟩ (fun c1 => ?_) (fun c1 => ?_)
  · refine g_iconst C std_M_mayFollow_8 ?_
    refine g_istore C (lv' := [(4, .int (iI 0)), (0, .ref m0), (1, .int (iI a)), (2, .int (iI b)), (3, .int (iI d))]) std_M_mayFollow_9 (by decide) rfl ?_
    refine g_iconst C std_M_mayFollow_11 ?_
    refine g_istore C (lv' := [(5, .int (iI 0)), (4, .int (iI 0)), (0, .ref m0), (1, .int (iI a)), (2, .int (iI b)), (3, .int (iI d))]) std_M_mayFollow_12 (by decide) rfl ?_
    have L14 : ∀ (nn14 : Nat) (x : Int) (z : Int), (0 ≤ x ∧ x ≤ 6) → MY b (fbb ((a * 6) + d)) x z → (6 - x) < (nn14 : Int) → G p l e ({ frames := 1, cells := 0, slots := 0, locals := 23 } : Room) s m ([.ref m0, .int (iI a), .int (iI b), .int (iI d)] : List Value).toArray below meth c (dC, dI) stCl 6 A 0 0 Q [(m0, .inr (5, [.int (iI 0), .int (iI steps), .ref k_ch, .ref k_co, .ref k_ua, .ref k_ub, .ref k_ba, .int (iI (fle 0)), .int (iI (fle 1)), .int (iI (fmo 0)), .int (iI (fmo 1)), .int (iI (bI HM)), .ref k_rt, .ref k_rf, .ref k_ct, .ref k_cf, .ref k_nd, .ref k_na, .ref k_no, .ref k_bt, .ref k_bc, .ref k_br, .int (iI bg), .int (iI pn), .ref k_pc, .ref k_pr, .ref k_la, .ref k_lb, .ref k_ha, .ref k_hb, .ref k_ls, .ref k_wc, .int (iI wd), .int (iI mg), .int (iI mw), .int (iI mc)])), (k_ba, .inl (cZ, aI 468 fba))] 14 [(5, .int (iI x)), (4, .int (iI z)), (3, .int (iI d)), (2, .int (iI b)), (1, .int (iI a)), (0, .ref m0)] [] := by
      intro nn14
      induction nn14 with
      | zero =>
        intro x z kx kz hnn14
        exact absurd hnn14 (by omega)
      | succ nn14 ih14 =>
        intro x z kx kz hnn14
        refine g_iload C 0 std_M_mayFollow_14 rfl ?_
        refine g_bipush C std_M_mayFollow_16 (by decide) ?_
        refine g_icmp_ge (tgt := 67) C std_M_mayFollow_18 (by decide) ⟨by omega, by omega⟩ ⟨by omega, by omega⟩ (fun c2 => ?_) (fun c2 => ?_)
        · refine g_iload C 1 std_M_mayFollow_67 rfl ?_
          refine g_st (st' := [.int (iI (bI (¬ msk b (fbb ((a * 6) + d)))))]) (by rw [my_e (by omega) kz]) ?_
          exact hret _ _ _ () (rfl) (z_bI _) std_M_mayFollow_69
        · have hz01 := my_01 kz
          refine g_iload C 1 std_M_mayFollow_21 rfl ?_
          refine g_if_ne (tgt := 54) C std_M_mayFollow_23 (by decide) ⟨by omega, by omega⟩ (fun c3 => ?_) (fun c3 => ?_)
          · refine g_iconst C std_M_mayFollow_54 ?_
            refine g_goto (tgt := 59) C std_M_mayFollow_55 (by decide) ?_
            refine g_istore C (lv' := [(4, .int (iI 1)), (5, .int (iI x)), (3, .int (iI d)), (2, .int (iI b)), (1, .int (iI a)), (0, .ref m0)]) std_M_mayFollow_59 (by decide) rfl ?_
            refine g_iinc C (lv' := [(5, .int (iI (x + 1))), (4, .int (iI 1)), (3, .int (iI d)), (2, .int (iI b)), (1, .int (iI a)), (0, .ref m0)]) 1 std_M_mayFollow_61 rfl (by decide) rfl ?_
            refine g_goto (tgt := 14) C std_M_mayFollow_64 (by decide) ?_
            exact ih14 (x + 1) 1 (by omega) (Or.inl ⟨rfl, mf_k (by omega) kz⟩) (by omega)
          · have hpw : (0 : Int) < 2 ^ x.toNat := Int.pow_pos (by omega)
            have hd0 : 0 ≤ b / 2 ^ x.toNat := Int.ediv_nonneg (by omega) (by omega)
            have hd1 : b / 2 ^ x.toNat ≤ b := Int.ediv_le_self _ (by omega)
            refine g_iload_n C 3 std_M_mayFollow_26 rfl ?_
            refine g_iload C 0 std_M_mayFollow_27 rfl ?_
            refine g_ishr C (d := (2 ^ (x).toNat)) std_M_mayFollow_29 ⟨by omega, by omega⟩ (by omega) (by omega) rfl ?_
            refine g_iconst C std_M_mayFollow_30 ?_
            refine g_iand C std_M_mayFollow_31 (iI_andK (d := 2) 1 (by decide) (by decide) (by decide)) ?_
            refine g_iconst C std_M_mayFollow_32 ?_
            refine g_icmp_ne (tgt := 58) C std_M_mayFollow_33 (by decide) ⟨by omega, by omega⟩ ⟨by omega, by omega⟩ (fun c4 => ?_) (fun c4 => ?_)
            · refine g_iconst C std_M_mayFollow_58 ?_
              refine g_istore C (lv' := [(4, .int (iI 0)), (5, .int (iI x)), (3, .int (iI d)), (2, .int (iI b)), (1, .int (iI a)), (0, .ref m0)]) std_M_mayFollow_59 (by decide) rfl ?_
              refine g_iinc C (lv' := [(5, .int (iI (x + 1))), (4, .int (iI 0)), (3, .int (iI d)), (2, .int (iI b)), (1, .int (iI a)), (0, .ref m0)]) 1 std_M_mayFollow_61 rfl (by decide) rfl ?_
              refine g_goto (tgt := 14) C std_M_mayFollow_64 (by decide) ?_
              exact ih14 (x + 1) 0 (by omega) (Or.inr ⟨rfl, mf_n (by omega) kz (by omega)⟩) (by omega)
            · have hs1 := ks (fun q => by subst q; rw [Int.zero_ediv] at c4; omega)
              have hbr := kBR.2 a d x (by omega) (by omega) (by omega) (by omega) (by omega) (by omega)
              have hb01 := kBR.1 (36 * (a - 1) + 6 * x + d)
              refine g_aload_n C 5 std_M_mayFollow_36 rfl ?_
              refine g_get C (st_sub sti_M) 0 rfl rfl 6 (by decide) (List.mem_cons_of_mem _ kw_3_72) rfl rfl std_M_mayFollow_37 ?_
              refine g_aload_n C 5 std_M_mayFollow_40 rfl ?_
              refine g_iload_n C 4 std_M_mayFollow_41 rfl ?_
              refine g_iconst C std_M_mayFollow_42 ?_
              refine g_isub C std_M_mayFollow_43 ?_
              refine g_iload C 0 std_M_mayFollow_44 rfl ?_
              refine g_iload_n C 2 std_M_mayFollow_46 rfl ?_
              refine g_V_i (wc := [(m0, .inr (5, [.int (iI 0), .int (iI steps), .ref k_ch, .ref k_co, .ref k_ua, .ref k_ub, .ref k_ba, .int (iI (fle 0)), .int (iI (fle 1)), .int (iI (fmo 0)), .int (iI (fmo 1)), .int (iI (bI HM)), .ref k_rt, .ref k_rf, .ref k_ct, .ref k_cf, .ref k_nd, .ref k_na, .ref k_no, .ref k_bt, .ref k_bc, .ref k_br, .int (iI bg), .int (iI pn), .ref k_pc, .ref k_pr, .ref k_la, .ref k_lb, .ref k_ha, .ref k_hb, .ref k_ls, .ref k_wc, .int (iI wd), .int (iI mg), .int (iI mw), .int (iI mc)]))]) (wr := [(k_ba, .inl (cZ, aI 468 fba))]) (rest := [.ref k_ba]) C (c_m_pair l dC dI cI cJ cZ m0 k_ch k_co k_ua k_ub k_ba k_rt k_rf k_ct k_cf k_nd k_na k_no k_bt k_bc k_br k_pc k_pr k_la k_lb k_ha k_hb k_ls k_wc HM bg pn wd mg mw mc steps fle fmo (a - 1) x d ) (st_cV C kw_3_208 kw_3_205 kw_1_6 kw_3_207 kw_0_19 sth_M_pair ⟨Nat.le_of_ble_eq_true rfl, Nat.le_of_ble_eq_true rfl⟩) 0 rfl rfl rfl rfl (Nat.le_of_ble_eq_true rfl) std_M_mayFollow_47 ⟨Nat.le_of_ble_eq_true rfl, Nat.le_of_ble_eq_true rfl⟩ [0] [1] rfl rfl rfl rfl (by decide) (fun r5 u6 h7 => ?_)
              subst h7
              refine g_ws (ws' := [(k_ba, .inl (cZ, aI 468 fba)), (m0, .inr (5, [.int (iI 0), .int (iI steps), .ref k_ch, .ref k_co, .ref k_ua, .ref k_ub, .ref k_ba, .int (iI (fle 0)), .int (iI (fle 1)), .int (iI (fmo 0)), .int (iI (fmo 1)), .int (iI (bI HM)), .ref k_rt, .ref k_rf, .ref k_ct, .ref k_cf, .ref k_nd, .ref k_na, .ref k_no, .ref k_bt, .ref k_bc, .ref k_br, .int (iI bg), .int (iI pn), .ref k_pc, .ref k_pr, .ref k_la, .ref k_lb, .ref k_ha, .ref k_hb, .ref k_ls, .ref k_wc, .int (iI wd), .int (iI mg), .int (iI mw), .int (iI mc)]))]) rfl ?_
              refine g_zald C 0 2 rfl rfl (by omega) (by omega) (by omega) std_M_mayFollow_50 ?_
              refine g_if_ne (tgt := 58) C std_M_mayFollow_51 (by decide) ⟨by omega, by omega⟩ (fun c8 => ?_) (fun c8 => ?_)
              · refine g_iconst C std_M_mayFollow_58 ?_
                refine g_istore C (lv' := [(4, .int (iI 0)), (5, .int (iI x)), (3, .int (iI d)), (2, .int (iI b)), (1, .int (iI a)), (0, .ref m0)]) std_M_mayFollow_59 (by decide) rfl ?_
                refine g_iinc C (lv' := [(5, .int (iI (x + 1))), (4, .int (iI 0)), (3, .int (iI d)), (2, .int (iI b)), (1, .int (iI a)), (0, .ref m0)]) 1 std_M_mayFollow_61 rfl (by decide) rfl ?_
                refine g_goto (tgt := 14) C std_M_mayFollow_64 (by decide) ?_
                refine g_sub (ws' := [(m0, .inr (5, [.int (iI 0), .int (iI steps), .ref k_ch, .ref k_co, .ref k_ua, .ref k_ub, .ref k_ba, .int (iI (fle 0)), .int (iI (fle 1)), .int (iI (fmo 0)), .int (iI (fmo 1)), .int (iI (bI HM)), .ref k_rt, .ref k_rf, .ref k_ct, .ref k_cf, .ref k_nd, .ref k_na, .ref k_no, .ref k_bt, .ref k_bc, .ref k_br, .int (iI bg), .int (iI pn), .ref k_pc, .ref k_pr, .ref k_la, .ref k_lb, .ref k_ha, .ref k_hb, .ref k_ls, .ref k_wc, .int (iI wd), .int (iI mg), .int (iI mw), .int (iI mc)])), (k_ba, .inl (cZ, aI 468 fba))]) [1, 0] rfl rfl ?_
                refine g_wide (k := 0) (n := 0) (Nat.le_of_ble_eq_true rfl) (Nat.le_of_ble_eq_true rfl) ?_
                exact ih14 (x + 1) 0 (by omega) (Or.inr ⟨rfl, mf_n (by omega) kz (by omega)⟩) (by omega)
              · refine g_iconst C std_M_mayFollow_54 ?_
                refine g_goto (tgt := 59) C std_M_mayFollow_55 (by decide) ?_
                refine g_istore C (lv' := [(4, .int (iI 1)), (5, .int (iI x)), (3, .int (iI d)), (2, .int (iI b)), (1, .int (iI a)), (0, .ref m0)]) std_M_mayFollow_59 (by decide) rfl ?_
                refine g_iinc C (lv' := [(5, .int (iI (x + 1))), (4, .int (iI 1)), (3, .int (iI d)), (2, .int (iI b)), (1, .int (iI a)), (0, .ref m0)]) 1 std_M_mayFollow_61 rfl (by decide) rfl ?_
                refine g_goto (tgt := 14) C std_M_mayFollow_64 (by decide) ?_
                refine g_sub (ws' := [(m0, .inr (5, [.int (iI 0), .int (iI steps), .ref k_ch, .ref k_co, .ref k_ua, .ref k_ub, .ref k_ba, .int (iI (fle 0)), .int (iI (fle 1)), .int (iI (fmo 0)), .int (iI (fmo 1)), .int (iI (bI HM)), .ref k_rt, .ref k_rf, .ref k_ct, .ref k_cf, .ref k_nd, .ref k_na, .ref k_no, .ref k_bt, .ref k_bc, .ref k_br, .int (iI bg), .int (iI pn), .ref k_pc, .ref k_pr, .ref k_la, .ref k_lb, .ref k_ha, .ref k_hb, .ref k_ls, .ref k_wc, .int (iI wd), .int (iI mg), .int (iI mw), .int (iI mc)])), (k_ba, .inl (cZ, aI 468 fba))]) [1, 0] rfl rfl ?_
                refine g_wide (k := 0) (n := 0) (Nat.le_of_ble_eq_true rfl) (Nat.le_of_ble_eq_true rfl) ?_
                exact ih14 (x + 1) 1 (by omega) (Or.inl ⟨rfl, Or.inr ⟨x, ⟨by omega, by omega⟩, by omega, by omega⟩⟩) (by omega)
    refine g_lv (lv' := [(5, .int (iI 0)), (4, .int (iI 0)), (3, .int (iI d)), (2, .int (iI b)), (1, .int (iI a)), (0, .ref m0)]) [0, 1, 5, 4, 3, 2] rfl ?_
    obtain ⟨nn0, hnn0⟩ : ∃ nn0 : Nat, (6 - 0) < (nn0 : Int) := z_nat _
    exact L14 nn0 0 0 (by omega) (Or.inr ⟨rfl, by omega, fun j j1 j2 => by omega⟩) hnn0
  · refine g_iconst C std_M_mayFollow_4 ?_
    refine g_goto (tgt := 9) C std_M_mayFollow_5 (by decide) ?_
    refine g_istore C (lv' := [(4, .int (iI 1)), (0, .ref m0), (1, .int (iI a)), (2, .int (iI b)), (3, .int (iI d))]) std_M_mayFollow_9 (by decide) rfl ?_
    refine g_iconst C std_M_mayFollow_11 ?_
    refine g_istore C (lv' := [(5, .int (iI 0)), (4, .int (iI 1)), (0, .ref m0), (1, .int (iI a)), (2, .int (iI b)), (3, .int (iI d))]) std_M_mayFollow_12 (by decide) rfl ?_
    have L14 : ∀ (nn14 : Nat) (x : Int) (z : Int), (0 ≤ x ∧ x ≤ 6) → MY b (fbb ((a * 6) + d)) x z → (6 - x) < (nn14 : Int) → G p l e ({ frames := 1, cells := 0, slots := 0, locals := 23 } : Room) s m ([.ref m0, .int (iI a), .int (iI b), .int (iI d)] : List Value).toArray below meth c (dC, dI) stCl 6 A 0 0 Q [(m0, .inr (5, [.int (iI 0), .int (iI steps), .ref k_ch, .ref k_co, .ref k_ua, .ref k_ub, .ref k_ba, .int (iI (fle 0)), .int (iI (fle 1)), .int (iI (fmo 0)), .int (iI (fmo 1)), .int (iI (bI HM)), .ref k_rt, .ref k_rf, .ref k_ct, .ref k_cf, .ref k_nd, .ref k_na, .ref k_no, .ref k_bt, .ref k_bc, .ref k_br, .int (iI bg), .int (iI pn), .ref k_pc, .ref k_pr, .ref k_la, .ref k_lb, .ref k_ha, .ref k_hb, .ref k_ls, .ref k_wc, .int (iI wd), .int (iI mg), .int (iI mw), .int (iI mc)])), (k_ba, .inl (cZ, aI 468 fba))] 14 [(5, .int (iI x)), (4, .int (iI z)), (3, .int (iI d)), (2, .int (iI b)), (1, .int (iI a)), (0, .ref m0)] [] := by
      intro nn14
      induction nn14 with
      | zero =>
        intro x z kx kz hnn14
        exact absurd hnn14 (by omega)
      | succ nn14 ih14 =>
        intro x z kx kz hnn14
        refine g_iload C 0 std_M_mayFollow_14 rfl ?_
        refine g_bipush C std_M_mayFollow_16 (by decide) ?_
        refine g_icmp_ge (tgt := 67) C std_M_mayFollow_18 (by decide) ⟨by omega, by omega⟩ ⟨by omega, by omega⟩ (fun c9 => ?_) (fun c9 => ?_)
        · refine g_iload C 1 std_M_mayFollow_67 rfl ?_
          refine g_st (st' := [.int (iI (bI (¬ msk b (fbb ((a * 6) + d)))))]) (by rw [my_e (by omega) kz]) ?_
          exact hret _ _ _ () (rfl) (z_bI _) std_M_mayFollow_69
        · have hz01 := my_01 kz
          refine g_iload C 1 std_M_mayFollow_21 rfl ?_
          refine g_if_ne (tgt := 54) C std_M_mayFollow_23 (by decide) ⟨by omega, by omega⟩ (fun c10 => ?_) (fun c10 => ?_)
          · refine g_iconst C std_M_mayFollow_54 ?_
            refine g_goto (tgt := 59) C std_M_mayFollow_55 (by decide) ?_
            refine g_istore C (lv' := [(4, .int (iI 1)), (5, .int (iI x)), (3, .int (iI d)), (2, .int (iI b)), (1, .int (iI a)), (0, .ref m0)]) std_M_mayFollow_59 (by decide) rfl ?_
            refine g_iinc C (lv' := [(5, .int (iI (x + 1))), (4, .int (iI 1)), (3, .int (iI d)), (2, .int (iI b)), (1, .int (iI a)), (0, .ref m0)]) 1 std_M_mayFollow_61 rfl (by decide) rfl ?_
            refine g_goto (tgt := 14) C std_M_mayFollow_64 (by decide) ?_
            exact ih14 (x + 1) 1 (by omega) (Or.inl ⟨rfl, mf_k (by omega) kz⟩) (by omega)
          · have hpw : (0 : Int) < 2 ^ x.toNat := Int.pow_pos (by omega)
            have hd0 : 0 ≤ b / 2 ^ x.toNat := Int.ediv_nonneg (by omega) (by omega)
            have hd1 : b / 2 ^ x.toNat ≤ b := Int.ediv_le_self _ (by omega)
            refine g_iload_n C 3 std_M_mayFollow_26 rfl ?_
            refine g_iload C 0 std_M_mayFollow_27 rfl ?_
            refine g_ishr C (d := (2 ^ (x).toNat)) std_M_mayFollow_29 ⟨by omega, by omega⟩ (by omega) (by omega) rfl ?_
            refine g_iconst C std_M_mayFollow_30 ?_
            refine g_iand C std_M_mayFollow_31 (iI_andK (d := 2) 1 (by decide) (by decide) (by decide)) ?_
            refine g_iconst C std_M_mayFollow_32 ?_
            refine g_icmp_ne (tgt := 58) C std_M_mayFollow_33 (by decide) ⟨by omega, by omega⟩ ⟨by omega, by omega⟩ (fun c11 => ?_) (fun c11 => ?_)
            · refine g_iconst C std_M_mayFollow_58 ?_
              refine g_istore C (lv' := [(4, .int (iI 0)), (5, .int (iI x)), (3, .int (iI d)), (2, .int (iI b)), (1, .int (iI a)), (0, .ref m0)]) std_M_mayFollow_59 (by decide) rfl ?_
              refine g_iinc C (lv' := [(5, .int (iI (x + 1))), (4, .int (iI 0)), (3, .int (iI d)), (2, .int (iI b)), (1, .int (iI a)), (0, .ref m0)]) 1 std_M_mayFollow_61 rfl (by decide) rfl ?_
              refine g_goto (tgt := 14) C std_M_mayFollow_64 (by decide) ?_
              exact ih14 (x + 1) 0 (by omega) (Or.inr ⟨rfl, mf_n (by omega) kz (by omega)⟩) (by omega)
            · have hs1 := ks (fun q => by subst q; rw [Int.zero_ediv] at c11; omega)
              have hbr := kBR.2 a d x (by omega) (by omega) (by omega) (by omega) (by omega) (by omega)
              have hb01 := kBR.1 (36 * (a - 1) + 6 * x + d)
              refine g_aload_n C 5 std_M_mayFollow_36 rfl ?_
              refine g_get C (st_sub sti_M) 0 rfl rfl 6 (by decide) (List.mem_cons_of_mem _ kw_3_72) rfl rfl std_M_mayFollow_37 ?_
              refine g_aload_n C 5 std_M_mayFollow_40 rfl ?_
              refine g_iload_n C 4 std_M_mayFollow_41 rfl ?_
              refine g_iconst C std_M_mayFollow_42 ?_
              refine g_isub C std_M_mayFollow_43 ?_
              refine g_iload C 0 std_M_mayFollow_44 rfl ?_
              refine g_iload_n C 2 std_M_mayFollow_46 rfl ?_
              refine g_V_i (wc := [(m0, .inr (5, [.int (iI 0), .int (iI steps), .ref k_ch, .ref k_co, .ref k_ua, .ref k_ub, .ref k_ba, .int (iI (fle 0)), .int (iI (fle 1)), .int (iI (fmo 0)), .int (iI (fmo 1)), .int (iI (bI HM)), .ref k_rt, .ref k_rf, .ref k_ct, .ref k_cf, .ref k_nd, .ref k_na, .ref k_no, .ref k_bt, .ref k_bc, .ref k_br, .int (iI bg), .int (iI pn), .ref k_pc, .ref k_pr, .ref k_la, .ref k_lb, .ref k_ha, .ref k_hb, .ref k_ls, .ref k_wc, .int (iI wd), .int (iI mg), .int (iI mw), .int (iI mc)]))]) (wr := [(k_ba, .inl (cZ, aI 468 fba))]) (rest := [.ref k_ba]) C (c_m_pair l dC dI cI cJ cZ m0 k_ch k_co k_ua k_ub k_ba k_rt k_rf k_ct k_cf k_nd k_na k_no k_bt k_bc k_br k_pc k_pr k_la k_lb k_ha k_hb k_ls k_wc HM bg pn wd mg mw mc steps fle fmo (a - 1) x d ) (st_cV C kw_3_208 kw_3_205 kw_1_6 kw_3_207 kw_0_19 sth_M_pair ⟨Nat.le_of_ble_eq_true rfl, Nat.le_of_ble_eq_true rfl⟩) 0 rfl rfl rfl rfl (Nat.le_of_ble_eq_true rfl) std_M_mayFollow_47 ⟨Nat.le_of_ble_eq_true rfl, Nat.le_of_ble_eq_true rfl⟩ [0] [1] rfl rfl rfl rfl (by decide) (fun r12 u13 h14 => ?_)
              subst h14
              refine g_ws (ws' := [(k_ba, .inl (cZ, aI 468 fba)), (m0, .inr (5, [.int (iI 0), .int (iI steps), .ref k_ch, .ref k_co, .ref k_ua, .ref k_ub, .ref k_ba, .int (iI (fle 0)), .int (iI (fle 1)), .int (iI (fmo 0)), .int (iI (fmo 1)), .int (iI (bI HM)), .ref k_rt, .ref k_rf, .ref k_ct, .ref k_cf, .ref k_nd, .ref k_na, .ref k_no, .ref k_bt, .ref k_bc, .ref k_br, .int (iI bg), .int (iI pn), .ref k_pc, .ref k_pr, .ref k_la, .ref k_lb, .ref k_ha, .ref k_hb, .ref k_ls, .ref k_wc, .int (iI wd), .int (iI mg), .int (iI mw), .int (iI mc)]))]) rfl ?_
              refine g_zald C 0 2 rfl rfl (by omega) (by omega) (by omega) std_M_mayFollow_50 ?_
              refine g_if_ne (tgt := 58) C std_M_mayFollow_51 (by decide) ⟨by omega, by omega⟩ (fun c15 => ?_) (fun c15 => ?_)
              · refine g_iconst C std_M_mayFollow_58 ?_
                refine g_istore C (lv' := [(4, .int (iI 0)), (5, .int (iI x)), (3, .int (iI d)), (2, .int (iI b)), (1, .int (iI a)), (0, .ref m0)]) std_M_mayFollow_59 (by decide) rfl ?_
                refine g_iinc C (lv' := [(5, .int (iI (x + 1))), (4, .int (iI 0)), (3, .int (iI d)), (2, .int (iI b)), (1, .int (iI a)), (0, .ref m0)]) 1 std_M_mayFollow_61 rfl (by decide) rfl ?_
                refine g_goto (tgt := 14) C std_M_mayFollow_64 (by decide) ?_
                refine g_sub (ws' := [(m0, .inr (5, [.int (iI 0), .int (iI steps), .ref k_ch, .ref k_co, .ref k_ua, .ref k_ub, .ref k_ba, .int (iI (fle 0)), .int (iI (fle 1)), .int (iI (fmo 0)), .int (iI (fmo 1)), .int (iI (bI HM)), .ref k_rt, .ref k_rf, .ref k_ct, .ref k_cf, .ref k_nd, .ref k_na, .ref k_no, .ref k_bt, .ref k_bc, .ref k_br, .int (iI bg), .int (iI pn), .ref k_pc, .ref k_pr, .ref k_la, .ref k_lb, .ref k_ha, .ref k_hb, .ref k_ls, .ref k_wc, .int (iI wd), .int (iI mg), .int (iI mw), .int (iI mc)])), (k_ba, .inl (cZ, aI 468 fba))]) [1, 0] rfl rfl ?_
                refine g_wide (k := 0) (n := 0) (Nat.le_of_ble_eq_true rfl) (Nat.le_of_ble_eq_true rfl) ?_
                exact ih14 (x + 1) 0 (by omega) (Or.inr ⟨rfl, mf_n (by omega) kz (by omega)⟩) (by omega)
              · refine g_iconst C std_M_mayFollow_54 ?_
                refine g_goto (tgt := 59) C std_M_mayFollow_55 (by decide) ?_
                refine g_istore C (lv' := [(4, .int (iI 1)), (5, .int (iI x)), (3, .int (iI d)), (2, .int (iI b)), (1, .int (iI a)), (0, .ref m0)]) std_M_mayFollow_59 (by decide) rfl ?_
                refine g_iinc C (lv' := [(5, .int (iI (x + 1))), (4, .int (iI 1)), (3, .int (iI d)), (2, .int (iI b)), (1, .int (iI a)), (0, .ref m0)]) 1 std_M_mayFollow_61 rfl (by decide) rfl ?_
                refine g_goto (tgt := 14) C std_M_mayFollow_64 (by decide) ?_
                refine g_sub (ws' := [(m0, .inr (5, [.int (iI 0), .int (iI steps), .ref k_ch, .ref k_co, .ref k_ua, .ref k_ub, .ref k_ba, .int (iI (fle 0)), .int (iI (fle 1)), .int (iI (fmo 0)), .int (iI (fmo 1)), .int (iI (bI HM)), .ref k_rt, .ref k_rf, .ref k_ct, .ref k_cf, .ref k_nd, .ref k_na, .ref k_no, .ref k_bt, .ref k_bc, .ref k_br, .int (iI bg), .int (iI pn), .ref k_pc, .ref k_pr, .ref k_la, .ref k_lb, .ref k_ha, .ref k_hb, .ref k_ls, .ref k_wc, .int (iI wd), .int (iI mg), .int (iI mw), .int (iI mc)])), (k_ba, .inl (cZ, aI 468 fba))]) [1, 0] rfl rfl ?_
                refine g_wide (k := 0) (n := 0) (Nat.le_of_ble_eq_true rfl) (Nat.le_of_ble_eq_true rfl) ?_
                exact ih14 (x + 1) 1 (by omega) (Or.inl ⟨rfl, Or.inr ⟨x, ⟨by omega, by omega⟩, by omega, by omega⟩⟩) (by omega)
    refine g_lv (lv' := [(5, .int (iI 0)), (4, .int (iI 1)), (3, .int (iI d)), (2, .int (iI b)), (1, .int (iI a)), (0, .ref m0)]) [0, 1, 5, 4, 3, 2] rfl ?_
    obtain ⟨nn0, hnn0⟩ : ∃ nn0 : Nat, (6 - 0) < (nn0 : Int) := z_nat _
    exact L14 nn0 0 1 (by omega) (Or.inl ⟨rfl, Or.inl (by omega)⟩) hnn0

