/-! the model: isAhead, begin, findPlans -/
abbrev sty_M_isAhead : MethodName := ⟨"StateTablesModel", "isAhead", "(II)Z"⟩
abbrev stc_M_isAhead : ByteArray := prog_7_method_19_code
theorem sth_M_isAhead : (sty_M_isAhead).cls ≠ "java/lang/invoke/MethodHandle" ∧ (sty_M_isAhead).cls ≠ "java/lang/invoke/VarHandle" ∧ (parseMethodDescriptor (sty_M_isAhead).desc).map (fun d => d.parameters.length) = some 2 := by decide +kernel
theorem std_M_isAhead_0 : decode stc_M_isAhead 0 = .ok (.aload_n 0, 1) := by decide +kernel
theorem std_M_isAhead_1 : decode stc_M_isAhead 1 = .ok (.getfield 62, 3) := by decide +kernel
theorem kw_3_86 : Cond.fieldLink "StateTablesModel" 62 "StateTablesModel" "beginCost" "[I" ∈ stGW := st_t3 (List.mem_of_getElem? (i := 86) (by decide +kernel)) (by decide +kernel)
theorem std_M_isAhead_4 : decode stc_M_isAhead 4 = .ok (.iload_n 1, 1) := by decide +kernel
theorem std_M_isAhead_5 : decode stc_M_isAhead 5 = .ok (.iaload, 1) := by decide +kernel
theorem std_M_isAhead_6 : decode stc_M_isAhead 6 = .ok (.aload_n 0, 1) := by decide +kernel
theorem std_M_isAhead_7 : decode stc_M_isAhead 7 = .ok (.getfield 47, 3) := by decide +kernel
theorem std_M_isAhead_10 : decode stc_M_isAhead 10 = .ok (.aload_n 0, 1) := by decide +kernel
theorem std_M_isAhead_11 : decode stc_M_isAhead 11 = .ok (.getfield 59, 3) := by decide +kernel
theorem kw_3_85 : Cond.fieldLink "StateTablesModel" 59 "StateTablesModel" "beginAt" "[I" ∈ stGW := st_t3 (List.mem_of_getElem? (i := 85) (by decide +kernel)) (by decide +kernel)
theorem std_M_isAhead_14 : decode stc_M_isAhead 14 = .ok (.iload_n 1, 1) := by decide +kernel
theorem std_M_isAhead_15 : decode stc_M_isAhead 15 = .ok (.iaload, 1) := by decide +kernel
theorem std_M_isAhead_16 : decode stc_M_isAhead 16 = .ok (.iaload, 1) := by decide +kernel
theorem std_M_isAhead_17 : decode stc_M_isAhead 17 = .ok (.iadd, 1) := by decide +kernel
theorem std_M_isAhead_18 : decode stc_M_isAhead 18 = .ok (.istore_n 3, 1) := by decide +kernel
theorem std_M_isAhead_19 : decode stc_M_isAhead 19 = .ok (.aload_n 0, 1) := by decide +kernel
theorem std_M_isAhead_20 : decode stc_M_isAhead 20 = .ok (.getfield 62, 3) := by decide +kernel
theorem std_M_isAhead_23 : decode stc_M_isAhead 23 = .ok (.iload_n 2, 1) := by decide +kernel
theorem std_M_isAhead_24 : decode stc_M_isAhead 24 = .ok (.iaload, 1) := by decide +kernel
theorem std_M_isAhead_25 : decode stc_M_isAhead 25 = .ok (.aload_n 0, 1) := by decide +kernel
theorem std_M_isAhead_26 : decode stc_M_isAhead 26 = .ok (.getfield 47, 3) := by decide +kernel
theorem std_M_isAhead_29 : decode stc_M_isAhead 29 = .ok (.aload_n 0, 1) := by decide +kernel
theorem std_M_isAhead_30 : decode stc_M_isAhead 30 = .ok (.getfield 59, 3) := by decide +kernel
theorem std_M_isAhead_33 : decode stc_M_isAhead 33 = .ok (.iload_n 2, 1) := by decide +kernel
theorem std_M_isAhead_34 : decode stc_M_isAhead 34 = .ok (.iaload, 1) := by decide +kernel
theorem std_M_isAhead_35 : decode stc_M_isAhead 35 = .ok (.iaload, 1) := by decide +kernel
theorem std_M_isAhead_36 : decode stc_M_isAhead 36 = .ok (.iadd, 1) := by decide +kernel
theorem std_M_isAhead_37 : decode stc_M_isAhead 37 = .ok (.istore 4, 2) := by decide +kernel
theorem std_M_isAhead_39 : decode stc_M_isAhead 39 = .ok (.iload_n 3, 1) := by decide +kernel
theorem std_M_isAhead_40 : decode stc_M_isAhead 40 = .ok (.iload 4, 2) := by decide +kernel
theorem std_M_isAhead_42 : decode stc_M_isAhead 42 = .ok (.if_icmp .lt 25, 3) := by decide +kernel
theorem std_M_isAhead_67 : decode stc_M_isAhead 67 = .ok (.iconst 1, 1) := by decide +kernel
theorem std_M_isAhead_68 : decode stc_M_isAhead 68 = .ok (.goto 4, 3) := by decide +kernel
theorem std_M_isAhead_72 : decode stc_M_isAhead 72 = .ok (.ireturn, 1) := by decide +kernel
theorem std_M_isAhead_45 : decode stc_M_isAhead 45 = .ok (.iload_n 3, 1) := by decide +kernel
theorem std_M_isAhead_46 : decode stc_M_isAhead 46 = .ok (.iload 4, 2) := by decide +kernel
theorem std_M_isAhead_48 : decode stc_M_isAhead 48 = .ok (.if_icmp .ne 23, 3) := by decide +kernel
theorem std_M_isAhead_71 : decode stc_M_isAhead 71 = .ok (.iconst 0, 1) := by decide +kernel
theorem std_M_isAhead_51 : decode stc_M_isAhead 51 = .ok (.aload_n 0, 1) := by decide +kernel
theorem std_M_isAhead_52 : decode stc_M_isAhead 52 = .ok (.getfield 65, 3) := by decide +kernel
theorem kw_3_87 : Cond.fieldLink "StateTablesModel" 65 "StateTablesModel" "beginRow" "[J" ∈ stGW := st_t3 (List.mem_of_getElem? (i := 87) (by decide +kernel)) (by decide +kernel)
theorem std_M_isAhead_55 : decode stc_M_isAhead 55 = .ok (.iload_n 1, 1) := by decide +kernel
theorem std_M_isAhead_56 : decode stc_M_isAhead 56 = .ok (.laload, 1) := by decide +kernel
theorem std_M_isAhead_57 : decode stc_M_isAhead 57 = .ok (.aload_n 0, 1) := by decide +kernel
theorem std_M_isAhead_58 : decode stc_M_isAhead 58 = .ok (.getfield 65, 3) := by decide +kernel
theorem std_M_isAhead_61 : decode stc_M_isAhead 61 = .ok (.iload_n 2, 1) := by decide +kernel
theorem std_M_isAhead_62 : decode stc_M_isAhead 62 = .ok (.laload, 1) := by decide +kernel
theorem std_M_isAhead_63 : decode stc_M_isAhead 63 = .ok (.lcmp, 1) := by decide +kernel
theorem std_M_isAhead_64 : decode stc_M_isAhead 64 = .ok (.ifCond .ge 7, 3) := by decide +kernel
set_option maxHeartbeats 4000000 in
set_option maxRecDepth 100000 in
theorem c_m_isAhead (l : Launch) (dC : Nat → ClassId) (dI : Nat → Nat → Nat) (cI cJ cZ : ClassId) (m0 : Nat) (k_ch : Nat) (k_co : Nat) (k_ua : Nat) (k_ub : Nat) (k_ba : Nat) (k_rt : Nat) (k_rf : Nat) (k_ct : Nat) (k_cf : Nat) (k_nd : Nat) (k_na : Nat) (k_no : Nat) (k_bt : Nat) (k_bc : Nat) (k_br : Nat) (k_pc : Nat) (k_pr : Nat) (k_la : Nat) (k_lb : Nat) (k_ha : Nat) (k_hb : Nat) (k_ls : Nat) (k_wc : Nat) (HM : Prop) (bg : Int) (pn : Int) (wd : Int) (mg : Int) (mw : Int) (mc : Int) (steps : Int) (fle : Int → Int) (fmo : Int → Int) (gbt : Int → Int) (gbc : Int → Int) (gbr : Int → Int) (gcf : Int → Int) (a : Int) (b : Int) (ka : (0 ≤ a ∧ a < 3000) ∧ (0 ≤ gbt a ∧ gbt a < 152971) ∧ (-12000 ≤ gbc a ∧ gbc a ≤ 12000) ∧ (-12000 ≤ gcf (gbt a) ∧ gcf (gbt a) ≤ 12000) ∧ (0 ≤ gbr a ∧ gbr a < 68719476736)) (kb : (0 ≤ b ∧ b < 3000) ∧ (0 ≤ gbt b ∧ gbt b < 152971) ∧ (-12000 ≤ gbc b ∧ gbc b ≤ 12000) ∧ (-12000 ≤ gcf (gbt b) ∧ gcf (gbt b) ≤ 12000) ∧ (0 ≤ gbr b ∧ gbr b < 68719476736)) : ∀ sz, Met l sty_M_isAhead (Cond.code sty_M_isAhead stc_M_isAhead 5 (some .boolean) :: stGW) ({ frames := 0, cells := 0, slots := 0, locals := 0 } : Room) (va_Pc [.ref m0, .int (iI a), .int (iI b)] (zPre (dC, dI) stCl [(cI, .int), (cJ, .long), (cZ, .boolean)] st_nw [(m0, .inr (5, [.int (iI 0), .int (iI steps), .ref k_ch, .ref k_co, .ref k_ua, .ref k_ub, .ref k_ba, .int (iI (fle 0)), .int (iI (fle 1)), .int (iI (fmo 0)), .int (iI (fmo 1)), .int (iI (bI HM)), .ref k_rt, .ref k_rf, .ref k_ct, .ref k_cf, .ref k_nd, .ref k_na, .ref k_no, .ref k_bt, .ref k_bc, .ref k_br, .int (iI bg), .int (iI pn), .ref k_pc, .ref k_pr, .ref k_la, .ref k_lb, .ref k_ha, .ref k_hb, .ref k_ls, .ref k_wc, .int (iI wd), .int (iI mg), .int (iI mw), .int (iI mc)])), (k_bt, .inl (cI, aI 3000 gbt)), (k_bc, .inl (cI, aI 3000 gbc)), (k_br, .inl (cJ, aL 3000 gbr)), (k_cf, .inl (cI, aI 152971 gcf))] sz)) (va_Qi (fun (r : Int32) (_ : Unit) => r = iI (bI (cde gcf (gbt a) (gbc a) (gbr a) < cde gcf (gbt b) (gbc b) (gbr b)))) (zPost (dC, dI) stCl [(cI, .int), (cJ, .long), (cZ, .boolean)] [(m0, .inr (5, [.int (iI 0), .int (iI steps), .ref k_ch, .ref k_co, .ref k_ua, .ref k_ub, .ref k_ba, .int (iI (fle 0)), .int (iI (fle 1)), .int (iI (fmo 0)), .int (iI (fmo 1)), .int (iI (bI HM)), .ref k_rt, .ref k_rf, .ref k_ct, .ref k_cf, .ref k_nd, .ref k_na, .ref k_no, .ref k_bt, .ref k_bc, .ref k_br, .int (iI bg), .int (iI pn), .ref k_pc, .ref k_pr, .ref k_la, .ref k_lb, .ref k_ha, .ref k_hb, .ref k_ls, .ref k_wc, .int (iI wd), .int (iI mg), .int (iI mw), .int (iI mc)])), (k_bt, .inl (cI, aI 3000 gbt)), (k_bc, .inl (cI, aI 3000 gbc)), (k_br, .inl (cJ, aL 3000 gbr)), (k_cf, .inl (cI, aI 152971 gcf))] sz (fun _ : Unit => [(m0, .inr (5, [.int (iI 0), .int (iI steps), .ref k_ch, .ref k_co, .ref k_ua, .ref k_ub, .ref k_ba, .int (iI (fle 0)), .int (iI (fle 1)), .int (iI (fmo 0)), .int (iI (fmo 1)), .int (iI (bI HM)), .ref k_rt, .ref k_rf, .ref k_ct, .ref k_cf, .ref k_nd, .ref k_na, .ref k_no, .ref k_bt, .ref k_bc, .ref k_br, .int (iI bg), .int (iI pn), .ref k_pc, .ref k_pr, .ref k_la, .ref k_lb, .ref k_ha, .ref k_hb, .ref k_ls, .ref k_wc, .int (iI wd), .int (iI mg), .int (iI mw), .int (iI mc)])), (k_bt, .inl (cI, aI 3000 gbt)), (k_bc, .inl (cI, aI 3000 gbc)), (k_br, .inl (cJ, aL 3000 gbr)), (k_cf, .inl (cI, aI 152971 gcf))])) (va_A [(m0, .inr (5, [.int (iI 0), .int (iI steps), .ref k_ch, .ref k_co, .ref k_ua, .ref k_ub, .ref k_ba, .int (iI (fle 0)), .int (iI (fle 1)), .int (iI (fmo 0)), .int (iI (fmo 1)), .int (iI (bI HM)), .ref k_rt, .ref k_rf, .ref k_ct, .ref k_cf, .ref k_nd, .ref k_na, .ref k_no, .ref k_bt, .ref k_bc, .ref k_br, .int (iI bg), .int (iI pn), .ref k_pc, .ref k_pr, .ref k_la, .ref k_lb, .ref k_ha, .ref k_hb, .ref k_ls, .ref k_wc, .int (iI wd), .int (iI mg), .int (iI mw), .int (iI mc)])), (k_bt, .inl (cI, aI 3000 gbt)), (k_bc, .inl (cI, aI 3000 gbc)), (k_br, .inl (cJ, aL 3000 gbr)), (k_cf, .inl (cI, aI 152971 gcf))] sz)) 0 0 (va_A [(m0, .inr (5, [.int (iI 0), .int (iI steps), .ref k_ch, .ref k_co, .ref k_ua, .ref k_ub, .ref k_ba, .int (iI (fle 0)), .int (iI (fle 1)), .int (iI (fmo 0)), .int (iI (fmo 1)), .int (iI (bI HM)), .ref k_rt, .ref k_rf, .ref k_ct, .ref k_cf, .ref k_nd, .ref k_na, .ref k_no, .ref k_bt, .ref k_bc, .ref k_br, .int (iI bg), .int (iI pn), .ref k_pc, .ref k_pr, .ref k_la, .ref k_lb, .ref k_ha, .ref k_hb, .ref k_ls, .ref k_wc, .int (iI wd), .int (iI mg), .int (iI mw), .int (iI mc)])), (k_bt, .inl (cI, aI 3000 gbt)), (k_bc, .inl (cI, aI 3000 gbc)), (k_br, .inl (cJ, aL 3000 gbr)), (k_cf, .inl (cI, aI 152971 gcf))] sz) := by
  refine met_z (by decide) rfl (Nat.le_of_ble_eq_true rfl) ?_
  intro p e s m below meth c A Q C hmn hret
  refine g_aload_n C 0 std_M_isAhead_0 rfl ?_
  refine g_get C (st_sub sti_M) 0 rfl rfl 20 (by decide) (List.mem_cons_of_mem _ kw_3_86) rfl rfl std_M_isAhead_1 ?_
  refine g_iload_n C 1 std_M_isAhead_4 rfl ?_
  refine g_iald C 2 0 rfl rfl (by omega) (by omega) (by omega) std_M_isAhead_5 ?_
  refine g_aload_n C 0 std_M_isAhead_6 rfl ?_
  refine g_get C (st_sub sti_M) 0 rfl rfl 15 (by decide) (List.mem_cons_of_mem _ kw_3_81) rfl rfl std_M_isAhead_7 ?_
  refine g_aload_n C 0 std_M_isAhead_10 rfl ?_
  refine g_get C (st_sub sti_M) 0 rfl rfl 19 (by decide) (List.mem_cons_of_mem _ kw_3_85) rfl rfl std_M_isAhead_11 ?_
  refine g_iload_n C 1 std_M_isAhead_14 rfl ?_
  refine g_iald C 1 0 rfl rfl (by omega) (by omega) (by omega) std_M_isAhead_15 ?_
  refine g_iald C 4 0 rfl rfl (by omega) (by omega) (by omega) std_M_isAhead_16 ?_
  refine g_iadd C std_M_isAhead_17 ?_
  refine g_istore_n C (lv' := [(3, .int (iI ((gbc a) + (gcf (gbt a))))), (0, .ref m0), (1, .int (iI a)), (2, .int (iI b))]) std_M_isAhead_18 (by decide) rfl ?_
  refine g_aload_n C 1 std_M_isAhead_19 rfl ?_
  refine g_get C (st_sub sti_M) 0 rfl rfl 20 (by decide) (List.mem_cons_of_mem _ kw_3_86) rfl rfl std_M_isAhead_20 ?_
  refine g_iload_n C 3 std_M_isAhead_23 rfl ?_
  refine g_iald C 2 0 rfl rfl (by omega) (by omega) (by omega) std_M_isAhead_24 ?_
  refine g_aload_n C 1 std_M_isAhead_25 rfl ?_
  refine g_get C (st_sub sti_M) 0 rfl rfl 15 (by decide) (List.mem_cons_of_mem _ kw_3_81) rfl rfl std_M_isAhead_26 ?_
  refine g_aload_n C 1 std_M_isAhead_29 rfl ?_
  refine g_get C (st_sub sti_M) 0 rfl rfl 19 (by decide) (List.mem_cons_of_mem _ kw_3_85) rfl rfl std_M_isAhead_30 ?_
  refine g_iload_n C 3 std_M_isAhead_33 rfl ?_
  refine g_iald C 1 0 rfl rfl (by omega) (by omega) (by omega) std_M_isAhead_34 ?_
  refine g_iald C 4 0 rfl rfl (by omega) (by omega) (by omega) std_M_isAhead_35 ?_
  refine g_iadd C std_M_isAhead_36 ?_
  refine g_istore C (lv' := [(4, .int (iI ((gbc b) + (gcf (gbt b))))), (3, .int (iI ((gbc a) + (gcf (gbt a))))), (0, .ref m0), (1, .int (iI a)), (2, .int (iI b))]) std_M_isAhead_37 (by decide) rfl ?_
  refine g_iload_n C 1 std_M_isAhead_39 rfl ?_
  refine g_iload C 0 std_M_isAhead_40 rfl ?_
  refine g_icmp_lt (tgt := 67) C std_M_isAhead_42 (by decide) ⟨by omega, by omega⟩ ⟨by omega, by omega⟩ (fun c1 => ?_) (fun c1 => ?_)
  · refine g_iconst C std_M_isAhead_67 ?_
    refine g_goto (tgt := 72) C std_M_isAhead_68 (by decide) ?_
    exact hret _ _ _ () (by rw [bI_t (by unfold cde; omega)]) (by decide) std_M_isAhead_72
  · refine g_iload_n C 1 std_M_isAhead_45 rfl ?_
    refine g_iload C 0 std_M_isAhead_46 rfl ?_
    refine g_icmp_ne (tgt := 71) C std_M_isAhead_48 (by decide) ⟨by omega, by omega⟩ ⟨by omega, by omega⟩ (fun c2 => ?_) (fun c2 => ?_)
    · refine g_iconst C std_M_isAhead_71 ?_
      exact hret _ _ _ () (by rw [bI_f (by unfold cde; omega)]) (by decide) std_M_isAhead_72
    · refine g_aload_n C 2 std_M_isAhead_51 rfl ?_
      refine g_get C (st_sub sti_M) 0 rfl rfl 21 (by decide) (List.mem_cons_of_mem _ kw_3_87) rfl rfl std_M_isAhead_52 ?_
      refine g_iload_n C 3 std_M_isAhead_55 rfl ?_
      refine g_lald C 3 1 rfl rfl (by omega) (by omega) (by omega) std_M_isAhead_56 ?_
      refine g_aload_n C 2 std_M_isAhead_57 rfl ?_
      refine g_get C (st_sub sti_M) 0 rfl rfl 21 (by decide) (List.mem_cons_of_mem _ kw_3_87) rfl rfl std_M_isAhead_58 ?_
      refine g_iload_n C 4 std_M_isAhead_61 rfl ?_
      refine g_lald C 3 1 rfl rfl (by omega) (by omega) (by omega) std_M_isAhead_62 ?_
      refine g_lcmp_ge (tgt := 71) C std_M_isAhead_63 std_M_isAhead_64 (by decide) ⟨by omega, by omega⟩ ⟨by omega, by omega⟩ (fun c3 => ?_) (fun c3 => ?_)
      · refine g_iconst C std_M_isAhead_71 ?_
        exact hret _ _ _ () (by rw [bI_f (by unfold cde; omega)]) (by decide) std_M_isAhead_72
      · refine g_iconst C std_M_isAhead_67 ?_
        refine g_goto (tgt := 72) C std_M_isAhead_68 (by decide) ?_
        exact hret _ _ _ () (by rw [bI_t (by unfold cde; omega)]) (by decide) std_M_isAhead_72

abbrev sty_M_begin : MethodName := ⟨"StateTablesModel", "begin", "(IIJ)V"⟩
abbrev stc_M_begin : ByteArray := prog_7_method_20_code
theorem sth_M_begin : (sty_M_begin).cls ≠ "java/lang/invoke/MethodHandle" ∧ (sty_M_begin).cls ≠ "java/lang/invoke/VarHandle" ∧ (parseMethodDescriptor (sty_M_begin).desc).map (fun d => d.parameters.length) = some 3 := by decide +kernel
theorem std_M_begin_0 : decode stc_M_begin 0 = .ok (.aload_n 0, 1) := by decide +kernel
theorem std_M_begin_1 : decode stc_M_begin 1 = .ok (.getfield 59, 3) := by decide +kernel
theorem std_M_begin_4 : decode stc_M_begin 4 = .ok (.aload_n 0, 1) := by decide +kernel
theorem std_M_begin_5 : decode stc_M_begin 5 = .ok (.getfield 149, 3) := by decide +kernel
theorem kw_3_88 : Cond.fieldLink "StateTablesModel" 149 "StateTablesModel" "begun" "I" ∈ stGW := st_t3 (List.mem_of_getElem? (i := 88) (by decide +kernel)) (by decide +kernel)
theorem std_M_begin_8 : decode stc_M_begin 8 = .ok (.iload_n 1, 1) := by decide +kernel
theorem std_M_begin_9 : decode stc_M_begin 9 = .ok (.iastore, 1) := by decide +kernel
theorem std_M_begin_10 : decode stc_M_begin 10 = .ok (.aload_n 0, 1) := by decide +kernel
theorem std_M_begin_11 : decode stc_M_begin 11 = .ok (.getfield 62, 3) := by decide +kernel
theorem std_M_begin_14 : decode stc_M_begin 14 = .ok (.aload_n 0, 1) := by decide +kernel
theorem std_M_begin_15 : decode stc_M_begin 15 = .ok (.getfield 149, 3) := by decide +kernel
theorem std_M_begin_18 : decode stc_M_begin 18 = .ok (.iload_n 2, 1) := by decide +kernel
theorem std_M_begin_19 : decode stc_M_begin 19 = .ok (.iastore, 1) := by decide +kernel
theorem std_M_begin_20 : decode stc_M_begin 20 = .ok (.aload_n 0, 1) := by decide +kernel
theorem std_M_begin_21 : decode stc_M_begin 21 = .ok (.getfield 65, 3) := by decide +kernel
theorem std_M_begin_24 : decode stc_M_begin 24 = .ok (.aload_n 0, 1) := by decide +kernel
theorem std_M_begin_25 : decode stc_M_begin 25 = .ok (.getfield 149, 3) := by decide +kernel
theorem std_M_begin_28 : decode stc_M_begin 28 = .ok (.lload_n 3, 1) := by decide +kernel
theorem std_M_begin_29 : decode stc_M_begin 29 = .ok (.lastore, 1) := by decide +kernel
theorem std_M_begin_30 : decode stc_M_begin 30 = .ok (.aload_n 0, 1) := by decide +kernel
theorem std_M_begin_31 : decode stc_M_begin 31 = .ok (.dup, 1) := by decide +kernel
theorem std_M_begin_32 : decode stc_M_begin 32 = .ok (.getfield 149, 3) := by decide +kernel
theorem std_M_begin_35 : decode stc_M_begin 35 = .ok (.iconst 1, 1) := by decide +kernel
theorem std_M_begin_36 : decode stc_M_begin 36 = .ok (.iadd, 1) := by decide +kernel
theorem std_M_begin_37 : decode stc_M_begin 37 = .ok (.putfield 149, 3) := by decide +kernel
theorem std_M_begin_40 : decode stc_M_begin 40 = .ok (.return_, 1) := by decide +kernel
set_option maxHeartbeats 4000000 in
set_option maxRecDepth 100000 in
theorem c_m_begin (l : Launch) (dC : Nat → ClassId) (dI : Nat → Nat → Nat) (cI cJ cZ : ClassId) (m0 : Nat) (k_ch : Nat) (k_co : Nat) (k_ua : Nat) (k_ub : Nat) (k_ba : Nat) (k_rt : Nat) (k_rf : Nat) (k_ct : Nat) (k_cf : Nat) (k_nd : Nat) (k_na : Nat) (k_no : Nat) (k_bt : Nat) (k_bc : Nat) (k_br : Nat) (k_pc : Nat) (k_pr : Nat) (k_la : Nat) (k_lb : Nat) (k_ha : Nat) (k_hb : Nat) (k_ls : Nat) (k_wc : Nat) (HM : Prop) (bg : Int) (pn : Int) (wd : Int) (mg : Int) (mw : Int) (mc : Int) (steps : Int) (fle : Int → Int) (fmo : Int → Int) (gbt : Int → Int) (gbc : Int → Int) (gbr : Int → Int) (a : Int) (b : Int) (d : Int) (kbg : 0 ≤ bg ∧ bg < 3000) : ∀ sz, Met l sty_M_begin (Cond.code sty_M_begin stc_M_begin 5 none :: stGW) ({ frames := 0, cells := 0, slots := 0, locals := 0 } : Room) (va_Pc [.ref m0, .int (iI a), .int (iI b), .long (lI d)] (zPre (dC, dI) stCl [(cI, .int), (cJ, .long), (cZ, .boolean)] st_nw [(m0, .inr (5, [.int (iI 0), .int (iI steps), .ref k_ch, .ref k_co, .ref k_ua, .ref k_ub, .ref k_ba, .int (iI (fle 0)), .int (iI (fle 1)), .int (iI (fmo 0)), .int (iI (fmo 1)), .int (iI (bI HM)), .ref k_rt, .ref k_rf, .ref k_ct, .ref k_cf, .ref k_nd, .ref k_na, .ref k_no, .ref k_bt, .ref k_bc, .ref k_br, .int (iI bg), .int (iI pn), .ref k_pc, .ref k_pr, .ref k_la, .ref k_lb, .ref k_ha, .ref k_hb, .ref k_ls, .ref k_wc, .int (iI wd), .int (iI mg), .int (iI mw), .int (iI mc)])), (k_bt, .inl (cI, aI 3000 gbt)), (k_bc, .inl (cI, aI 3000 gbc)), (k_br, .inl (cJ, aL 3000 gbr))] sz)) (va_Qv (fun (_ : Unit) => True) (zPost (dC, dI) stCl [(cI, .int), (cJ, .long), (cZ, .boolean)] [(m0, .inr (5, [.int (iI 0), .int (iI steps), .ref k_ch, .ref k_co, .ref k_ua, .ref k_ub, .ref k_ba, .int (iI (fle 0)), .int (iI (fle 1)), .int (iI (fmo 0)), .int (iI (fmo 1)), .int (iI (bI HM)), .ref k_rt, .ref k_rf, .ref k_ct, .ref k_cf, .ref k_nd, .ref k_na, .ref k_no, .ref k_bt, .ref k_bc, .ref k_br, .int (iI bg), .int (iI pn), .ref k_pc, .ref k_pr, .ref k_la, .ref k_lb, .ref k_ha, .ref k_hb, .ref k_ls, .ref k_wc, .int (iI wd), .int (iI mg), .int (iI mw), .int (iI mc)])), (k_bt, .inl (cI, aI 3000 gbt)), (k_bc, .inl (cI, aI 3000 gbc)), (k_br, .inl (cJ, aL 3000 gbr))] sz (fun _ : Unit => [(m0, .inr (5, [.int (iI 0), .int (iI steps), .ref k_ch, .ref k_co, .ref k_ua, .ref k_ub, .ref k_ba, .int (iI (fle 0)), .int (iI (fle 1)), .int (iI (fmo 0)), .int (iI (fmo 1)), .int (iI (bI HM)), .ref k_rt, .ref k_rf, .ref k_ct, .ref k_cf, .ref k_nd, .ref k_na, .ref k_no, .ref k_bt, .ref k_bc, .ref k_br, .int (iI (bg + 1)), .int (iI pn), .ref k_pc, .ref k_pr, .ref k_la, .ref k_lb, .ref k_ha, .ref k_hb, .ref k_ls, .ref k_wc, .int (iI wd), .int (iI mg), .int (iI mw), .int (iI mc)])), (k_bt, .inl (cI, aI 3000 (uZ gbt bg a))), (k_bc, .inl (cI, aI 3000 (uZ gbc bg b))), (k_br, .inl (cJ, aL 3000 (uZ gbr bg d)))])) (va_A [(m0, .inr (5, [.int (iI 0), .int (iI steps), .ref k_ch, .ref k_co, .ref k_ua, .ref k_ub, .ref k_ba, .int (iI (fle 0)), .int (iI (fle 1)), .int (iI (fmo 0)), .int (iI (fmo 1)), .int (iI (bI HM)), .ref k_rt, .ref k_rf, .ref k_ct, .ref k_cf, .ref k_nd, .ref k_na, .ref k_no, .ref k_bt, .ref k_bc, .ref k_br, .int (iI bg), .int (iI pn), .ref k_pc, .ref k_pr, .ref k_la, .ref k_lb, .ref k_ha, .ref k_hb, .ref k_ls, .ref k_wc, .int (iI wd), .int (iI mg), .int (iI mw), .int (iI mc)])), (k_bt, .inl (cI, aI 3000 gbt)), (k_bc, .inl (cI, aI 3000 gbc)), (k_br, .inl (cJ, aL 3000 gbr))] sz)) 0 0 (va_A [(m0, .inr (5, [.int (iI 0), .int (iI steps), .ref k_ch, .ref k_co, .ref k_ua, .ref k_ub, .ref k_ba, .int (iI (fle 0)), .int (iI (fle 1)), .int (iI (fmo 0)), .int (iI (fmo 1)), .int (iI (bI HM)), .ref k_rt, .ref k_rf, .ref k_ct, .ref k_cf, .ref k_nd, .ref k_na, .ref k_no, .ref k_bt, .ref k_bc, .ref k_br, .int (iI bg), .int (iI pn), .ref k_pc, .ref k_pr, .ref k_la, .ref k_lb, .ref k_ha, .ref k_hb, .ref k_ls, .ref k_wc, .int (iI wd), .int (iI mg), .int (iI mw), .int (iI mc)])), (k_bt, .inl (cI, aI 3000 gbt)), (k_bc, .inl (cI, aI 3000 gbc)), (k_br, .inl (cJ, aL 3000 gbr))] sz) := by
  refine met_v (by decide) rfl (Nat.le_of_ble_eq_true rfl) ?_
  intro p e s m below meth c A Q C hmn hret
  refine g_aload_n C 0 std_M_begin_0 rfl ?_
  refine g_get C (st_sub sti_M) 0 rfl rfl 19 (by decide) (List.mem_cons_of_mem _ kw_3_85) rfl rfl std_M_begin_1 ?_
  refine g_aload_n C 0 std_M_begin_4 rfl ?_
  refine g_get C (st_sub sti_M) 0 rfl rfl 22 (by decide) (List.mem_cons_of_mem _ kw_3_88) rfl rfl std_M_begin_5 ?_
  refine g_iload_n C 1 std_M_begin_8 rfl ?_
  refine g_iast C (ws' := [(m0, .inr (5, [.int (iI 0), .int (iI steps), .ref k_ch, .ref k_co, .ref k_ua, .ref k_ub, .ref k_ba, .int (iI (fle 0)), .int (iI (fle 1)), .int (iI (fmo 0)), .int (iI (fmo 1)), .int (iI (bI HM)), .ref k_rt, .ref k_rf, .ref k_ct, .ref k_cf, .ref k_nd, .ref k_na, .ref k_no, .ref k_bt, .ref k_bc, .ref k_br, .int (iI bg), .int (iI pn), .ref k_pc, .ref k_pr, .ref k_la, .ref k_lb, .ref k_ha, .ref k_hb, .ref k_ls, .ref k_wc, .int (iI wd), .int (iI mg), .int (iI mw), .int (iI mc)])), (k_bt, .inl (cI, aI 3000 (uZ gbt bg a))), (k_bc, .inl (cI, aI 3000 gbc)), (k_br, .inl (cJ, aL 3000 gbr))]) 1 0 rfl rfl (by omega) (by omega) (by omega) std_M_begin_9 rfl ?_
  refine g_aload_n C 0 std_M_begin_10 rfl ?_
  refine g_get C (st_sub sti_M) 0 rfl rfl 20 (by decide) (List.mem_cons_of_mem _ kw_3_86) rfl rfl std_M_begin_11 ?_
  refine g_aload_n C 0 std_M_begin_14 rfl ?_
  refine g_get C (st_sub sti_M) 0 rfl rfl 22 (by decide) (List.mem_cons_of_mem _ kw_3_88) rfl rfl std_M_begin_15 ?_
  refine g_iload_n C 2 std_M_begin_18 rfl ?_
  refine g_iast C (ws' := [(m0, .inr (5, [.int (iI 0), .int (iI steps), .ref k_ch, .ref k_co, .ref k_ua, .ref k_ub, .ref k_ba, .int (iI (fle 0)), .int (iI (fle 1)), .int (iI (fmo 0)), .int (iI (fmo 1)), .int (iI (bI HM)), .ref k_rt, .ref k_rf, .ref k_ct, .ref k_cf, .ref k_nd, .ref k_na, .ref k_no, .ref k_bt, .ref k_bc, .ref k_br, .int (iI bg), .int (iI pn), .ref k_pc, .ref k_pr, .ref k_la, .ref k_lb, .ref k_ha, .ref k_hb, .ref k_ls, .ref k_wc, .int (iI wd), .int (iI mg), .int (iI mw), .int (iI mc)])), (k_bt, .inl (cI, aI 3000 (uZ gbt bg a))), (k_bc, .inl (cI, aI 3000 (uZ gbc bg b))), (k_br, .inl (cJ, aL 3000 gbr))]) 2 0 rfl rfl (by omega) (by omega) (by omega) std_M_begin_19 rfl ?_
  refine g_aload_n C 0 std_M_begin_20 rfl ?_
  refine g_get C (st_sub sti_M) 0 rfl rfl 21 (by decide) (List.mem_cons_of_mem _ kw_3_87) rfl rfl std_M_begin_21 ?_
  refine g_aload_n C 0 std_M_begin_24 rfl ?_
  refine g_get C (st_sub sti_M) 0 rfl rfl 22 (by decide) (List.mem_cons_of_mem _ kw_3_88) rfl rfl std_M_begin_25 ?_
  refine g_lload_n C 3 std_M_begin_28 rfl ?_
  refine g_last C (ws' := [(m0, .inr (5, [.int (iI 0), .int (iI steps), .ref k_ch, .ref k_co, .ref k_ua, .ref k_ub, .ref k_ba, .int (iI (fle 0)), .int (iI (fle 1)), .int (iI (fmo 0)), .int (iI (fmo 1)), .int (iI (bI HM)), .ref k_rt, .ref k_rf, .ref k_ct, .ref k_cf, .ref k_nd, .ref k_na, .ref k_no, .ref k_bt, .ref k_bc, .ref k_br, .int (iI bg), .int (iI pn), .ref k_pc, .ref k_pr, .ref k_la, .ref k_lb, .ref k_ha, .ref k_hb, .ref k_ls, .ref k_wc, .int (iI wd), .int (iI mg), .int (iI mw), .int (iI mc)])), (k_bt, .inl (cI, aI 3000 (uZ gbt bg a))), (k_bc, .inl (cI, aI 3000 (uZ gbc bg b))), (k_br, .inl (cJ, aL 3000 (uZ gbr bg d)))]) 3 1 rfl rfl (by omega) (by omega) (by omega) std_M_begin_29 rfl ?_
  refine g_aload_n C 0 std_M_begin_30 rfl ?_
  refine g_dup C std_M_begin_31 rfl ?_
  refine g_get C (st_sub sti_M) 0 rfl rfl 22 (by decide) (List.mem_cons_of_mem _ kw_3_88) rfl rfl std_M_begin_32 ?_
  refine g_iconst C std_M_begin_35 ?_
  refine g_iadd C std_M_begin_36 ?_
  refine g_put C (ws' := [(m0, .inr (5, [.int (iI 0), .int (iI steps), .ref k_ch, .ref k_co, .ref k_ua, .ref k_ub, .ref k_ba, .int (iI (fle 0)), .int (iI (fle 1)), .int (iI (fmo 0)), .int (iI (fmo 1)), .int (iI (bI HM)), .ref k_rt, .ref k_rf, .ref k_ct, .ref k_cf, .ref k_nd, .ref k_na, .ref k_no, .ref k_bt, .ref k_bc, .ref k_br, .int (iI (bg + 1)), .int (iI pn), .ref k_pc, .ref k_pr, .ref k_la, .ref k_lb, .ref k_ha, .ref k_hb, .ref k_ls, .ref k_wc, .int (iI wd), .int (iI mg), .int (iI mw), .int (iI mc)])), (k_bt, .inl (cI, aI 3000 (uZ gbt bg a))), (k_bc, .inl (cI, aI 3000 (uZ gbc bg b))), (k_br, .inl (cJ, aL 3000 (uZ gbr bg d)))]) (st_sub sti_M) stt_M sto_M stn_M 0 rfl rfl 22 (by decide) (List.mem_cons_of_mem _ kw_3_88) rfl rfl rfl rfl (Nat.le_of_ble_eq_true rfl) std_M_begin_37 rfl ?_
  exact hret _ _ () (trivial) std_M_begin_40

abbrev sty_M_findPlans : MethodName := ⟨"StateTablesModel", "findPlans", "()V"⟩
abbrev stc_M_findPlans : ByteArray := prog_7_method_21_code
theorem sth_M_findPlans : (sty_M_findPlans).cls ≠ "java/lang/invoke/MethodHandle" ∧ (sty_M_findPlans).cls ≠ "java/lang/invoke/VarHandle" ∧ (parseMethodDescriptor (sty_M_findPlans).desc).map (fun d => d.parameters.length) = some 0 := by decide +kernel
theorem std_M_findPlans_0 : decode stc_M_findPlans 0 = .ok (.aload_n 0, 1) := by decide +kernel
theorem std_M_findPlans_1 : decode stc_M_findPlans 1 = .ok (.iconst 0, 1) := by decide +kernel
theorem std_M_findPlans_2 : decode stc_M_findPlans 2 = .ok (.putfield 152, 3) := by decide +kernel
theorem kw_3_89 : Cond.fieldLink "StateTablesModel" 152 "StateTablesModel" "plans" "I" ∈ stGW := st_t3 (List.mem_of_getElem? (i := 89) (by decide +kernel)) (by decide +kernel)
theorem std_M_findPlans_5 : decode stc_M_findPlans 5 = .ok (.aload_n 0, 1) := by decide +kernel
theorem std_M_findPlans_6 : decode stc_M_findPlans 6 = .ok (.iconst 0, 1) := by decide +kernel
theorem std_M_findPlans_7 : decode stc_M_findPlans 7 = .ok (.putfield 149, 3) := by decide +kernel
theorem std_M_findPlans_10 : decode stc_M_findPlans 10 = .ok (.iconst 0, 1) := by decide +kernel
theorem std_M_findPlans_11 : decode stc_M_findPlans 11 = .ok (.iconst 0, 1) := by decide +kernel
theorem std_M_findPlans_12 : decode stc_M_findPlans 12 = .ok (.iconst 0, 1) := by decide +kernel
theorem std_M_findPlans_13 : decode stc_M_findPlans 13 = .ok (.iconst (-1), 1) := by decide +kernel
theorem std_M_findPlans_14 : decode stc_M_findPlans 14 = .ok (.invokestatic 130, 3) := by decide +kernel
theorem std_M_findPlans_17 : decode stc_M_findPlans 17 = .ok (.istore_n 1, 1) := by decide +kernel
theorem std_M_findPlans_18 : decode stc_M_findPlans 18 = .ok (.aload_n 0, 1) := by decide +kernel
theorem std_M_findPlans_19 : decode stc_M_findPlans 19 = .ok (.getfield 41, 3) := by decide +kernel
theorem std_M_findPlans_22 : decode stc_M_findPlans 22 = .ok (.iload_n 1, 1) := by decide +kernel
theorem std_M_findPlans_23 : decode stc_M_findPlans 23 = .ok (.laload, 1) := by decide +kernel
theorem std_M_findPlans_24 : decode stc_M_findPlans 24 = .ok (.lconst 0, 1) := by decide +kernel
theorem std_M_findPlans_25 : decode stc_M_findPlans 25 = .ok (.lcmp, 1) := by decide +kernel
theorem std_M_findPlans_26 : decode stc_M_findPlans 26 = .ok (.ifCond .le 10, 3) := by decide +kernel
theorem std_M_findPlans_36 : decode stc_M_findPlans 36 = .ok (.aload_n 0, 1) := by decide +kernel
theorem std_M_findPlans_37 : decode stc_M_findPlans 37 = .ok (.getfield 149, 3) := by decide +kernel
theorem std_M_findPlans_40 : decode stc_M_findPlans 40 = .ok (.ifCond .le 268, 3) := by decide +kernel
theorem std_M_findPlans_308 : decode stc_M_findPlans 308 = .ok (.return_, 1) := by decide +kernel
theorem std_M_findPlans_43 : decode stc_M_findPlans 43 = .ok (.aload_n 0, 1) := by decide +kernel
theorem std_M_findPlans_44 : decode stc_M_findPlans 44 = .ok (.getfield 152, 3) := by decide +kernel
theorem std_M_findPlans_47 : decode stc_M_findPlans 47 = .ok (.bipush 20, 2) := by decide +kernel
theorem std_M_findPlans_49 : decode stc_M_findPlans 49 = .ok (.if_icmp .ge 259, 3) := by decide +kernel
theorem std_M_findPlans_52 : decode stc_M_findPlans 52 = .ok (.iconst 0, 1) := by decide +kernel
theorem std_M_findPlans_53 : decode stc_M_findPlans 53 = .ok (.istore_n 2, 1) := by decide +kernel
theorem std_M_findPlans_54 : decode stc_M_findPlans 54 = .ok (.iconst 1, 1) := by decide +kernel
theorem std_M_findPlans_55 : decode stc_M_findPlans 55 = .ok (.istore_n 3, 1) := by decide +kernel
theorem std_M_findPlans_56 : decode stc_M_findPlans 56 = .ok (.iload_n 3, 1) := by decide +kernel
theorem std_M_findPlans_57 : decode stc_M_findPlans 57 = .ok (.aload_n 0, 1) := by decide +kernel
theorem std_M_findPlans_58 : decode stc_M_findPlans 58 = .ok (.getfield 149, 3) := by decide +kernel
theorem std_M_findPlans_61 : decode stc_M_findPlans 61 = .ok (.if_icmp .ge 24, 3) := by decide +kernel
theorem std_M_findPlans_85 : decode stc_M_findPlans 85 = .ok (.aload_n 0, 1) := by decide +kernel
theorem std_M_findPlans_86 : decode stc_M_findPlans 86 = .ok (.getfield 59, 3) := by decide +kernel
theorem std_M_findPlans_89 : decode stc_M_findPlans 89 = .ok (.iload_n 2, 1) := by decide +kernel
theorem std_M_findPlans_90 : decode stc_M_findPlans 90 = .ok (.iaload, 1) := by decide +kernel
theorem std_M_findPlans_91 : decode stc_M_findPlans 91 = .ok (.istore_n 3, 1) := by decide +kernel
theorem std_M_findPlans_92 : decode stc_M_findPlans 92 = .ok (.aload_n 0, 1) := by decide +kernel
theorem std_M_findPlans_93 : decode stc_M_findPlans 93 = .ok (.getfield 62, 3) := by decide +kernel
theorem std_M_findPlans_96 : decode stc_M_findPlans 96 = .ok (.iload_n 2, 1) := by decide +kernel
theorem std_M_findPlans_97 : decode stc_M_findPlans 97 = .ok (.iaload, 1) := by decide +kernel
theorem std_M_findPlans_98 : decode stc_M_findPlans 98 = .ok (.istore 4, 2) := by decide +kernel
theorem std_M_findPlans_100 : decode stc_M_findPlans 100 = .ok (.aload_n 0, 1) := by decide +kernel
theorem std_M_findPlans_101 : decode stc_M_findPlans 101 = .ok (.getfield 65, 3) := by decide +kernel
theorem std_M_findPlans_104 : decode stc_M_findPlans 104 = .ok (.iload_n 2, 1) := by decide +kernel
theorem std_M_findPlans_105 : decode stc_M_findPlans 105 = .ok (.laload, 1) := by decide +kernel
theorem std_M_findPlans_106 : decode stc_M_findPlans 106 = .ok (.lstore 5, 2) := by decide +kernel
theorem std_M_findPlans_108 : decode stc_M_findPlans 108 = .ok (.aload_n 0, 1) := by decide +kernel
theorem std_M_findPlans_109 : decode stc_M_findPlans 109 = .ok (.dup, 1) := by decide +kernel
theorem std_M_findPlans_110 : decode stc_M_findPlans 110 = .ok (.getfield 149, 3) := by decide +kernel
theorem std_M_findPlans_113 : decode stc_M_findPlans 113 = .ok (.iconst 1, 1) := by decide +kernel
theorem std_M_findPlans_114 : decode stc_M_findPlans 114 = .ok (.isub, 1) := by decide +kernel
theorem std_M_findPlans_115 : decode stc_M_findPlans 115 = .ok (.putfield 149, 3) := by decide +kernel
theorem std_M_findPlans_118 : decode stc_M_findPlans 118 = .ok (.aload_n 0, 1) := by decide +kernel
theorem std_M_findPlans_119 : decode stc_M_findPlans 119 = .ok (.getfield 59, 3) := by decide +kernel
theorem std_M_findPlans_122 : decode stc_M_findPlans 122 = .ok (.iload_n 2, 1) := by decide +kernel
theorem std_M_findPlans_123 : decode stc_M_findPlans 123 = .ok (.aload_n 0, 1) := by decide +kernel
theorem std_M_findPlans_124 : decode stc_M_findPlans 124 = .ok (.getfield 59, 3) := by decide +kernel
theorem std_M_findPlans_127 : decode stc_M_findPlans 127 = .ok (.aload_n 0, 1) := by decide +kernel
theorem std_M_findPlans_128 : decode stc_M_findPlans 128 = .ok (.getfield 149, 3) := by decide +kernel
theorem std_M_findPlans_131 : decode stc_M_findPlans 131 = .ok (.iaload, 1) := by decide +kernel
theorem std_M_findPlans_132 : decode stc_M_findPlans 132 = .ok (.iastore, 1) := by decide +kernel
theorem std_M_findPlans_133 : decode stc_M_findPlans 133 = .ok (.aload_n 0, 1) := by decide +kernel
theorem std_M_findPlans_134 : decode stc_M_findPlans 134 = .ok (.getfield 62, 3) := by decide +kernel
theorem std_M_findPlans_137 : decode stc_M_findPlans 137 = .ok (.iload_n 2, 1) := by decide +kernel
theorem std_M_findPlans_138 : decode stc_M_findPlans 138 = .ok (.aload_n 0, 1) := by decide +kernel
theorem std_M_findPlans_139 : decode stc_M_findPlans 139 = .ok (.getfield 62, 3) := by decide +kernel
theorem std_M_findPlans_142 : decode stc_M_findPlans 142 = .ok (.aload_n 0, 1) := by decide +kernel
theorem std_M_findPlans_143 : decode stc_M_findPlans 143 = .ok (.getfield 149, 3) := by decide +kernel
theorem std_M_findPlans_146 : decode stc_M_findPlans 146 = .ok (.iaload, 1) := by decide +kernel
theorem std_M_findPlans_147 : decode stc_M_findPlans 147 = .ok (.iastore, 1) := by decide +kernel
theorem std_M_findPlans_148 : decode stc_M_findPlans 148 = .ok (.aload_n 0, 1) := by decide +kernel
theorem std_M_findPlans_149 : decode stc_M_findPlans 149 = .ok (.getfield 65, 3) := by decide +kernel
theorem std_M_findPlans_152 : decode stc_M_findPlans 152 = .ok (.iload_n 2, 1) := by decide +kernel
theorem std_M_findPlans_153 : decode stc_M_findPlans 153 = .ok (.aload_n 0, 1) := by decide +kernel
theorem std_M_findPlans_154 : decode stc_M_findPlans 154 = .ok (.getfield 65, 3) := by decide +kernel
theorem std_M_findPlans_157 : decode stc_M_findPlans 157 = .ok (.aload_n 0, 1) := by decide +kernel
theorem std_M_findPlans_158 : decode stc_M_findPlans 158 = .ok (.getfield 149, 3) := by decide +kernel
theorem std_M_findPlans_161 : decode stc_M_findPlans 161 = .ok (.laload, 1) := by decide +kernel
theorem std_M_findPlans_162 : decode stc_M_findPlans 162 = .ok (.lastore, 1) := by decide +kernel
theorem std_M_findPlans_163 : decode stc_M_findPlans 163 = .ok (.iload_n 3, 1) := by decide +kernel
theorem std_M_findPlans_164 : decode stc_M_findPlans 164 = .ok (.sipush 11767, 3) := by decide +kernel
theorem std_M_findPlans_167 : decode stc_M_findPlans 167 = .ok (.idiv, 1) := by decide +kernel
theorem std_M_findPlans_168 : decode stc_M_findPlans 168 = .ok (.istore 7, 2) := by decide +kernel
theorem std_M_findPlans_170 : decode stc_M_findPlans 170 = .ok (.iload 7, 2) := by decide +kernel
theorem std_M_findPlans_172 : decode stc_M_findPlans 172 = .ok (.aload_n 0, 1) := by decide +kernel
theorem std_M_findPlans_173 : decode stc_M_findPlans 173 = .ok (.getfield 92, 3) := by decide +kernel
theorem std_M_findPlans_176 : decode stc_M_findPlans 176 = .ok (.if_icmp .ne 35, 3) := by decide +kernel
theorem std_M_findPlans_211 : decode stc_M_findPlans 211 = .ok (.iconst 0, 1) := by decide +kernel
theorem std_M_findPlans_212 : decode stc_M_findPlans 212 = .ok (.istore 8, 2) := by decide +kernel
theorem std_M_findPlans_214 : decode stc_M_findPlans 214 = .ok (.iload 8, 2) := by decide +kernel
theorem std_M_findPlans_216 : decode stc_M_findPlans 216 = .ok (.aload_n 0, 1) := by decide +kernel
theorem std_M_findPlans_217 : decode stc_M_findPlans 217 = .ok (.getfield 13, 3) := by decide +kernel
theorem std_M_findPlans_220 : decode stc_M_findPlans 220 = .ok (.iload 7, 2) := by decide +kernel
theorem std_M_findPlans_222 : decode stc_M_findPlans 222 = .ok (.iaload, 1) := by decide +kernel
theorem std_M_findPlans_223 : decode stc_M_findPlans 223 = .ok (.if_icmp .ge 82, 3) := by decide +kernel
theorem std_M_findPlans_305 : decode stc_M_findPlans 305 = .ok (.goto (-269), 3) := by decide +kernel
theorem std_M_findPlans_226 : decode stc_M_findPlans 226 = .ok (.iload 7, 2) := by decide +kernel
theorem std_M_findPlans_228 : decode stc_M_findPlans 228 = .ok (.aload_n 0, 1) := by decide +kernel
theorem std_M_findPlans_229 : decode stc_M_findPlans 229 = .ok (.getfield 92, 3) := by decide +kernel
theorem std_M_findPlans_232 : decode stc_M_findPlans 232 = .ok (.if_icmp .ge 73, 3) := by decide +kernel
theorem std_M_findPlans_235 : decode stc_M_findPlans 235 = .ok (.aload_n 0, 1) := by decide +kernel
theorem std_M_findPlans_236 : decode stc_M_findPlans 236 = .ok (.iload_n 3, 1) := by decide +kernel
theorem std_M_findPlans_237 : decode stc_M_findPlans 237 = .ok (.iload 8, 2) := by decide +kernel
theorem std_M_findPlans_239 : decode stc_M_findPlans 239 = .ok (.invokevirtual 139, 3) := by decide +kernel
theorem std_M_findPlans_242 : decode stc_M_findPlans 242 = .ok (.istore 9, 2) := by decide +kernel
theorem std_M_findPlans_244 : decode stc_M_findPlans 244 = .ok (.iload 9, 2) := by decide +kernel
theorem std_M_findPlans_246 : decode stc_M_findPlans 246 = .ok (.ldc 129, 2) := by decide +kernel
theorem std_M_findPlans_248 : decode stc_M_findPlans 248 = .ok (.if_icmp .eq 51, 3) := by decide +kernel
theorem std_M_findPlans_299 : decode stc_M_findPlans 299 = .ok (.iinc 8 1, 3) := by decide +kernel
theorem std_M_findPlans_302 : decode stc_M_findPlans 302 = .ok (.goto (-88), 3) := by decide +kernel
theorem std_M_findPlans_251 : decode stc_M_findPlans 251 = .ok (.aload_n 0, 1) := by decide +kernel
theorem std_M_findPlans_252 : decode stc_M_findPlans 252 = .ok (.getfield 41, 3) := by decide +kernel
theorem std_M_findPlans_255 : decode stc_M_findPlans 255 = .ok (.iload 9, 2) := by decide +kernel
theorem std_M_findPlans_257 : decode stc_M_findPlans 257 = .ok (.laload, 1) := by decide +kernel
theorem std_M_findPlans_258 : decode stc_M_findPlans 258 = .ok (.lconst 0, 1) := by decide +kernel
theorem std_M_findPlans_259 : decode stc_M_findPlans 259 = .ok (.lcmp, 1) := by decide +kernel
theorem std_M_findPlans_260 : decode stc_M_findPlans 260 = .ok (.ifCond .le 39, 3) := by decide +kernel
theorem std_M_findPlans_263 : decode stc_M_findPlans 263 = .ok (.aload_n 0, 1) := by decide +kernel
theorem std_M_findPlans_264 : decode stc_M_findPlans 264 = .ok (.iload 9, 2) := by decide +kernel
theorem std_M_findPlans_266 : decode stc_M_findPlans 266 = .ok (.iload 4, 2) := by decide +kernel
theorem std_M_findPlans_268 : decode stc_M_findPlans 268 = .ok (.aload_n 0, 1) := by decide +kernel
theorem std_M_findPlans_269 : decode stc_M_findPlans 269 = .ok (.getfield 17, 3) := by decide +kernel
theorem std_M_findPlans_272 : decode stc_M_findPlans 272 = .ok (.bipush 6, 2) := by decide +kernel
theorem std_M_findPlans_274 : decode stc_M_findPlans 274 = .ok (.iload 7, 2) := by decide +kernel
theorem std_M_findPlans_276 : decode stc_M_findPlans 276 = .ok (.imul, 1) := by decide +kernel
theorem std_M_findPlans_277 : decode stc_M_findPlans 277 = .ok (.iload 8, 2) := by decide +kernel
theorem std_M_findPlans_279 : decode stc_M_findPlans 279 = .ok (.iadd, 1) := by decide +kernel
theorem std_M_findPlans_280 : decode stc_M_findPlans 280 = .ok (.iaload, 1) := by decide +kernel
theorem std_M_findPlans_281 : decode stc_M_findPlans 281 = .ok (.iadd, 1) := by decide +kernel
theorem std_M_findPlans_282 : decode stc_M_findPlans 282 = .ok (.lload 5, 2) := by decide +kernel
theorem std_M_findPlans_284 : decode stc_M_findPlans 284 = .ok (.iload 8, 2) := by decide +kernel
theorem std_M_findPlans_286 : decode stc_M_findPlans 286 = .ok (.i2l, 1) := by decide +kernel
theorem std_M_findPlans_287 : decode stc_M_findPlans 287 = .ok (.iconst 3, 1) := by decide +kernel
theorem std_M_findPlans_288 : decode stc_M_findPlans 288 = .ok (.bipush 11, 2) := by decide +kernel
theorem std_M_findPlans_290 : decode stc_M_findPlans 290 = .ok (.iload 7, 2) := by decide +kernel
theorem std_M_findPlans_292 : decode stc_M_findPlans 292 = .ok (.isub, 1) := by decide +kernel
theorem std_M_findPlans_293 : decode stc_M_findPlans 293 = .ok (.imul, 1) := by decide +kernel
theorem std_M_findPlans_294 : decode stc_M_findPlans 294 = .ok (.lshl, 1) := by decide +kernel
theorem std_M_findPlans_295 : decode stc_M_findPlans 295 = .ok (.lor, 1) := by decide +kernel
theorem std_M_findPlans_296 : decode stc_M_findPlans 296 = .ok (.invokevirtual 155, 3) := by decide +kernel
theorem kw_4_6 : Cond.code sty_M_begin stc_M_begin 5 none ∈ stGW := st_t4 (List.mem_of_getElem? (i := 6) (by decide +kernel)) (by decide +kernel)
theorem kw_4_3 : Cond.methodLink "StateTablesModel" 155 (sty_M_begin) ∈ stGW := st_t4 (List.mem_of_getElem? (i := 3) (by decide +kernel)) (by decide +kernel)
theorem kw_4_5 : Cond.instanceMethod (sty_M_begin) ∈ stGW := st_t4 (List.mem_of_getElem? (i := 5) (by decide +kernel)) (by decide +kernel)
theorem kw_0_24 : Cond.selects "StateTablesModel" (sty_M_begin) (sty_M_begin) ∈ stGW := st_t0 (List.mem_of_getElem? (i := 24) (by decide +kernel)) (by decide +kernel)
theorem std_M_findPlans_179 : decode stc_M_findPlans 179 = .ok (.aload_n 0, 1) := by decide +kernel
theorem std_M_findPlans_180 : decode stc_M_findPlans 180 = .ok (.getfield 68, 3) := by decide +kernel
theorem kw_3_90 : Cond.fieldLink "StateTablesModel" 68 "StateTablesModel" "planCost" "[I" ∈ stGW := st_t3 (List.mem_of_getElem? (i := 90) (by decide +kernel)) (by decide +kernel)
theorem std_M_findPlans_183 : decode stc_M_findPlans 183 = .ok (.aload_n 0, 1) := by decide +kernel
theorem std_M_findPlans_184 : decode stc_M_findPlans 184 = .ok (.getfield 152, 3) := by decide +kernel
theorem std_M_findPlans_187 : decode stc_M_findPlans 187 = .ok (.iload 4, 2) := by decide +kernel
theorem std_M_findPlans_189 : decode stc_M_findPlans 189 = .ok (.iastore, 1) := by decide +kernel
theorem std_M_findPlans_190 : decode stc_M_findPlans 190 = .ok (.aload_n 0, 1) := by decide +kernel
theorem std_M_findPlans_191 : decode stc_M_findPlans 191 = .ok (.getfield 71, 3) := by decide +kernel
theorem kw_3_91 : Cond.fieldLink "StateTablesModel" 71 "StateTablesModel" "planRow" "[J" ∈ stGW := st_t3 (List.mem_of_getElem? (i := 91) (by decide +kernel)) (by decide +kernel)
theorem std_M_findPlans_194 : decode stc_M_findPlans 194 = .ok (.aload_n 0, 1) := by decide +kernel
theorem std_M_findPlans_195 : decode stc_M_findPlans 195 = .ok (.getfield 152, 3) := by decide +kernel
theorem std_M_findPlans_198 : decode stc_M_findPlans 198 = .ok (.lload 5, 2) := by decide +kernel
theorem std_M_findPlans_200 : decode stc_M_findPlans 200 = .ok (.lastore, 1) := by decide +kernel
theorem std_M_findPlans_201 : decode stc_M_findPlans 201 = .ok (.aload_n 0, 1) := by decide +kernel
theorem std_M_findPlans_202 : decode stc_M_findPlans 202 = .ok (.dup, 1) := by decide +kernel
theorem std_M_findPlans_203 : decode stc_M_findPlans 203 = .ok (.getfield 152, 3) := by decide +kernel
theorem std_M_findPlans_206 : decode stc_M_findPlans 206 = .ok (.iconst 1, 1) := by decide +kernel
theorem std_M_findPlans_207 : decode stc_M_findPlans 207 = .ok (.iadd, 1) := by decide +kernel
theorem std_M_findPlans_208 : decode stc_M_findPlans 208 = .ok (.putfield 152, 3) := by decide +kernel
theorem std_M_findPlans_64 : decode stc_M_findPlans 64 = .ok (.aload_n 0, 1) := by decide +kernel
theorem std_M_findPlans_65 : decode stc_M_findPlans 65 = .ok (.iload_n 3, 1) := by decide +kernel
theorem std_M_findPlans_66 : decode stc_M_findPlans 66 = .ok (.iload_n 2, 1) := by decide +kernel
theorem std_M_findPlans_67 : decode stc_M_findPlans 67 = .ok (.invokevirtual 159, 3) := by decide +kernel
theorem kw_4_10 : Cond.code sty_M_isAhead stc_M_isAhead 5 (some .boolean) ∈ stGW := st_t4 (List.mem_of_getElem? (i := 10) (by decide +kernel)) (by decide +kernel)
theorem kw_4_7 : Cond.methodLink "StateTablesModel" 159 (sty_M_isAhead) ∈ stGW := st_t4 (List.mem_of_getElem? (i := 7) (by decide +kernel)) (by decide +kernel)
theorem kw_4_9 : Cond.instanceMethod (sty_M_isAhead) ∈ stGW := st_t4 (List.mem_of_getElem? (i := 9) (by decide +kernel)) (by decide +kernel)
theorem kw_0_25 : Cond.selects "StateTablesModel" (sty_M_isAhead) (sty_M_isAhead) ∈ stGW := st_t0 (List.mem_of_getElem? (i := 25) (by decide +kernel)) (by decide +kernel)
theorem std_M_findPlans_70 : decode stc_M_findPlans 70 = .ok (.ifCond .eq 7, 3) := by decide +kernel
theorem std_M_findPlans_77 : decode stc_M_findPlans 77 = .ok (.iload_n 2, 1) := by decide +kernel
theorem std_M_findPlans_78 : decode stc_M_findPlans 78 = .ok (.istore_n 2, 1) := by decide +kernel
theorem std_M_findPlans_79 : decode stc_M_findPlans 79 = .ok (.iinc 3 1, 3) := by decide +kernel
theorem std_M_findPlans_82 : decode stc_M_findPlans 82 = .ok (.goto (-26), 3) := by decide +kernel
theorem std_M_findPlans_73 : decode stc_M_findPlans 73 = .ok (.iload_n 3, 1) := by decide +kernel
theorem std_M_findPlans_74 : decode stc_M_findPlans 74 = .ok (.goto 4, 3) := by decide +kernel
theorem std_M_findPlans_29 : decode stc_M_findPlans 29 = .ok (.aload_n 0, 1) := by decide +kernel
theorem std_M_findPlans_30 : decode stc_M_findPlans 30 = .ok (.iload_n 1, 1) := by decide +kernel
theorem std_M_findPlans_31 : decode stc_M_findPlans 31 = .ok (.iconst 0, 1) := by decide +kernel
theorem std_M_findPlans_32 : decode stc_M_findPlans 32 = .ok (.lconst 0, 1) := by decide +kernel
theorem std_M_findPlans_33 : decode stc_M_findPlans 33 = .ok (.invokevirtual 155, 3) := by decide +kernel
set_option maxHeartbeats 4000000 in
set_option maxRecDepth 100000 in
theorem c_m_findPlans (l : Launch) (dC : Nat → ClassId) (dI : Nat → Nat → Nat) (cI cJ cZ : ClassId) (m0 : Nat) (k_ch : Nat) (k_co : Nat) (k_ua : Nat) (k_ub : Nat) (k_ba : Nat) (k_rt : Nat) (k_rf : Nat) (k_ct : Nat) (k_cf : Nat) (k_nd : Nat) (k_na : Nat) (k_no : Nat) (k_bt : Nat) (k_bc : Nat) (k_br : Nat) (k_pc : Nat) (k_pr : Nat) (k_la : Nat) (k_lb : Nat) (k_ha : Nat) (k_hb : Nat) (k_ls : Nat) (k_wc : Nat) (HM : Prop) (bg : Int) (pn : Int) (wd : Int) (mg : Int) (mw : Int) (mc : Int) (n : Nat) (fba : Int → Int) (grf : Int → Int) (gcf : Int → Int) (gbt : Int → Int) (gbc : Int → Int) (gbr : Int → Int) (gpc : Int → Int) (gpr : Int → Int) (fsz : Int → Int) (fco : Int → Int) (ffu : Int → Int) (fsu : Int → Int) (fbb : Int → Int) (fmo : Int → Int) (fle : Int → Int) (kBR : BR fbb fba) (kT : TB fsz fco ffu fsu fbb fmo) (kn12 : n ≤ 12) (ksz : ∀ j, 0 ≤ j → j < 13 → 0 ≤ fsz j ∧ fsz j ≤ 6) (kFB : ∀ e : Nat, e ≤ n → ∀ k, vk k → 0 < wt fsz ffu fsu fbb fmo e k → FB fsz fco ffu fsu fbb fmo fle n e k grf gcf) : ∀ sz, Met l sty_M_findPlans (Cond.code sty_M_findPlans stc_M_findPlans 10 none :: stGW) ({ frames := 2, cells := 0, slots := 0, locals := 50 } : Room) (va_Pc [.ref m0] (zPre (dC, dI) stCl [(cI, .int), (cJ, .long), (cZ, .boolean)] st_nw [(m0, .inr (5, [.int (iI 0), .int (iI ((n : Nat) : Int)), .ref k_ch, .ref k_co, .ref k_ua, .ref k_ub, .ref k_ba, .int (iI (fle 0)), .int (iI (fle 1)), .int (iI (fmo 0)), .int (iI (fmo 1)), .int (iI (bI HM)), .ref k_rt, .ref k_rf, .ref k_ct, .ref k_cf, .ref k_nd, .ref k_na, .ref k_no, .ref k_bt, .ref k_bc, .ref k_br, .int (iI bg), .int (iI pn), .ref k_pc, .ref k_pr, .ref k_la, .ref k_lb, .ref k_ha, .ref k_hb, .ref k_ls, .ref k_wc, .int (iI wd), .int (iI mg), .int (iI mw), .int (iI mc)])), (k_ch, .inl (cI, aI 13 fsz)), (k_co, .inl (cI, aI 78 fco)), (k_ba, .inl (cZ, aI 468 fba)), (k_ua, .inl (cI, aI 78 ffu)), (k_ub, .inl (cI, aI 78 fsu)), (k_rf, .inl (cJ, aL 152971 grf)), (k_cf, .inl (cI, aI 152971 gcf)), (k_bt, .inl (cI, aI 3000 gbt)), (k_bc, .inl (cI, aI 3000 gbc)), (k_br, .inl (cJ, aL 3000 gbr)), (k_pc, .inl (cI, aI 20 gpc)), (k_pr, .inl (cJ, aL 20 gpr))] sz)) (va_Qv (fun (u : Int × Int × (Int → Int) × (Int → Int) × (Int → Int) × (Int → Int) × (Int → Int)) => OPp (PR fsz fco ffu fsu fbb fmo fle n) n u.1 u.2.2.2.2.2.1 u.2.2.2.2.2.2 ∧ FS (PF (PR fsz fco ffu fsu fbb fmo fle n) n) u.1 (fun i => (u.2.2.2.2.2.1 i + 12000) * 68719476736 + u.2.2.2.2.2.2 i) (fun _ => 0)) (zPost (dC, dI) stCl [(cI, .int), (cJ, .long), (cZ, .boolean)] [(m0, .inr (5, [.int (iI 0), .int (iI ((n : Nat) : Int)), .ref k_ch, .ref k_co, .ref k_ua, .ref k_ub, .ref k_ba, .int (iI (fle 0)), .int (iI (fle 1)), .int (iI (fmo 0)), .int (iI (fmo 1)), .int (iI (bI HM)), .ref k_rt, .ref k_rf, .ref k_ct, .ref k_cf, .ref k_nd, .ref k_na, .ref k_no, .ref k_bt, .ref k_bc, .ref k_br, .int (iI bg), .int (iI pn), .ref k_pc, .ref k_pr, .ref k_la, .ref k_lb, .ref k_ha, .ref k_hb, .ref k_ls, .ref k_wc, .int (iI wd), .int (iI mg), .int (iI mw), .int (iI mc)])), (k_ch, .inl (cI, aI 13 fsz)), (k_co, .inl (cI, aI 78 fco)), (k_ba, .inl (cZ, aI 468 fba)), (k_ua, .inl (cI, aI 78 ffu)), (k_ub, .inl (cI, aI 78 fsu)), (k_rf, .inl (cJ, aL 152971 grf)), (k_cf, .inl (cI, aI 152971 gcf)), (k_bt, .inl (cI, aI 3000 gbt)), (k_bc, .inl (cI, aI 3000 gbc)), (k_br, .inl (cJ, aL 3000 gbr)), (k_pc, .inl (cI, aI 20 gpc)), (k_pr, .inl (cJ, aL 20 gpr))] sz (fun u : Int × Int × (Int → Int) × (Int → Int) × (Int → Int) × (Int → Int) × (Int → Int) => [(m0, .inr (5, [.int (iI 0), .int (iI ((n : Nat) : Int)), .ref k_ch, .ref k_co, .ref k_ua, .ref k_ub, .ref k_ba, .int (iI (fle 0)), .int (iI (fle 1)), .int (iI (fmo 0)), .int (iI (fmo 1)), .int (iI (bI HM)), .ref k_rt, .ref k_rf, .ref k_ct, .ref k_cf, .ref k_nd, .ref k_na, .ref k_no, .ref k_bt, .ref k_bc, .ref k_br, .int (iI (u.2.1)), .int (iI (u.1)), .ref k_pc, .ref k_pr, .ref k_la, .ref k_lb, .ref k_ha, .ref k_hb, .ref k_ls, .ref k_wc, .int (iI wd), .int (iI mg), .int (iI mw), .int (iI mc)])), (k_ch, .inl (cI, aI 13 fsz)), (k_co, .inl (cI, aI 78 fco)), (k_ba, .inl (cZ, aI 468 fba)), (k_ua, .inl (cI, aI 78 ffu)), (k_ub, .inl (cI, aI 78 fsu)), (k_rf, .inl (cJ, aL 152971 grf)), (k_cf, .inl (cI, aI 152971 gcf)), (k_bt, .inl (cI, aI 3000 (u.2.2.1))), (k_bc, .inl (cI, aI 3000 (u.2.2.2.1))), (k_br, .inl (cJ, aL 3000 (u.2.2.2.2.1))), (k_pc, .inl (cI, aI 20 (u.2.2.2.2.2.1))), (k_pr, .inl (cJ, aL 20 (u.2.2.2.2.2.2)))])) (va_A [(m0, .inr (5, [.int (iI 0), .int (iI ((n : Nat) : Int)), .ref k_ch, .ref k_co, .ref k_ua, .ref k_ub, .ref k_ba, .int (iI (fle 0)), .int (iI (fle 1)), .int (iI (fmo 0)), .int (iI (fmo 1)), .int (iI (bI HM)), .ref k_rt, .ref k_rf, .ref k_ct, .ref k_cf, .ref k_nd, .ref k_na, .ref k_no, .ref k_bt, .ref k_bc, .ref k_br, .int (iI bg), .int (iI pn), .ref k_pc, .ref k_pr, .ref k_la, .ref k_lb, .ref k_ha, .ref k_hb, .ref k_ls, .ref k_wc, .int (iI wd), .int (iI mg), .int (iI mw), .int (iI mc)])), (k_ch, .inl (cI, aI 13 fsz)), (k_co, .inl (cI, aI 78 fco)), (k_ba, .inl (cZ, aI 468 fba)), (k_ua, .inl (cI, aI 78 ffu)), (k_ub, .inl (cI, aI 78 fsu)), (k_rf, .inl (cJ, aL 152971 grf)), (k_cf, .inl (cI, aI 152971 gcf)), (k_bt, .inl (cI, aI 3000 gbt)), (k_bc, .inl (cI, aI 3000 gbc)), (k_br, .inl (cJ, aL 3000 gbr)), (k_pc, .inl (cI, aI 20 gpc)), (k_pr, .inl (cJ, aL 20 gpr))] sz)) 0 0 (va_A [(m0, .inr (5, [.int (iI 0), .int (iI ((n : Nat) : Int)), .ref k_ch, .ref k_co, .ref k_ua, .ref k_ub, .ref k_ba, .int (iI (fle 0)), .int (iI (fle 1)), .int (iI (fmo 0)), .int (iI (fmo 1)), .int (iI (bI HM)), .ref k_rt, .ref k_rf, .ref k_ct, .ref k_cf, .ref k_nd, .ref k_na, .ref k_no, .ref k_bt, .ref k_bc, .ref k_br, .int (iI bg), .int (iI pn), .ref k_pc, .ref k_pr, .ref k_la, .ref k_lb, .ref k_ha, .ref k_hb, .ref k_ls, .ref k_wc, .int (iI wd), .int (iI mg), .int (iI mw), .int (iI mc)])), (k_ch, .inl (cI, aI 13 fsz)), (k_co, .inl (cI, aI 78 fco)), (k_ba, .inl (cZ, aI 468 fba)), (k_ua, .inl (cI, aI 78 ffu)), (k_ub, .inl (cI, aI 78 fsu)), (k_rf, .inl (cJ, aL 152971 grf)), (k_cf, .inl (cI, aI 152971 gcf)), (k_bt, .inl (cI, aI 3000 gbt)), (k_bc, .inl (cI, aI 3000 gbc)), (k_br, .inl (cJ, aL 3000 gbr)), (k_pc, .inl (cI, aI 20 gpc)), (k_pr, .inl (cJ, aL 20 gpr))] sz) := by
  refine met_v (by decide) rfl (Nat.le_of_ble_eq_true rfl) ?_
  intro p e s m below meth c A Q C hmn hret
  refine g_aload_n C 0 std_M_findPlans_0 rfl ?_
  refine g_iconst C std_M_findPlans_1 ?_
  refine g_put C (ws' := [(m0, .inr (5, [.int (iI 0), .int (iI ((n : Nat) : Int)), .ref k_ch, .ref k_co, .ref k_ua, .ref k_ub, .ref k_ba, .int (iI (fle 0)), .int (iI (fle 1)), .int (iI (fmo 0)), .int (iI (fmo 1)), .int (iI (bI HM)), .ref k_rt, .ref k_rf, .ref k_ct, .ref k_cf, .ref k_nd, .ref k_na, .ref k_no, .ref k_bt, .ref k_bc, .ref k_br, .int (iI bg), .int (iI 0), .ref k_pc, .ref k_pr, .ref k_la, .ref k_lb, .ref k_ha, .ref k_hb, .ref k_ls, .ref k_wc, .int (iI wd), .int (iI mg), .int (iI mw), .int (iI mc)])), (k_ch, .inl (cI, aI 13 fsz)), (k_co, .inl (cI, aI 78 fco)), (k_ba, .inl (cZ, aI 468 fba)), (k_ua, .inl (cI, aI 78 ffu)), (k_ub, .inl (cI, aI 78 fsu)), (k_rf, .inl (cJ, aL 152971 grf)), (k_cf, .inl (cI, aI 152971 gcf)), (k_bt, .inl (cI, aI 3000 gbt)), (k_bc, .inl (cI, aI 3000 gbc)), (k_br, .inl (cJ, aL 3000 gbr)), (k_pc, .inl (cI, aI 20 gpc)), (k_pr, .inl (cJ, aL 20 gpr))]) (st_sub sti_M) stt_M sto_M stn_M 0 rfl rfl 23 (by decide) (List.mem_cons_of_mem _ kw_3_89) rfl rfl rfl rfl (Nat.le_of_ble_eq_true rfl) std_M_findPlans_2 rfl ?_
  refine g_aload_n C 0 std_M_findPlans_5 rfl ?_
  refine g_iconst C std_M_findPlans_6 ?_
  refine g_put C (ws' := [(m0, .inr (5, [.int (iI 0), .int (iI ((n : Nat) : Int)), .ref k_ch, .ref k_co, .ref k_ua, .ref k_ub, .ref k_ba, .int (iI (fle 0)), .int (iI (fle 1)), .int (iI (fmo 0)), .int (iI (fmo 1)), .int (iI (bI HM)), .ref k_rt, .ref k_rf, .ref k_ct, .ref k_cf, .ref k_nd, .ref k_na, .ref k_no, .ref k_bt, .ref k_bc, .ref k_br, .int (iI 0), .int (iI 0), .ref k_pc, .ref k_pr, .ref k_la, .ref k_lb, .ref k_ha, .ref k_hb, .ref k_ls, .ref k_wc, .int (iI wd), .int (iI mg), .int (iI mw), .int (iI mc)])), (k_ch, .inl (cI, aI 13 fsz)), (k_co, .inl (cI, aI 78 fco)), (k_ba, .inl (cZ, aI 468 fba)), (k_ua, .inl (cI, aI 78 ffu)), (k_ub, .inl (cI, aI 78 fsu)), (k_rf, .inl (cJ, aL 152971 grf)), (k_cf, .inl (cI, aI 152971 gcf)), (k_bt, .inl (cI, aI 3000 gbt)), (k_bc, .inl (cI, aI 3000 gbc)), (k_br, .inl (cJ, aL 3000 gbr)), (k_pc, .inl (cI, aI 20 gpc)), (k_pr, .inl (cJ, aL 20 gpr))]) (st_sub sti_M) stt_M sto_M stn_M 0 rfl rfl 22 (by decide) (List.mem_cons_of_mem _ kw_3_88) rfl rfl rfl rfl (Nat.le_of_ble_eq_true rfl) std_M_findPlans_7 rfl ?_
  refine g_iconst C std_M_findPlans_10 ?_
  refine g_iconst C std_M_findPlans_11 ?_
  refine g_iconst C std_M_findPlans_12 ?_
  refine g_iconst C std_M_findPlans_13 ?_
  refine g_S_i (wc := []) (wr := [(m0, .inr (5, [.int (iI 0), .int (iI ((n : Nat) : Int)), .ref k_ch, .ref k_co, .ref k_ua, .ref k_ub, .ref k_ba, .int (iI (fle 0)), .int (iI (fle 1)), .int (iI (fmo 0)), .int (iI (fmo 1)), .int (iI (bI HM)), .ref k_rt, .ref k_rf, .ref k_ct, .ref k_cf, .ref k_nd, .ref k_na, .ref k_no, .ref k_bt, .ref k_bc, .ref k_br, .int (iI 0), .int (iI 0), .ref k_pc, .ref k_pr, .ref k_la, .ref k_lb, .ref k_ha, .ref k_hb, .ref k_ls, .ref k_wc, .int (iI wd), .int (iI mg), .int (iI mw), .int (iI mc)])), (k_ch, .inl (cI, aI 13 fsz)), (k_co, .inl (cI, aI 78 fco)), (k_ba, .inl (cZ, aI 468 fba)), (k_ua, .inl (cI, aI 78 ffu)), (k_ub, .inl (cI, aI 78 fsu)), (k_rf, .inl (cJ, aL 152971 grf)), (k_cf, .inl (cI, aI 152971 gcf)), (k_bt, .inl (cI, aI 3000 gbt)), (k_bc, .inl (cI, aI 3000 gbc)), (k_br, .inl (cJ, aL 3000 gbr)), (k_pc, .inl (cI, aI 20 gpc)), (k_pr, .inl (cJ, aL 20 gpr))]) (rest := []) C (c_m_place l dC dI cI cJ cZ 0 0 0 (-1) ) (st_cS C kw_3_216 kw_3_214 kw_1_6 kw_3_215 sth_M_place ⟨Nat.le_of_ble_eq_true rfl, Nat.le_of_ble_eq_true rfl⟩) rfl rfl (Nat.le_of_ble_eq_true rfl) std_M_findPlans_14 ⟨Nat.le_of_ble_eq_true rfl, Nat.le_of_ble_eq_true rfl⟩ [] [0, 1, 2, 3, 4, 5, 6, 7, 8, 9, 10, 11, 12] rfl rfl rfl rfl (by decide) (fun r1 u2 h3 => ?_)
  subst h3
  refine g_ws (ws' := [(m0, .inr (5, [.int (iI 0), .int (iI ((n : Nat) : Int)), .ref k_ch, .ref k_co, .ref k_ua, .ref k_ub, .ref k_ba, .int (iI (fle 0)), .int (iI (fle 1)), .int (iI (fmo 0)), .int (iI (fmo 1)), .int (iI (bI HM)), .ref k_rt, .ref k_rf, .ref k_ct, .ref k_cf, .ref k_nd, .ref k_na, .ref k_no, .ref k_bt, .ref k_bc, .ref k_br, .int (iI 0), .int (iI 0), .ref k_pc, .ref k_pr, .ref k_la, .ref k_lb, .ref k_ha, .ref k_hb, .ref k_ls, .ref k_wc, .int (iI wd), .int (iI mg), .int (iI mw), .int (iI mc)])), (k_ch, .inl (cI, aI 13 fsz)), (k_co, .inl (cI, aI 78 fco)), (k_ba, .inl (cZ, aI 468 fba)), (k_ua, .inl (cI, aI 78 ffu)), (k_ub, .inl (cI, aI 78 fsu)), (k_rf, .inl (cJ, aL 152971 grf)), (k_cf, .inl (cI, aI 152971 gcf)), (k_bt, .inl (cI, aI 3000 gbt)), (k_bc, .inl (cI, aI 3000 gbc)), (k_br, .inl (cJ, aL 3000 gbr)), (k_pc, .inl (cI, aI 20 gpc)), (k_pr, .inl (cJ, aL 20 gpr))]) rfl ?_
  refine g_st (st' := [.int (iI 0)]) (by rw [show (((((11767 * 0) + (((41 * 0) + 0) * 7)) + (-1)) + 1) : Int) = 0 by omega]) ?_
  have hr0 := fb_root kT kFB
  have hrn := wf_nn (fsz := fsz) (ffu := ffu) (fsu := fsu) (fbb := fbb) (fmo := fmo) (fle := fle) n 0 0
  have hrb := wf_big (fle := fle) kT (j := n) (d := 0) (k := 0) (by omega)
  refine g_istore_n C (lv' := [(1, .int (iI 0)), (0, .ref m0)]) std_M_findPlans_17 (by decide) rfl ?_
  refine g_aload_n C 1 std_M_findPlans_18 rfl ?_
  refine g_get C (st_sub sti_M) 0 rfl rfl 13 (by decide) (List.mem_cons_of_mem _ kw_3_79) rfl rfl std_M_findPlans_19 ?_
  refine g_iload_n C 0 std_M_findPlans_22 rfl ?_
  refine g_lald C 6 1 rfl rfl (by omega) (by omega) (by omega) std_M_findPlans_23 ?_
  refine g_lconst C (z := 0) std_M_findPlans_24 (by decide) ?_
  refine g_lcmp_le (tgt := 36) C std_M_findPlans_25 std_M_findPlans_26 (by decide) ⟨by omega, by omega⟩ ⟨by omega, by omega⟩ (fun c4 => ?_) (fun c4 => ?_)
  · have L36 : ∀ (nn36 : Nat) (pp : Int) (mm : Int) (tt : Int) (BT : Int → Int) (BC : Int → Int) (BR : Int → Int) (PC : Int → Int) (PW : Int → Int), 0 ≤ mm → FR (PR fsz fco ffu fsu fbb fmo fle n) n gcf PC PW pp mm BT BC BR → FT gcf pp tt mm BT BC BR → (13 * (21 - pp) - tt) < (nn36 : Int) → G p l e ({ frames := 2, cells := 0, slots := 0, locals := 50 } : Room) s m ([.ref m0] : List Value).toArray below meth c (dC, dI) stCl 10 A 0 0 Q [(m0, .inr (5, [.int (iI 0), .int (iI ((n : Nat) : Int)), .ref k_ch, .ref k_co, .ref k_ua, .ref k_ub, .ref k_ba, .int (iI (fle 0)), .int (iI (fle 1)), .int (iI (fmo 0)), .int (iI (fmo 1)), .int (iI (bI HM)), .ref k_rt, .ref k_rf, .ref k_ct, .ref k_cf, .ref k_nd, .ref k_na, .ref k_no, .ref k_bt, .ref k_bc, .ref k_br, .int (iI mm), .int (iI pp), .ref k_pc, .ref k_pr, .ref k_la, .ref k_lb, .ref k_ha, .ref k_hb, .ref k_ls, .ref k_wc, .int (iI wd), .int (iI mg), .int (iI mw), .int (iI mc)])), (k_ch, .inl (cI, aI 13 fsz)), (k_co, .inl (cI, aI 78 fco)), (k_ba, .inl (cZ, aI 468 fba)), (k_ua, .inl (cI, aI 78 ffu)), (k_ub, .inl (cI, aI 78 fsu)), (k_rf, .inl (cJ, aL 152971 grf)), (k_cf, .inl (cI, aI 152971 gcf)), (k_bt, .inl (cI, aI 3000 BT)), (k_bc, .inl (cI, aI 3000 BC)), (k_br, .inl (cJ, aL 3000 BR)), (k_pc, .inl (cI, aI 20 PC)), (k_pr, .inl (cJ, aL 20 PW))] 36 [(0, .ref m0)] [] := by
      intro nn36
      induction nn36 with
      | zero =>
        intro pp mm tt BT BC BR PC PW km kF kt hnn36
        exact absurd hnn36 (by have h1 := kF.2.2.2.1.1; have h2 := kt.1; omega)
      | succ nn36 ih36 =>
        intro pp mm tt BT BC BR PC PW km kF kt hnn36
        have hfb := ft_b kF kt
        refine g_aload_n C 0 std_M_findPlans_36 rfl ?_
        refine g_get C (st_sub sti_M) 0 rfl rfl 22 (by decide) (List.mem_cons_of_mem _ kw_3_88) rfl rfl std_M_findPlans_37 ?_
        refine g_if_le (tgt := 308) C std_M_findPlans_40 (by decide) ⟨by omega, by omega⟩ (fun c5 => ?_) (fun c5 => ?_)
        · exact hret _ _ (pp, mm, BT, BC, BR, PC, PW) (⟨kF.2.2.2.1, fr_end kT kn12 kFB kF (by omega)⟩) std_M_findPlans_308
        · refine g_aload_n C 0 std_M_findPlans_43 rfl ?_
          refine g_get C (st_sub sti_M) 0 rfl rfl 23 (by decide) (List.mem_cons_of_mem _ kw_3_89) rfl rfl std_M_findPlans_44 ?_
          refine g_bipush C std_M_findPlans_47 (by decide) ?_
          refine g_icmp_ge (tgt := 308) C std_M_findPlans_49 (by decide) ⟨by omega, by omega⟩ ⟨by omega, by omega⟩ (fun c6 => ?_) (fun c6 => ?_)
          · exact hret _ _ (pp, mm, BT, BC, BR, PC, PW) (⟨kF.2.2.2.1, fr_end kT kn12 kFB kF (by omega)⟩) std_M_findPlans_308
          · refine g_iconst C std_M_findPlans_52 ?_
            refine g_istore_n C (lv' := [(2, .int (iI 0)), (0, .ref m0)]) std_M_findPlans_53 (by decide) rfl ?_
            refine g_iconst C std_M_findPlans_54 ?_
            refine g_istore_n C (lv' := [(3, .int (iI 1)), (2, .int (iI 0)), (0, .ref m0)]) std_M_findPlans_55 (by decide) rfl ?_
            have L56 : ∀ (nn56 : Nat) (x : Int) (q : Int), (1 ≤ x ∧ x ≤ mm) → (0 ≤ q ∧ q < mm) → (∀ i, 0 ≤ i → i < x → cde gcf (BT q) (BC q) (BR q) ≤ cde gcf (BT i) (BC i) (BR i)) → (mm - x) < (nn56 : Int) → G p l e ({ frames := 2, cells := 0, slots := 0, locals := 50 } : Room) s m ([.ref m0] : List Value).toArray below meth c (dC, dI) stCl 10 A 0 0 Q [(m0, .inr (5, [.int (iI 0), .int (iI ((n : Nat) : Int)), .ref k_ch, .ref k_co, .ref k_ua, .ref k_ub, .ref k_ba, .int (iI (fle 0)), .int (iI (fle 1)), .int (iI (fmo 0)), .int (iI (fmo 1)), .int (iI (bI HM)), .ref k_rt, .ref k_rf, .ref k_ct, .ref k_cf, .ref k_nd, .ref k_na, .ref k_no, .ref k_bt, .ref k_bc, .ref k_br, .int (iI mm), .int (iI pp), .ref k_pc, .ref k_pr, .ref k_la, .ref k_lb, .ref k_ha, .ref k_hb, .ref k_ls, .ref k_wc, .int (iI wd), .int (iI mg), .int (iI mw), .int (iI mc)])), (k_ch, .inl (cI, aI 13 fsz)), (k_co, .inl (cI, aI 78 fco)), (k_ba, .inl (cZ, aI 468 fba)), (k_ua, .inl (cI, aI 78 ffu)), (k_ub, .inl (cI, aI 78 fsu)), (k_rf, .inl (cJ, aL 152971 grf)), (k_cf, .inl (cI, aI 152971 gcf)), (k_bt, .inl (cI, aI 3000 BT)), (k_bc, .inl (cI, aI 3000 BC)), (k_br, .inl (cJ, aL 3000 BR)), (k_pc, .inl (cI, aI 20 PC)), (k_pr, .inl (cJ, aL 20 PW))] 56 [(3, .int (iI x)), (2, .int (iI q)), (0, .ref m0)] [] := by
              intro nn56
              induction nn56 with
              | zero =>
                intro x q kx kq kI hnn56
                exact absurd hnn56 (by omega)
              | succ nn56 ih56 =>
                intro x q kx kq kI hnn56
                refine g_iload_n C 0 std_M_findPlans_56 rfl ?_
                refine g_aload_n C 2 std_M_findPlans_57 rfl ?_
                refine g_get C (st_sub sti_M) 0 rfl rfl 22 (by decide) (List.mem_cons_of_mem _ kw_3_88) rfl rfl std_M_findPlans_58 ?_
                refine g_icmp_ge (tgt := 85) C std_M_findPlans_61 (by decide) ⟨by omega, by omega⟩ ⟨by omega, by omega⟩ (fun c7 => ?_) (fun c7 => ?_)
                · have hmin : ∀ i, 0 ≤ i → i < mm → cde gcf (BT q) (BC q) (BR q) ≤ cde gcf (BT i) (BC i) (BR i) := fun i h1 h2 => kI i h1 (by omega)
                  obtain ⟨d, k0, hdn, hat, hdv, hvk, hwt, hPR, hwid, hcd, hrr, hcc, hcf, hwp, har⟩ := eb_x kT kn12 kFB (kF.1 q (by omega) (by omega))
                  have htd := kt.2.2 q (by omega) (by omega) hmin
                  rw [hdv] at htd
                  have hsz := ksz ((d : Nat) : Int) (by omega) (by omega)
                  obtain ⟨W, hW⟩ : ∃ W : Int → Int, W = fun c => cod fsz fco ffu fsu fbb fmo fle n (d + 1) (BR q + c * 8 ^ (11 - d)) (kn fbb ffu fsu fmo ((d : Int) * 6 + c) c k0) (BC q + fco ((d : Int) * 6 + c)) := ⟨_, rfl⟩
                  refine g_aload_n C 2 std_M_findPlans_85 rfl ?_
                  refine g_get C (st_sub sti_M) 0 rfl rfl 19 (by decide) (List.mem_cons_of_mem _ kw_3_85) rfl rfl std_M_findPlans_86 ?_
                  refine g_iload_n C 1 std_M_findPlans_89 rfl ?_
                  refine g_iald C 8 0 rfl rfl (by omega) (by omega) (by omega) std_M_findPlans_90 ?_
                  refine g_istore_n C (lv' := [(3, .int (iI (BT q))), (2, .int (iI q)), (0, .ref m0)]) std_M_findPlans_91 (by decide) rfl ?_
                  refine g_aload_n C 2 std_M_findPlans_92 rfl ?_
                  refine g_get C (st_sub sti_M) 0 rfl rfl 20 (by decide) (List.mem_cons_of_mem _ kw_3_86) rfl rfl std_M_findPlans_93 ?_
                  refine g_iload_n C 1 std_M_findPlans_96 rfl ?_
                  refine g_iald C 9 0 rfl rfl (by omega) (by omega) (by omega) std_M_findPlans_97 ?_
                  refine g_istore C (lv' := [(4, .int (iI (BC q))), (3, .int (iI (BT q))), (2, .int (iI q)), (0, .ref m0)]) std_M_findPlans_98 (by decide) rfl ?_
                  refine g_aload_n C 3 std_M_findPlans_100 rfl ?_
                  refine g_get C (st_sub sti_M) 0 rfl rfl 21 (by decide) (List.mem_cons_of_mem _ kw_3_87) rfl rfl std_M_findPlans_101 ?_
                  refine g_iload_n C 2 std_M_findPlans_104 rfl ?_
                  refine g_lald C 10 1 rfl rfl (by omega) (by omega) (by omega) std_M_findPlans_105 ?_
                  refine g_lstore C (lv' := [(5, .long (lI (BR q))), (4, .int (iI (BC q))), (3, .int (iI (BT q))), (2, .int (iI q)), (0, .ref m0)]) std_M_findPlans_106 (by decide) rfl ?_
                  refine g_aload_n C 4 std_M_findPlans_108 rfl ?_
                  refine g_dup C std_M_findPlans_109 rfl ?_
                  refine g_get C (st_sub sti_M) 0 rfl rfl 22 (by decide) (List.mem_cons_of_mem _ kw_3_88) rfl rfl std_M_findPlans_110 ?_
                  refine g_iconst C std_M_findPlans_113 ?_
                  refine g_isub C std_M_findPlans_114 ?_
                  refine g_put C (ws' := [(m0, .inr (5, [.int (iI 0), .int (iI ((n : Nat) : Int)), .ref k_ch, .ref k_co, .ref k_ua, .ref k_ub, .ref k_ba, .int (iI (fle 0)), .int (iI (fle 1)), .int (iI (fmo 0)), .int (iI (fmo 1)), .int (iI (bI HM)), .ref k_rt, .ref k_rf, .ref k_ct, .ref k_cf, .ref k_nd, .ref k_na, .ref k_no, .ref k_bt, .ref k_bc, .ref k_br, .int (iI (mm - 1)), .int (iI pp), .ref k_pc, .ref k_pr, .ref k_la, .ref k_lb, .ref k_ha, .ref k_hb, .ref k_ls, .ref k_wc, .int (iI wd), .int (iI mg), .int (iI mw), .int (iI mc)])), (k_ch, .inl (cI, aI 13 fsz)), (k_co, .inl (cI, aI 78 fco)), (k_ba, .inl (cZ, aI 468 fba)), (k_ua, .inl (cI, aI 78 ffu)), (k_ub, .inl (cI, aI 78 fsu)), (k_rf, .inl (cJ, aL 152971 grf)), (k_cf, .inl (cI, aI 152971 gcf)), (k_bt, .inl (cI, aI 3000 BT)), (k_bc, .inl (cI, aI 3000 BC)), (k_br, .inl (cJ, aL 3000 BR)), (k_pc, .inl (cI, aI 20 PC)), (k_pr, .inl (cJ, aL 20 PW))]) (st_sub sti_M) stt_M sto_M stn_M 0 rfl rfl 22 (by decide) (List.mem_cons_of_mem _ kw_3_88) rfl rfl rfl rfl (Nat.le_of_ble_eq_true rfl) std_M_findPlans_115 rfl ?_
                  refine g_aload_n C 4 std_M_findPlans_118 rfl ?_
                  refine g_get C (st_sub sti_M) 0 rfl rfl 19 (by decide) (List.mem_cons_of_mem _ kw_3_85) rfl rfl std_M_findPlans_119 ?_
                  refine g_iload_n C 3 std_M_findPlans_122 rfl ?_
                  refine g_aload_n C 4 std_M_findPlans_123 rfl ?_
                  refine g_get C (st_sub sti_M) 0 rfl rfl 19 (by decide) (List.mem_cons_of_mem _ kw_3_85) rfl rfl std_M_findPlans_124 ?_
                  refine g_aload_n C 4 std_M_findPlans_127 rfl ?_
                  refine g_get C (st_sub sti_M) 0 rfl rfl 22 (by decide) (List.mem_cons_of_mem _ kw_3_88) rfl rfl std_M_findPlans_128 ?_
                  refine g_iald C 8 0 rfl rfl (by omega) (by omega) (by omega) std_M_findPlans_131 ?_
                  refine g_iast C (ws' := [(m0, .inr (5, [.int (iI 0), .int (iI ((n : Nat) : Int)), .ref k_ch, .ref k_co, .ref k_ua, .ref k_ub, .ref k_ba, .int (iI (fle 0)), .int (iI (fle 1)), .int (iI (fmo 0)), .int (iI (fmo 1)), .int (iI (bI HM)), .ref k_rt, .ref k_rf, .ref k_ct, .ref k_cf, .ref k_nd, .ref k_na, .ref k_no, .ref k_bt, .ref k_bc, .ref k_br, .int (iI (mm - 1)), .int (iI pp), .ref k_pc, .ref k_pr, .ref k_la, .ref k_lb, .ref k_ha, .ref k_hb, .ref k_ls, .ref k_wc, .int (iI wd), .int (iI mg), .int (iI mw), .int (iI mc)])), (k_ch, .inl (cI, aI 13 fsz)), (k_co, .inl (cI, aI 78 fco)), (k_ba, .inl (cZ, aI 468 fba)), (k_ua, .inl (cI, aI 78 ffu)), (k_ub, .inl (cI, aI 78 fsu)), (k_rf, .inl (cJ, aL 152971 grf)), (k_cf, .inl (cI, aI 152971 gcf)), (k_bt, .inl (cI, aI 3000 (uZ BT q (BT (mm - 1))))), (k_bc, .inl (cI, aI 3000 BC)), (k_br, .inl (cJ, aL 3000 BR)), (k_pc, .inl (cI, aI 20 PC)), (k_pr, .inl (cJ, aL 20 PW))]) 8 0 rfl rfl (by omega) (by omega) (by omega) std_M_findPlans_132 rfl ?_
                  refine g_aload_n C 4 std_M_findPlans_133 rfl ?_
                  refine g_get C (st_sub sti_M) 0 rfl rfl 20 (by decide) (List.mem_cons_of_mem _ kw_3_86) rfl rfl std_M_findPlans_134 ?_
                  refine g_iload_n C 3 std_M_findPlans_137 rfl ?_
                  refine g_aload_n C 4 std_M_findPlans_138 rfl ?_
                  refine g_get C (st_sub sti_M) 0 rfl rfl 20 (by decide) (List.mem_cons_of_mem _ kw_3_86) rfl rfl std_M_findPlans_139 ?_
                  refine g_aload_n C 4 std_M_findPlans_142 rfl ?_
                  refine g_get C (st_sub sti_M) 0 rfl rfl 22 (by decide) (List.mem_cons_of_mem _ kw_3_88) rfl rfl std_M_findPlans_143 ?_
                  refine g_iald C 9 0 rfl rfl (by omega) (by omega) (by omega) std_M_findPlans_146 ?_
                  refine g_iast C (ws' := [(m0, .inr (5, [.int (iI 0), .int (iI ((n : Nat) : Int)), .ref k_ch, .ref k_co, .ref k_ua, .ref k_ub, .ref k_ba, .int (iI (fle 0)), .int (iI (fle 1)), .int (iI (fmo 0)), .int (iI (fmo 1)), .int (iI (bI HM)), .ref k_rt, .ref k_rf, .ref k_ct, .ref k_cf, .ref k_nd, .ref k_na, .ref k_no, .ref k_bt, .ref k_bc, .ref k_br, .int (iI (mm - 1)), .int (iI pp), .ref k_pc, .ref k_pr, .ref k_la, .ref k_lb, .ref k_ha, .ref k_hb, .ref k_ls, .ref k_wc, .int (iI wd), .int (iI mg), .int (iI mw), .int (iI mc)])), (k_ch, .inl (cI, aI 13 fsz)), (k_co, .inl (cI, aI 78 fco)), (k_ba, .inl (cZ, aI 468 fba)), (k_ua, .inl (cI, aI 78 ffu)), (k_ub, .inl (cI, aI 78 fsu)), (k_rf, .inl (cJ, aL 152971 grf)), (k_cf, .inl (cI, aI 152971 gcf)), (k_bt, .inl (cI, aI 3000 (uZ BT q (BT (mm - 1))))), (k_bc, .inl (cI, aI 3000 (uZ BC q (BC (mm - 1))))), (k_br, .inl (cJ, aL 3000 BR)), (k_pc, .inl (cI, aI 20 PC)), (k_pr, .inl (cJ, aL 20 PW))]) 9 0 rfl rfl (by omega) (by omega) (by omega) std_M_findPlans_147 rfl ?_
                  refine g_aload_n C 4 std_M_findPlans_148 rfl ?_
                  refine g_get C (st_sub sti_M) 0 rfl rfl 21 (by decide) (List.mem_cons_of_mem _ kw_3_87) rfl rfl std_M_findPlans_149 ?_
                  refine g_iload_n C 3 std_M_findPlans_152 rfl ?_
                  refine g_aload_n C 4 std_M_findPlans_153 rfl ?_
                  refine g_get C (st_sub sti_M) 0 rfl rfl 21 (by decide) (List.mem_cons_of_mem _ kw_3_87) rfl rfl std_M_findPlans_154 ?_
                  refine g_aload_n C 4 std_M_findPlans_157 rfl ?_
                  refine g_get C (st_sub sti_M) 0 rfl rfl 22 (by decide) (List.mem_cons_of_mem _ kw_3_88) rfl rfl std_M_findPlans_158 ?_
                  refine g_lald C 10 1 rfl rfl (by omega) (by omega) (by omega) std_M_findPlans_161 ?_
                  refine g_last C (ws' := [(m0, .inr (5, [.int (iI 0), .int (iI ((n : Nat) : Int)), .ref k_ch, .ref k_co, .ref k_ua, .ref k_ub, .ref k_ba, .int (iI (fle 0)), .int (iI (fle 1)), .int (iI (fmo 0)), .int (iI (fmo 1)), .int (iI (bI HM)), .ref k_rt, .ref k_rf, .ref k_ct, .ref k_cf, .ref k_nd, .ref k_na, .ref k_no, .ref k_bt, .ref k_bc, .ref k_br, .int (iI (mm - 1)), .int (iI pp), .ref k_pc, .ref k_pr, .ref k_la, .ref k_lb, .ref k_ha, .ref k_hb, .ref k_ls, .ref k_wc, .int (iI wd), .int (iI mg), .int (iI mw), .int (iI mc)])), (k_ch, .inl (cI, aI 13 fsz)), (k_co, .inl (cI, aI 78 fco)), (k_ba, .inl (cZ, aI 468 fba)), (k_ua, .inl (cI, aI 78 ffu)), (k_ub, .inl (cI, aI 78 fsu)), (k_rf, .inl (cJ, aL 152971 grf)), (k_cf, .inl (cI, aI 152971 gcf)), (k_bt, .inl (cI, aI 3000 (uZ BT q (BT (mm - 1))))), (k_bc, .inl (cI, aI 3000 (uZ BC q (BC (mm - 1))))), (k_br, .inl (cJ, aL 3000 (uZ BR q (BR (mm - 1))))), (k_pc, .inl (cI, aI 20 PC)), (k_pr, .inl (cJ, aL 20 PW))]) 10 1 rfl rfl (by omega) (by omega) (by omega) std_M_findPlans_162 rfl ?_
                  refine g_iload_n C 2 std_M_findPlans_163 rfl ?_
                  refine g_sipush C std_M_findPlans_164 (by decide) ?_
                  refine g_idiv C std_M_findPlans_167 (by omega) (by decide) ?_
                  refine g_st (st' := [.int (iI ((d : Nat) : Int))]) (by rw [hdv]) ?_
                  refine g_istore C (lv' := [(7, .int (iI ((d : Nat) : Int))), (5, .long (lI (BR q))), (4, .int (iI (BC q))), (3, .int (iI (BT q))), (2, .int (iI q)), (0, .ref m0)]) std_M_findPlans_168 (by decide) rfl ?_
                  refine g_iload C 0 std_M_findPlans_170 rfl ?_
                  refine g_aload_n C 5 std_M_findPlans_172 rfl ?_
                  refine g_get C (st_sub sti_M) 0 rfl rfl 1 (by decide) (List.mem_cons_of_mem _ kw_3_67) rfl rfl std_M_findPlans_173 ?_
                  refine g_icmp_ne (tgt := 211) C std_M_findPlans_176 (by decide) ⟨by omega, by omega⟩ ⟨by omega, by omega⟩ (fun c8 => ?_) (fun c8 => ?_)
                  · refine g_iconst C std_M_findPlans_211 ?_
                    refine g_istore C (lv' := [(8, .int (iI 0)), (7, .int (iI ((d : Nat) : Int))), (5, .long (lI (BR q))), (4, .int (iI (BC q))), (3, .int (iI (BT q))), (2, .int (iI q)), (0, .ref m0)]) std_M_findPlans_212 (by decide) rfl ?_
                    have L214 : ∀ (nn214 : Nat) (y : Int) (bb : Int) (A1 : Int → Int) (C1 : Int → Int) (R1 : Int → Int), (0 ≤ y ∧ y ≤ fsz ((d : Nat) : Int)) → (0 ≤ bb ∧ bb ≤ mm - 1 + y) → FH fsz fbb ffu fsu fmo fle (PR fsz fco ffu fsu fbb fmo fle n) n gcf PC PW pp bb A1 C1 R1 d k0 (BR q) (cde gcf (BT q) (BC q) (BR q)) W y → (fsz ((d : Nat) : Int) - y) < (nn214 : Int) → G p l e ({ frames := 2, cells := 0, slots := 0, locals := 50 } : Room) s m ([.ref m0] : List Value).toArray below meth c (dC, dI) stCl 10 A 0 0 Q [(m0, .inr (5, [.int (iI 0), .int (iI ((n : Nat) : Int)), .ref k_ch, .ref k_co, .ref k_ua, .ref k_ub, .ref k_ba, .int (iI (fle 0)), .int (iI (fle 1)), .int (iI (fmo 0)), .int (iI (fmo 1)), .int (iI (bI HM)), .ref k_rt, .ref k_rf, .ref k_ct, .ref k_cf, .ref k_nd, .ref k_na, .ref k_no, .ref k_bt, .ref k_bc, .ref k_br, .int (iI bb), .int (iI pp), .ref k_pc, .ref k_pr, .ref k_la, .ref k_lb, .ref k_ha, .ref k_hb, .ref k_ls, .ref k_wc, .int (iI wd), .int (iI mg), .int (iI mw), .int (iI mc)])), (k_ch, .inl (cI, aI 13 fsz)), (k_co, .inl (cI, aI 78 fco)), (k_ba, .inl (cZ, aI 468 fba)), (k_ua, .inl (cI, aI 78 ffu)), (k_ub, .inl (cI, aI 78 fsu)), (k_rf, .inl (cJ, aL 152971 grf)), (k_cf, .inl (cI, aI 152971 gcf)), (k_bt, .inl (cI, aI 3000 A1)), (k_bc, .inl (cI, aI 3000 C1)), (k_br, .inl (cJ, aL 3000 R1)), (k_pc, .inl (cI, aI 20 PC)), (k_pr, .inl (cJ, aL 20 PW))] 214 [(8, .int (iI y)), (7, .int (iI ((d : Nat) : Int))), (5, .long (lI (BR q))), (4, .int (iI (BC q))), (3, .int (iI (BT q))), (0, .ref m0)] [] := by
                      intro nn214
                      induction nn214 with
                      | zero =>
                        intro y bb A1 C1 R1 ky kb kH hnn214
                        exact absurd hnn214 (by omega)
                      | succ nn214 ih214 =>
                        intro y bb A1 C1 R1 ky kb kH hnn214
                        refine g_iload C 0 std_M_findPlans_214 rfl ?_
                        refine g_aload_n C 5 std_M_findPlans_216 rfl ?_
                        refine g_get C (st_sub sti_M) 0 rfl rfl 2 (by decide) (List.mem_cons_of_mem _ kw_3_68) rfl rfl std_M_findPlans_217 ?_
                        refine g_iload C 1 std_M_findPlans_220 rfl ?_
                        refine g_iald C 1 0 rfl rfl (by omega) (by omega) (by omega) std_M_findPlans_222 ?_
                        refine g_icmp_ge (tgt := 305) C std_M_findPlans_223 (by decide) ⟨by omega, by omega⟩ ⟨by omega, by omega⟩ (fun c9 => ?_) (fun c9 => ?_)
                        · refine g_goto (tgt := 36) C std_M_findPlans_305 (by decide) ?_
                          refine g_lv (lv' := [(0, .ref m0)]) [5] rfl ?_
                          exact ih36 pp bb (tt + 1) A1 C1 R1 PC PW (by omega) (fh_fr kT kn12 (by omega) hPR kH (by omega)) (fh_ft kT kn12 kFB (by omega) hPR hcd hW kH (by omega) ⟨by omega, by omega⟩ kt.2.1 (by omega)) (by omega)
                        · refine g_iload C 1 std_M_findPlans_226 rfl ?_
                          refine g_aload_n C 5 std_M_findPlans_228 rfl ?_
                          refine g_get C (st_sub sti_M) 0 rfl rfl 1 (by decide) (List.mem_cons_of_mem _ kw_3_67) rfl rfl std_M_findPlans_229 ?_
                          refine g_icmp_ge (tgt := 305) C std_M_findPlans_232 (by decide) ⟨by omega, by omega⟩ ⟨by omega, by omega⟩ (fun c10 => ?_) (fun c10 => ?_)
                          · refine g_goto (tgt := 36) C std_M_findPlans_305 (by decide) ?_
                            refine g_lv (lv' := [(0, .ref m0)]) [5] rfl ?_
                            exact ih36 pp bb (tt + 1) A1 C1 R1 PC PW (by omega) (fh_fr kT kn12 (by omega) hPR kH (by omega)) (fh_ft kT kn12 kFB (by omega) hPR hcd hW kH (by omega) ⟨by omega, by omega⟩ kt.2.1 (by omega)) (by omega)
                          · refine g_aload_n C 5 std_M_findPlans_235 rfl ?_
                            refine g_iload_n C 4 std_M_findPlans_236 rfl ?_
                            refine g_iload C 0 std_M_findPlans_237 rfl ?_
                            refine g_V_i (wc := [(m0, .inr (5, [.int (iI 0), .int (iI ((n : Nat) : Int)), .ref k_ch, .ref k_co, .ref k_ua, .ref k_ub, .ref k_ba, .int (iI (fle 0)), .int (iI (fle 1)), .int (iI (fmo 0)), .int (iI (fmo 1)), .int (iI (bI HM)), .ref k_rt, .ref k_rf, .ref k_ct, .ref k_cf, .ref k_nd, .ref k_na, .ref k_no, .ref k_bt, .ref k_bc, .ref k_br, .int (iI bb), .int (iI pp), .ref k_pc, .ref k_pr, .ref k_la, .ref k_lb, .ref k_ha, .ref k_hb, .ref k_ls, .ref k_wc, .int (iI wd), .int (iI mg), .int (iI mw), .int (iI mc)])), (k_ba, .inl (cZ, aI 468 fba)), (k_ua, .inl (cI, aI 78 ffu)), (k_ub, .inl (cI, aI 78 fsu))]) (wr := [(k_ch, .inl (cI, aI 13 fsz)), (k_co, .inl (cI, aI 78 fco)), (k_rf, .inl (cJ, aL 152971 grf)), (k_cf, .inl (cI, aI 152971 gcf)), (k_bt, .inl (cI, aI 3000 A1)), (k_bc, .inl (cI, aI 3000 C1)), (k_br, .inl (cJ, aL 3000 R1)), (k_pc, .inl (cI, aI 20 PC)), (k_pr, .inl (cJ, aL 20 PW))]) (rest := []) C (c_m_next l dC dI cI cJ cZ m0 k_ch k_co k_ua k_ub k_ba k_rt k_rf k_ct k_cf k_nd k_na k_no k_bt k_bc k_br k_pc k_pr k_la k_lb k_ha k_hb k_ls k_wc HM bb pp wd mg mw mc ((n : Nat) : Int) d fle fba fsz fco ffu fsu fbb fmo (BT q) y k0 (kBR) (kT) (by omega) (by omega) (hvk) (fun z0 => by subst z0; exact wt_00 hwt) (hat)) (st_cV C kw_3_224 kw_3_221 kw_1_6 kw_3_223 kw_0_21 sth_M_next ⟨Nat.le_of_ble_eq_true rfl, Nat.le_of_ble_eq_true rfl⟩) 0 rfl rfl rfl rfl (Nat.le_of_ble_eq_true rfl) std_M_findPlans_239 ⟨Nat.le_of_ble_eq_true rfl, Nat.le_of_ble_eq_true rfl⟩ [0, 3, 4, 5] [1, 2, 6, 7, 8, 9, 10, 11, 12] rfl rfl rfl rfl (by decide) (fun r11 u12 h13 => ?_)
                            subst h13
                            refine g_ws (ws' := [(k_ch, .inl (cI, aI 13 fsz)), (k_co, .inl (cI, aI 78 fco)), (k_rf, .inl (cJ, aL 152971 grf)), (k_cf, .inl (cI, aI 152971 gcf)), (k_bt, .inl (cI, aI 3000 A1)), (k_bc, .inl (cI, aI 3000 C1)), (k_br, .inl (cJ, aL 3000 R1)), (k_pc, .inl (cI, aI 20 PC)), (k_pr, .inl (cJ, aL 20 PW)), (m0, .inr (5, [.int (iI 0), .int (iI ((n : Nat) : Int)), .ref k_ch, .ref k_co, .ref k_ua, .ref k_ub, .ref k_ba, .int (iI (fle 0)), .int (iI (fle 1)), .int (iI (fmo 0)), .int (iI (fmo 1)), .int (iI (bI HM)), .ref k_rt, .ref k_rf, .ref k_ct, .ref k_cf, .ref k_nd, .ref k_na, .ref k_no, .ref k_bt, .ref k_bc, .ref k_br, .int (iI bb), .int (iI pp), .ref k_pc, .ref k_pr, .ref k_la, .ref k_lb, .ref k_ha, .ref k_hb, .ref k_ls, .ref k_wc, .int (iI wd), .int (iI mg), .int (iI mw), .int (iI mc)])), (k_ba, .inl (cZ, aI 468 fba)), (k_ua, .inl (cI, aI 78 ffu)), (k_ub, .inl (cI, aI 78 fsu))]) rfl ?_
                            have hnx : ((kn fbb ffu fsu fmo ((((d : Nat) : Int) * 6) + y) y k0) = -1 ∧ (nxt fbb ffu fsu fmo ((d : Nat) : Int) y k0) = -1000000) ∨ (¬ (kn fbb ffu fsu fmo ((((d : Nat) : Int) * 6) + y) y k0) = -1 ∧ (nxt fbb ffu fsu fmo ((d : Nat) : Int) y k0) = 11767 * (((d : Nat) : Int) + 1) + kat (kn fbb ffu fsu fmo ((((d : Nat) : Int) * 6) + y) y k0)) := nx_cases
                            have hvr : ¬ (kn fbb ffu fsu fmo ((((d : Nat) : Int) * 6) + y) y k0) = -1 → 0 ≤ kat (kn fbb ffu fsu fmo ((((d : Nat) : Int) * 6) + y) y k0) ∧ kat (kn fbb ffu fsu fmo ((((d : Nat) : Int) * 6) + y) y k0) < 11767 := fun z0 => (kat_r (kn_vk kT (by omega) (by omega) (by omega) (by omega) hvk z0).1).1
                            refine g_istore C (lv' := [(9, .int (iI (nxt fbb ffu fsu fmo ((d : Nat) : Int) y k0))), (8, .int (iI y)), (7, .int (iI ((d : Nat) : Int))), (5, .long (lI (BR q))), (4, .int (iI (BC q))), (3, .int (iI (BT q))), (0, .ref m0)]) std_M_findPlans_242 (by decide) rfl ?_
                            refine g_iload C 0 std_M_findPlans_244 rfl ?_
                            refine g_ldc C (z := (-1000000)) (List.mem_cons_of_mem _ kw_3_234) (by decide) std_M_findPlans_246 ?_
                            refine g_icmp_eq (tgt := 299) C std_M_findPlans_248 (by decide) ⟨by omega, by omega⟩ ⟨by omega, by omega⟩ (fun c14 => ?_) (fun c14 => ?_)
                            · have hsh : (kn fbb ffu fsu fmo ((((d : Nat) : Int) * 6) + y) y k0) = -1 := by omega
                              refine g_iinc C (lv' := [(8, .int (iI (y + 1))), (9, .int (iI (nxt fbb ffu fsu fmo ((d : Nat) : Int) y k0))), (7, .int (iI ((d : Nat) : Int))), (5, .long (lI (BR q))), (4, .int (iI (BC q))), (3, .int (iI (BT q))), (0, .ref m0)]) 1 std_M_findPlans_299 rfl (by decide) rfl ?_
                              refine g_goto (tgt := 214) C std_M_findPlans_302 (by decide) ?_
                              refine g_sub (ws' := [(m0, .inr (5, [.int (iI 0), .int (iI ((n : Nat) : Int)), .ref k_ch, .ref k_co, .ref k_ua, .ref k_ub, .ref k_ba, .int (iI (fle 0)), .int (iI (fle 1)), .int (iI (fmo 0)), .int (iI (fmo 1)), .int (iI (bI HM)), .ref k_rt, .ref k_rf, .ref k_ct, .ref k_cf, .ref k_nd, .ref k_na, .ref k_no, .ref k_bt, .ref k_bc, .ref k_br, .int (iI bb), .int (iI pp), .ref k_pc, .ref k_pr, .ref k_la, .ref k_lb, .ref k_ha, .ref k_hb, .ref k_ls, .ref k_wc, .int (iI wd), .int (iI mg), .int (iI mw), .int (iI mc)])), (k_ch, .inl (cI, aI 13 fsz)), (k_co, .inl (cI, aI 78 fco)), (k_ba, .inl (cZ, aI 468 fba)), (k_ua, .inl (cI, aI 78 ffu)), (k_ub, .inl (cI, aI 78 fsu)), (k_rf, .inl (cJ, aL 152971 grf)), (k_cf, .inl (cI, aI 152971 gcf)), (k_bt, .inl (cI, aI 3000 A1)), (k_bc, .inl (cI, aI 3000 C1)), (k_br, .inl (cJ, aL 3000 R1)), (k_pc, .inl (cI, aI 20 PC)), (k_pr, .inl (cJ, aL 20 PW))]) [9, 0, 1, 10, 11, 12, 2, 3, 4, 5, 6, 7, 8] rfl rfl ?_
                              refine g_lv (lv' := [(8, .int (iI (y + 1))), (7, .int (iI ((d : Nat) : Int))), (5, .long (lI (BR q))), (4, .int (iI (BC q))), (3, .int (iI (BT q))), (0, .ref m0)]) [0, 2, 3, 4, 5, 6] rfl ?_
                              refine g_wide (k := 0) (n := 0) (Nat.le_of_ble_eq_true rfl) (Nat.le_of_ble_eq_true rfl) ?_
                              exact ih214 (y + 1) bb A1 C1 R1 (by omega) (by omega) (fh_no kT kn12 (by omega) hPR kH ⟨by omega, by omega⟩ (fun z0 => z0.1 hsh)) (by omega)
                            · have hop : ¬ (kn fbb ffu fsu fmo ((((d : Nat) : Int) * 6) + y) y k0) = -1 := by omega
                              have hvr2 := hvr hop
                              have hto : (nxt fbb ffu fsu fmo ((d : Nat) : Int) y k0) = 11767 * (((d : Nat) : Int) + 1) + kat (kn fbb ffu fsu fmo ((((d : Nat) : Int) * 6) + y) y k0) := by omega
                              have hFb := (kFB (d + 1) (by omega) (kn fbb ffu fsu fmo ((((d : Nat) : Int) * 6) + y) y k0) (kn_vk kT (by omega) (by omega) (by omega) (by omega) hvk hop).1 (wt_pos kT (by omega) (by omega) (by omega) hvk hwt hop)).1
                              rw [show 11767 * ((d + 1 : Nat) : Int) = 11767 * (((d : Nat) : Int) + 1) by omega, ← hto] at hFb
                              have hwn := wf_nn (fsz := fsz) (ffu := ffu) (fsu := fsu) (fbb := fbb) (fmo := fmo) (fle := fle) (n - (d + 1)) (d + 1) (kn fbb ffu fsu fmo ((((d : Nat) : Int) * 6) + y) y k0)
                              have hwb := wf_big (fle := fle) kT (j := n - (d + 1)) (d := d + 1) (k := (kn fbb ffu fsu fmo ((((d : Nat) : Int) * 6) + y) y k0)) (by omega)
                              refine g_aload_n C 6 std_M_findPlans_251 rfl ?_
                              refine g_get C (st_sub sti_M) 9 rfl rfl 13 (by decide) (List.mem_cons_of_mem _ kw_3_79) rfl rfl std_M_findPlans_252 ?_
                              refine g_iload C 0 std_M_findPlans_255 rfl ?_
                              refine g_lald C 2 1 rfl rfl (by omega) (by omega) (by omega) std_M_findPlans_257 ?_
                              refine g_lconst C (z := 0) std_M_findPlans_258 (by decide) ?_
                              refine g_lcmp_le (tgt := 299) C std_M_findPlans_259 std_M_findPlans_260 (by decide) ⟨by omega, by omega⟩ ⟨by omega, by omega⟩ (fun c15 => ?_) (fun c15 => ?_)
                              · refine g_iinc C (lv' := [(8, .int (iI (y + 1))), (9, .int (iI (nxt fbb ffu fsu fmo ((d : Nat) : Int) y k0))), (7, .int (iI ((d : Nat) : Int))), (5, .long (lI (BR q))), (4, .int (iI (BC q))), (3, .int (iI (BT q))), (0, .ref m0)]) 1 std_M_findPlans_299 rfl (by decide) rfl ?_
                                refine g_goto (tgt := 214) C std_M_findPlans_302 (by decide) ?_
                                refine g_sub (ws' := [(m0, .inr (5, [.int (iI 0), .int (iI ((n : Nat) : Int)), .ref k_ch, .ref k_co, .ref k_ua, .ref k_ub, .ref k_ba, .int (iI (fle 0)), .int (iI (fle 1)), .int (iI (fmo 0)), .int (iI (fmo 1)), .int (iI (bI HM)), .ref k_rt, .ref k_rf, .ref k_ct, .ref k_cf, .ref k_nd, .ref k_na, .ref k_no, .ref k_bt, .ref k_bc, .ref k_br, .int (iI bb), .int (iI pp), .ref k_pc, .ref k_pr, .ref k_la, .ref k_lb, .ref k_ha, .ref k_hb, .ref k_ls, .ref k_wc, .int (iI wd), .int (iI mg), .int (iI mw), .int (iI mc)])), (k_ch, .inl (cI, aI 13 fsz)), (k_co, .inl (cI, aI 78 fco)), (k_ba, .inl (cZ, aI 468 fba)), (k_ua, .inl (cI, aI 78 ffu)), (k_ub, .inl (cI, aI 78 fsu)), (k_rf, .inl (cJ, aL 152971 grf)), (k_cf, .inl (cI, aI 152971 gcf)), (k_bt, .inl (cI, aI 3000 A1)), (k_bc, .inl (cI, aI 3000 C1)), (k_br, .inl (cJ, aL 3000 R1)), (k_pc, .inl (cI, aI 20 PC)), (k_pr, .inl (cJ, aL 20 PW))]) [9, 0, 1, 10, 11, 12, 2, 3, 4, 5, 6, 7, 8] rfl rfl ?_
                                refine g_lv (lv' := [(8, .int (iI (y + 1))), (7, .int (iI ((d : Nat) : Int))), (5, .long (lI (BR q))), (4, .int (iI (BC q))), (3, .int (iI (BT q))), (0, .ref m0)]) [0, 2, 3, 4, 5, 6] rfl ?_
                                refine g_wide (k := 0) (n := 0) (Nat.le_of_ble_eq_true rfl) (Nat.le_of_ble_eq_true rfl) ?_
                                exact ih214 (y + 1) bb A1 C1 R1 (by omega) (by omega) (fh_no kT kn12 (by omega) hPR kH ⟨by omega, by omega⟩ (fun z0 => by have := z0.2; omega)) (by omega)
                              · have hco := kT.2.1 ((((d : Nat) : Int) * 6) + y) (by omega) (by omega)
                                refine g_aload_n C 6 std_M_findPlans_263 rfl ?_
                                refine g_iload C 0 std_M_findPlans_264 rfl ?_
                                refine g_iload C 4 std_M_findPlans_266 rfl ?_
                                refine g_aload_n C 6 std_M_findPlans_268 rfl ?_
                                refine g_get C (st_sub sti_M) 9 rfl rfl 3 (by decide) (List.mem_cons_of_mem _ kw_3_69) rfl rfl std_M_findPlans_269 ?_
                                refine g_bipush C std_M_findPlans_272 (by decide) ?_
                                refine g_iload C 2 std_M_findPlans_274 rfl ?_
                                refine g_imul C std_M_findPlans_276 ?_
                                refine g_iload C 1 std_M_findPlans_277 rfl ?_
                                refine g_iadd C std_M_findPlans_279 ?_
                                refine g_iald C 1 0 rfl rfl (by omega) (by omega) (by omega) std_M_findPlans_280 ?_
                                refine g_iadd C std_M_findPlans_281 ?_
                                refine g_lload C 3 std_M_findPlans_282 rfl ?_
                                refine g_iload C 1 std_M_findPlans_284 rfl ?_
                                refine g_i2l C std_M_findPlans_286 ⟨by omega, by omega⟩ ?_
                                refine g_iconst C std_M_findPlans_287 ?_
                                refine g_bipush C std_M_findPlans_288 (by decide) ?_
                                refine g_iload C 2 std_M_findPlans_290 rfl ?_
                                refine g_isub C std_M_findPlans_292 ?_
                                refine g_imul C std_M_findPlans_293 ?_
                                refine g_lshl C (z := (y * (2 ^ (3 * (11 - ((d : Nat) : Int))).toNat))) std_M_findPlans_294 (lI_shl (by omega) (by omega) rfl) ?_
                                refine g_lor C (z := ((BR q) + (y * (8 ^ (11 - d))))) std_M_findPlans_295 (l_or8 (by omega) (pr_r kT d _ _ _ (by omega) hPR) ⟨by omega, by omega⟩) ?_
                                refine g_V_v (wc := [(m0, .inr (5, [.int (iI 0), .int (iI ((n : Nat) : Int)), .ref k_ch, .ref k_co, .ref k_ua, .ref k_ub, .ref k_ba, .int (iI (fle 0)), .int (iI (fle 1)), .int (iI (fmo 0)), .int (iI (fmo 1)), .int (iI (bI HM)), .ref k_rt, .ref k_rf, .ref k_ct, .ref k_cf, .ref k_nd, .ref k_na, .ref k_no, .ref k_bt, .ref k_bc, .ref k_br, .int (iI bb), .int (iI pp), .ref k_pc, .ref k_pr, .ref k_la, .ref k_lb, .ref k_ha, .ref k_hb, .ref k_ls, .ref k_wc, .int (iI wd), .int (iI mg), .int (iI mw), .int (iI mc)])), (k_bt, .inl (cI, aI 3000 A1)), (k_bc, .inl (cI, aI 3000 C1)), (k_br, .inl (cJ, aL 3000 R1))]) (wr := [(k_ch, .inl (cI, aI 13 fsz)), (k_co, .inl (cI, aI 78 fco)), (k_rf, .inl (cJ, aL 152971 grf)), (k_cf, .inl (cI, aI 152971 gcf)), (k_pc, .inl (cI, aI 20 PC)), (k_pr, .inl (cJ, aL 20 PW)), (k_ba, .inl (cZ, aI 468 fba)), (k_ua, .inl (cI, aI 78 ffu)), (k_ub, .inl (cI, aI 78 fsu))]) (rest := []) C (c_m_begin l dC dI cI cJ cZ m0 k_ch k_co k_ua k_ub k_ba k_rt k_rf k_ct k_cf k_nd k_na k_no k_bt k_bc k_br k_pc k_pr k_la k_lb k_ha k_hb k_ls k_wc HM bb pp wd mg mw mc ((n : Nat) : Int) fle fmo A1 C1 R1 (nxt fbb ffu fsu fmo ((d : Nat) : Int) y k0) ((BC q) + (fco ((6 * ((d : Nat) : Int)) + y))) ((BR q) + (y * (8 ^ (11 - d)))) (by omega)) (st_cV C kw_4_6 kw_4_3 kw_1_6 kw_4_5 kw_0_24 sth_M_begin ⟨Nat.le_of_ble_eq_true rfl, Nat.le_of_ble_eq_true rfl⟩) 0 rfl rfl rfl rfl (Nat.le_of_ble_eq_true rfl) std_M_findPlans_296 ⟨Nat.le_of_ble_eq_true rfl, Nat.le_of_ble_eq_true rfl⟩ [9, 4, 5, 6] [0, 1, 2, 3, 7, 8, 10, 11, 12] rfl rfl rfl rfl (by decide) (fun u17 h18 => ?_)
                                refine g_ws (ws' := [(k_ch, .inl (cI, aI 13 fsz)), (k_co, .inl (cI, aI 78 fco)), (k_rf, .inl (cJ, aL 152971 grf)), (k_cf, .inl (cI, aI 152971 gcf)), (k_pc, .inl (cI, aI 20 PC)), (k_pr, .inl (cJ, aL 20 PW)), (k_ba, .inl (cZ, aI 468 fba)), (k_ua, .inl (cI, aI 78 ffu)), (k_ub, .inl (cI, aI 78 fsu)), (m0, .inr (5, [.int (iI 0), .int (iI ((n : Nat) : Int)), .ref k_ch, .ref k_co, .ref k_ua, .ref k_ub, .ref k_ba, .int (iI (fle 0)), .int (iI (fle 1)), .int (iI (fmo 0)), .int (iI (fmo 1)), .int (iI (bI HM)), .ref k_rt, .ref k_rf, .ref k_ct, .ref k_cf, .ref k_nd, .ref k_na, .ref k_no, .ref k_bt, .ref k_bc, .ref k_br, .int (iI (bb + 1)), .int (iI pp), .ref k_pc, .ref k_pr, .ref k_la, .ref k_lb, .ref k_ha, .ref k_hb, .ref k_ls, .ref k_wc, .int (iI wd), .int (iI mg), .int (iI mw), .int (iI mc)])), (k_bt, .inl (cI, aI 3000 (uZ A1 bb (nxt fbb ffu fsu fmo ((d : Nat) : Int) y k0)))), (k_bc, .inl (cI, aI 3000 (uZ C1 bb ((BC q) + (fco ((6 * ((d : Nat) : Int)) + y)))))), (k_br, .inl (cJ, aL 3000 (uZ R1 bb ((BR q) + (y * (8 ^ (11 - d)))))))]) rfl ?_
                                refine g_iinc C (lv' := [(8, .int (iI (y + 1))), (9, .int (iI (nxt fbb ffu fsu fmo ((d : Nat) : Int) y k0))), (7, .int (iI ((d : Nat) : Int))), (5, .long (lI (BR q))), (4, .int (iI (BC q))), (3, .int (iI (BT q))), (0, .ref m0)]) 1 std_M_findPlans_299 rfl (by decide) rfl ?_
                                refine g_goto (tgt := 214) C std_M_findPlans_302 (by decide) ?_
                                refine g_sub (ws' := [(m0, .inr (5, [.int (iI 0), .int (iI ((n : Nat) : Int)), .ref k_ch, .ref k_co, .ref k_ua, .ref k_ub, .ref k_ba, .int (iI (fle 0)), .int (iI (fle 1)), .int (iI (fmo 0)), .int (iI (fmo 1)), .int (iI (bI HM)), .ref k_rt, .ref k_rf, .ref k_ct, .ref k_cf, .ref k_nd, .ref k_na, .ref k_no, .ref k_bt, .ref k_bc, .ref k_br, .int (iI (bb + 1)), .int (iI pp), .ref k_pc, .ref k_pr, .ref k_la, .ref k_lb, .ref k_ha, .ref k_hb, .ref k_ls, .ref k_wc, .int (iI wd), .int (iI mg), .int (iI mw), .int (iI mc)])), (k_ch, .inl (cI, aI 13 fsz)), (k_co, .inl (cI, aI 78 fco)), (k_ba, .inl (cZ, aI 468 fba)), (k_ua, .inl (cI, aI 78 ffu)), (k_ub, .inl (cI, aI 78 fsu)), (k_rf, .inl (cJ, aL 152971 grf)), (k_cf, .inl (cI, aI 152971 gcf)), (k_bt, .inl (cI, aI 3000 (uZ A1 bb (nxt fbb ffu fsu fmo ((d : Nat) : Int) y k0)))), (k_bc, .inl (cI, aI 3000 (uZ C1 bb ((BC q) + (fco ((6 * ((d : Nat) : Int)) + y)))))), (k_br, .inl (cJ, aL 3000 (uZ R1 bb ((BR q) + (y * (8 ^ (11 - d))))))), (k_pc, .inl (cI, aI 20 PC)), (k_pr, .inl (cJ, aL 20 PW))]) [9, 0, 1, 6, 7, 8, 2, 3, 10, 11, 12, 4, 5] rfl rfl ?_
                                refine g_lv (lv' := [(8, .int (iI (y + 1))), (7, .int (iI ((d : Nat) : Int))), (5, .long (lI (BR q))), (4, .int (iI (BC q))), (3, .int (iI (BT q))), (0, .ref m0)]) [0, 2, 3, 4, 5, 6] rfl ?_
                                refine g_wide (k := 0) (n := 0) (Nat.le_of_ble_eq_true rfl) (Nat.le_of_ble_eq_true rfl) ?_
                                exact ih214 (y + 1) (bb + 1) (uZ A1 bb (nxt fbb ffu fsu fmo ((d : Nat) : Int) y k0)) (uZ C1 bb ((BC q) + (fco ((6 * ((d : Nat) : Int)) + y)))) (uZ R1 bb ((BR q) + (y * (8 ^ (11 - d))))) (by omega) (by omega) (fh_yes kT kn12 kFB (by omega) hPR hcd (fun j h1 h2 => kF.2.2.1 q (by omega) (by omega) j h1 h2) hW kH (by omega) ⟨by omega, by omega⟩ hop (by omega) hto (by rw [Int.mul_comm 6]) rfl) (by omega)
                    refine g_lv (lv' := [(8, .int (iI 0)), (7, .int (iI ((d : Nat) : Int))), (5, .long (lI (BR q))), (4, .int (iI (BC q))), (3, .int (iI (BT q))), (0, .ref m0)]) [0, 1, 2, 3, 4, 6] rfl ?_
                    obtain ⟨nn0, hnn0⟩ : ∃ nn0 : Nat, (fsz ((d : Nat) : Int) - 0) < (nn0 : Int) := z_nat _
                    exact L214 nn0 0 (mm - 1) (uZ BT q (BT (mm - 1))) (uZ BC q (BC (mm - 1))) (uZ BR q (BR (mm - 1))) (by omega) (by omega) (fr_pop kT kn12 kFB kF ⟨by omega, by omega⟩ hmin hdv) hnn0
                  · refine g_aload_n C 5 std_M_findPlans_179 rfl ?_
                    refine g_get C (st_sub sti_M) 0 rfl rfl 24 (by decide) (List.mem_cons_of_mem _ kw_3_90) rfl rfl std_M_findPlans_180 ?_
                    refine g_aload_n C 5 std_M_findPlans_183 rfl ?_
                    refine g_get C (st_sub sti_M) 0 rfl rfl 23 (by decide) (List.mem_cons_of_mem _ kw_3_89) rfl rfl std_M_findPlans_184 ?_
                    refine g_iload C 2 std_M_findPlans_187 rfl ?_
                    refine g_iast C (ws' := [(m0, .inr (5, [.int (iI 0), .int (iI ((n : Nat) : Int)), .ref k_ch, .ref k_co, .ref k_ua, .ref k_ub, .ref k_ba, .int (iI (fle 0)), .int (iI (fle 1)), .int (iI (fmo 0)), .int (iI (fmo 1)), .int (iI (bI HM)), .ref k_rt, .ref k_rf, .ref k_ct, .ref k_cf, .ref k_nd, .ref k_na, .ref k_no, .ref k_bt, .ref k_bc, .ref k_br, .int (iI (mm - 1)), .int (iI pp), .ref k_pc, .ref k_pr, .ref k_la, .ref k_lb, .ref k_ha, .ref k_hb, .ref k_ls, .ref k_wc, .int (iI wd), .int (iI mg), .int (iI mw), .int (iI mc)])), (k_ch, .inl (cI, aI 13 fsz)), (k_co, .inl (cI, aI 78 fco)), (k_ba, .inl (cZ, aI 468 fba)), (k_ua, .inl (cI, aI 78 ffu)), (k_ub, .inl (cI, aI 78 fsu)), (k_rf, .inl (cJ, aL 152971 grf)), (k_cf, .inl (cI, aI 152971 gcf)), (k_bt, .inl (cI, aI 3000 (uZ BT q (BT (mm - 1))))), (k_bc, .inl (cI, aI 3000 (uZ BC q (BC (mm - 1))))), (k_br, .inl (cJ, aL 3000 (uZ BR q (BR (mm - 1))))), (k_pc, .inl (cI, aI 20 (uZ PC pp (BC q)))), (k_pr, .inl (cJ, aL 20 PW))]) 11 0 rfl rfl (by omega) (by omega) (by omega) std_M_findPlans_189 rfl ?_
                    refine g_aload_n C 5 std_M_findPlans_190 rfl ?_
                    refine g_get C (st_sub sti_M) 0 rfl rfl 25 (by decide) (List.mem_cons_of_mem _ kw_3_91) rfl rfl std_M_findPlans_191 ?_
                    refine g_aload_n C 5 std_M_findPlans_194 rfl ?_
                    refine g_get C (st_sub sti_M) 0 rfl rfl 23 (by decide) (List.mem_cons_of_mem _ kw_3_89) rfl rfl std_M_findPlans_195 ?_
                    refine g_lload C 1 std_M_findPlans_198 rfl ?_
                    refine g_last C (ws' := [(m0, .inr (5, [.int (iI 0), .int (iI ((n : Nat) : Int)), .ref k_ch, .ref k_co, .ref k_ua, .ref k_ub, .ref k_ba, .int (iI (fle 0)), .int (iI (fle 1)), .int (iI (fmo 0)), .int (iI (fmo 1)), .int (iI (bI HM)), .ref k_rt, .ref k_rf, .ref k_ct, .ref k_cf, .ref k_nd, .ref k_na, .ref k_no, .ref k_bt, .ref k_bc, .ref k_br, .int (iI (mm - 1)), .int (iI pp), .ref k_pc, .ref k_pr, .ref k_la, .ref k_lb, .ref k_ha, .ref k_hb, .ref k_ls, .ref k_wc, .int (iI wd), .int (iI mg), .int (iI mw), .int (iI mc)])), (k_ch, .inl (cI, aI 13 fsz)), (k_co, .inl (cI, aI 78 fco)), (k_ba, .inl (cZ, aI 468 fba)), (k_ua, .inl (cI, aI 78 ffu)), (k_ub, .inl (cI, aI 78 fsu)), (k_rf, .inl (cJ, aL 152971 grf)), (k_cf, .inl (cI, aI 152971 gcf)), (k_bt, .inl (cI, aI 3000 (uZ BT q (BT (mm - 1))))), (k_bc, .inl (cI, aI 3000 (uZ BC q (BC (mm - 1))))), (k_br, .inl (cJ, aL 3000 (uZ BR q (BR (mm - 1))))), (k_pc, .inl (cI, aI 20 (uZ PC pp (BC q)))), (k_pr, .inl (cJ, aL 20 (uZ PW pp (BR q))))]) 12 1 rfl rfl (by omega) (by omega) (by omega) std_M_findPlans_200 rfl ?_
                    refine g_aload_n C 5 std_M_findPlans_201 rfl ?_
                    refine g_dup C std_M_findPlans_202 rfl ?_
                    refine g_get C (st_sub sti_M) 0 rfl rfl 23 (by decide) (List.mem_cons_of_mem _ kw_3_89) rfl rfl std_M_findPlans_203 ?_
                    refine g_iconst C std_M_findPlans_206 ?_
                    refine g_iadd C std_M_findPlans_207 ?_
                    refine g_put C (ws' := [(m0, .inr (5, [.int (iI 0), .int (iI ((n : Nat) : Int)), .ref k_ch, .ref k_co, .ref k_ua, .ref k_ub, .ref k_ba, .int (iI (fle 0)), .int (iI (fle 1)), .int (iI (fmo 0)), .int (iI (fmo 1)), .int (iI (bI HM)), .ref k_rt, .ref k_rf, .ref k_ct, .ref k_cf, .ref k_nd, .ref k_na, .ref k_no, .ref k_bt, .ref k_bc, .ref k_br, .int (iI (mm - 1)), .int (iI (pp + 1)), .ref k_pc, .ref k_pr, .ref k_la, .ref k_lb, .ref k_ha, .ref k_hb, .ref k_ls, .ref k_wc, .int (iI wd), .int (iI mg), .int (iI mw), .int (iI mc)])), (k_ch, .inl (cI, aI 13 fsz)), (k_co, .inl (cI, aI 78 fco)), (k_ba, .inl (cZ, aI 468 fba)), (k_ua, .inl (cI, aI 78 ffu)), (k_ub, .inl (cI, aI 78 fsu)), (k_rf, .inl (cJ, aL 152971 grf)), (k_cf, .inl (cI, aI 152971 gcf)), (k_bt, .inl (cI, aI 3000 (uZ BT q (BT (mm - 1))))), (k_bc, .inl (cI, aI 3000 (uZ BC q (BC (mm - 1))))), (k_br, .inl (cJ, aL 3000 (uZ BR q (BR (mm - 1))))), (k_pc, .inl (cI, aI 20 (uZ PC pp (BC q)))), (k_pr, .inl (cJ, aL 20 (uZ PW pp (BR q))))]) (st_sub sti_M) stt_M sto_M stn_M 0 rfl rfl 23 (by decide) (List.mem_cons_of_mem _ kw_3_89) rfl rfl rfl rfl (Nat.le_of_ble_eq_true rfl) std_M_findPlans_208 rfl ?_
                    have hN := fr_fin kT kn12 kFB kF (x := q) ⟨by omega, by omega⟩ hmin (by omega) (by omega)
                    refine g_iconst C std_M_findPlans_211 ?_
                    refine g_istore C (lv' := [(8, .int (iI 0)), (7, .int (iI ((d : Nat) : Int))), (5, .long (lI (BR q))), (4, .int (iI (BC q))), (3, .int (iI (BT q))), (2, .int (iI q)), (0, .ref m0)]) std_M_findPlans_212 (by decide) rfl ?_
                    refine g_iload C 0 std_M_findPlans_214 rfl ?_
                    refine g_aload_n C 6 std_M_findPlans_216 rfl ?_
                    refine g_get C (st_sub sti_M) 0 rfl rfl 2 (by decide) (List.mem_cons_of_mem _ kw_3_68) rfl rfl std_M_findPlans_217 ?_
                    refine g_iload C 1 std_M_findPlans_220 rfl ?_
                    refine g_iald C 1 0 rfl rfl (by omega) (by omega) (by omega) std_M_findPlans_222 ?_
                    refine g_icmp_ge (tgt := 305) C std_M_findPlans_223 (by decide) ⟨by omega, by omega⟩ ⟨by omega, by omega⟩ (fun c19 => ?_) (fun c19 => ?_)
                    · refine g_goto (tgt := 36) C std_M_findPlans_305 (by decide) ?_
                      refine g_lv (lv' := [(0, .ref m0)]) [6] rfl ?_
                      exact ih36 (pp + 1) (mm - 1) 0 (uZ BT q (BT (mm - 1))) (uZ BC q (BC (mm - 1))) (uZ BR q (BR (mm - 1))) (uZ PC pp (BC q)) (uZ PW pp (BR q)) (by omega) (hN) (ft_fin kt (x := q) ⟨by omega, by omega⟩ (by omega) (fun i h1 h2 => (eb_b kT kn12 kFB (hN.1 i h1 h2)).1.1)) (by omega)
                    · refine g_iload C 1 std_M_findPlans_226 rfl ?_
                      refine g_aload_n C 6 std_M_findPlans_228 rfl ?_
                      refine g_get C (st_sub sti_M) 0 rfl rfl 1 (by decide) (List.mem_cons_of_mem _ kw_3_67) rfl rfl std_M_findPlans_229 ?_
                      refine g_icmp_ge (tgt := 305) C std_M_findPlans_232 (by decide) ⟨by omega, by omega⟩ ⟨by omega, by omega⟩ (fun c20 => ?_) (fun c20 => ?_)
                      · refine g_goto (tgt := 36) C std_M_findPlans_305 (by decide) ?_
                        refine g_lv (lv' := [(0, .ref m0)]) [6] rfl ?_
                        exact ih36 (pp + 1) (mm - 1) 0 (uZ BT q (BT (mm - 1))) (uZ BC q (BC (mm - 1))) (uZ BR q (BR (mm - 1))) (uZ PC pp (BC q)) (uZ PW pp (BR q)) (by omega) (hN) (ft_fin kt (x := q) ⟨by omega, by omega⟩ (by omega) (fun i h1 h2 => (eb_b kT kn12 kFB (hN.1 i h1 h2)).1.1)) (by omega)
                      · exfalso; omega
                · have hbx := eb_b kT kn12 kFB (kF.1 x (by omega) (by omega))
                  have hbq := eb_b kT kn12 kFB (kF.1 q (by omega) (by omega))
                  refine g_aload_n C 2 std_M_findPlans_64 rfl ?_
                  refine g_iload_n C 0 std_M_findPlans_65 rfl ?_
                  refine g_iload_n C 1 std_M_findPlans_66 rfl ?_
                  refine g_V_i (wc := [(m0, .inr (5, [.int (iI 0), .int (iI ((n : Nat) : Int)), .ref k_ch, .ref k_co, .ref k_ua, .ref k_ub, .ref k_ba, .int (iI (fle 0)), .int (iI (fle 1)), .int (iI (fmo 0)), .int (iI (fmo 1)), .int (iI (bI HM)), .ref k_rt, .ref k_rf, .ref k_ct, .ref k_cf, .ref k_nd, .ref k_na, .ref k_no, .ref k_bt, .ref k_bc, .ref k_br, .int (iI mm), .int (iI pp), .ref k_pc, .ref k_pr, .ref k_la, .ref k_lb, .ref k_ha, .ref k_hb, .ref k_ls, .ref k_wc, .int (iI wd), .int (iI mg), .int (iI mw), .int (iI mc)])), (k_bt, .inl (cI, aI 3000 BT)), (k_bc, .inl (cI, aI 3000 BC)), (k_br, .inl (cJ, aL 3000 BR)), (k_cf, .inl (cI, aI 152971 gcf))]) (wr := [(k_ch, .inl (cI, aI 13 fsz)), (k_co, .inl (cI, aI 78 fco)), (k_ba, .inl (cZ, aI 468 fba)), (k_ua, .inl (cI, aI 78 ffu)), (k_ub, .inl (cI, aI 78 fsu)), (k_rf, .inl (cJ, aL 152971 grf)), (k_pc, .inl (cI, aI 20 PC)), (k_pr, .inl (cJ, aL 20 PW))]) (rest := []) C (c_m_isAhead l dC dI cI cJ cZ m0 k_ch k_co k_ua k_ub k_ba k_rt k_rf k_ct k_cf k_nd k_na k_no k_bt k_bc k_br k_pc k_pr k_la k_lb k_ha k_hb k_ls k_wc HM mm pp wd mg mw mc ((n : Nat) : Int) fle fmo BT BC BR gcf x q (⟨⟨by omega, by omega⟩, hbx⟩) (⟨⟨by omega, by omega⟩, hbq⟩)) (st_cV C kw_4_10 kw_4_7 kw_1_6 kw_4_9 kw_0_25 sth_M_isAhead ⟨Nat.le_of_ble_eq_true rfl, Nat.le_of_ble_eq_true rfl⟩) 0 rfl rfl rfl rfl (Nat.le_of_ble_eq_true rfl) std_M_findPlans_67 ⟨Nat.le_of_ble_eq_true rfl, Nat.le_of_ble_eq_true rfl⟩ [0, 8, 9, 10, 7] [1, 2, 3, 4, 5, 6, 11, 12] rfl rfl rfl rfl (by decide) (fun r21 u22 h23 => ?_)
                  subst h23
                  refine g_ws (ws' := [(k_ch, .inl (cI, aI 13 fsz)), (k_co, .inl (cI, aI 78 fco)), (k_ba, .inl (cZ, aI 468 fba)), (k_ua, .inl (cI, aI 78 ffu)), (k_ub, .inl (cI, aI 78 fsu)), (k_rf, .inl (cJ, aL 152971 grf)), (k_pc, .inl (cI, aI 20 PC)), (k_pr, .inl (cJ, aL 20 PW)), (m0, .inr (5, [.int (iI 0), .int (iI ((n : Nat) : Int)), .ref k_ch, .ref k_co, .ref k_ua, .ref k_ub, .ref k_ba, .int (iI (fle 0)), .int (iI (fle 1)), .int (iI (fmo 0)), .int (iI (fmo 1)), .int (iI (bI HM)), .ref k_rt, .ref k_rf, .ref k_ct, .ref k_cf, .ref k_nd, .ref k_na, .ref k_no, .ref k_bt, .ref k_bc, .ref k_br, .int (iI mm), .int (iI pp), .ref k_pc, .ref k_pr, .ref k_la, .ref k_lb, .ref k_ha, .ref k_hb, .ref k_ls, .ref k_wc, .int (iI wd), .int (iI mg), .int (iI mw), .int (iI mc)])), (k_bt, .inl (cI, aI 3000 BT)), (k_bc, .inl (cI, aI 3000 BC)), (k_br, .inl (cJ, aL 3000 BR)), (k_cf, .inl (cI, aI 152971 gcf))]) rfl ?_
                  refine g_ifeq_b (tgt := 77) C std_M_findPlans_70 (by decide) (fun c24 => ?_) (fun c24 => ?_)
                  · refine g_iload_n C 1 std_M_findPlans_77 rfl ?_
                    refine g_istore_n C (lv' := [(2, .int (iI q)), (3, .int (iI x)), (0, .ref m0)]) std_M_findPlans_78 (by decide) rfl ?_
                    refine g_iinc C (lv' := [(3, .int (iI (x + 1))), (2, .int (iI q)), (0, .ref m0)]) 1 std_M_findPlans_79 rfl (by decide) rfl ?_
                    refine g_goto (tgt := 56) C std_M_findPlans_82 (by decide) ?_
                    refine g_sub (ws' := [(m0, .inr (5, [.int (iI 0), .int (iI ((n : Nat) : Int)), .ref k_ch, .ref k_co, .ref k_ua, .ref k_ub, .ref k_ba, .int (iI (fle 0)), .int (iI (fle 1)), .int (iI (fmo 0)), .int (iI (fmo 1)), .int (iI (bI HM)), .ref k_rt, .ref k_rf, .ref k_ct, .ref k_cf, .ref k_nd, .ref k_na, .ref k_no, .ref k_bt, .ref k_bc, .ref k_br, .int (iI mm), .int (iI pp), .ref k_pc, .ref k_pr, .ref k_la, .ref k_lb, .ref k_ha, .ref k_hb, .ref k_ls, .ref k_wc, .int (iI wd), .int (iI mg), .int (iI mw), .int (iI mc)])), (k_ch, .inl (cI, aI 13 fsz)), (k_co, .inl (cI, aI 78 fco)), (k_ba, .inl (cZ, aI 468 fba)), (k_ua, .inl (cI, aI 78 ffu)), (k_ub, .inl (cI, aI 78 fsu)), (k_rf, .inl (cJ, aL 152971 grf)), (k_cf, .inl (cI, aI 152971 gcf)), (k_bt, .inl (cI, aI 3000 BT)), (k_bc, .inl (cI, aI 3000 BC)), (k_br, .inl (cJ, aL 3000 BR)), (k_pc, .inl (cI, aI 20 PC)), (k_pr, .inl (cJ, aL 20 PW))]) [8, 0, 1, 2, 3, 4, 5, 12, 9, 10, 11, 6, 7] rfl rfl ?_
                    refine g_wide (k := 0) (n := 0) (Nat.le_of_ble_eq_true rfl) (Nat.le_of_ble_eq_true rfl) ?_
                    exact ih56 (x + 1) q (by omega) (by omega) (mn_n (f := fun i => cde gcf (BT i) (BC i) (BR i)) kI c24) (by omega)
                  · refine g_iload_n C 0 std_M_findPlans_73 rfl ?_
                    refine g_goto (tgt := 78) C std_M_findPlans_74 (by decide) ?_
                    refine g_istore_n C (lv' := [(2, .int (iI x)), (3, .int (iI x)), (0, .ref m0)]) std_M_findPlans_78 (by decide) rfl ?_
                    refine g_iinc C (lv' := [(3, .int (iI (x + 1))), (2, .int (iI x)), (0, .ref m0)]) 1 std_M_findPlans_79 rfl (by decide) rfl ?_
                    refine g_goto (tgt := 56) C std_M_findPlans_82 (by decide) ?_
                    refine g_sub (ws' := [(m0, .inr (5, [.int (iI 0), .int (iI ((n : Nat) : Int)), .ref k_ch, .ref k_co, .ref k_ua, .ref k_ub, .ref k_ba, .int (iI (fle 0)), .int (iI (fle 1)), .int (iI (fmo 0)), .int (iI (fmo 1)), .int (iI (bI HM)), .ref k_rt, .ref k_rf, .ref k_ct, .ref k_cf, .ref k_nd, .ref k_na, .ref k_no, .ref k_bt, .ref k_bc, .ref k_br, .int (iI mm), .int (iI pp), .ref k_pc, .ref k_pr, .ref k_la, .ref k_lb, .ref k_ha, .ref k_hb, .ref k_ls, .ref k_wc, .int (iI wd), .int (iI mg), .int (iI mw), .int (iI mc)])), (k_ch, .inl (cI, aI 13 fsz)), (k_co, .inl (cI, aI 78 fco)), (k_ba, .inl (cZ, aI 468 fba)), (k_ua, .inl (cI, aI 78 ffu)), (k_ub, .inl (cI, aI 78 fsu)), (k_rf, .inl (cJ, aL 152971 grf)), (k_cf, .inl (cI, aI 152971 gcf)), (k_bt, .inl (cI, aI 3000 BT)), (k_bc, .inl (cI, aI 3000 BC)), (k_br, .inl (cJ, aL 3000 BR)), (k_pc, .inl (cI, aI 20 PC)), (k_pr, .inl (cJ, aL 20 PW))]) [8, 0, 1, 2, 3, 4, 5, 12, 9, 10, 11, 6, 7] rfl rfl ?_
                    refine g_wide (k := 0) (n := 0) (Nat.le_of_ble_eq_true rfl) (Nat.le_of_ble_eq_true rfl) ?_
                    exact ih56 (x + 1) x (by omega) (by omega) (mn_y (f := fun i => cde gcf (BT i) (BC i) (BR i)) kI c24) (by omega)
            obtain ⟨nn0, hnn0⟩ : ∃ nn0 : Nat, (mm - 1) < (nn0 : Int) := z_nat _
            exact L56 nn0 1 0 (by omega) (by omega) (mn_0 (f := fun i => cde gcf (BT i) (BC i) (BR i))) hnn0
    refine g_lv (lv' := [(0, .ref m0)]) [1] rfl ?_
    refine g_wide (k := 0) (n := 0) (Nat.le_of_ble_eq_true rfl) (Nat.le_of_ble_eq_true rfl) ?_
    obtain ⟨nn0, hnn0⟩ : ∃ nn0 : Nat, (13 * (21 - 0) - 0) < (nn0 : Int) := z_nat _
    exact L36 nn0 0 0 0 gbt gbc gbr gpc gpr (by omega) (fr_0 (by omega)) (ft_0) hnn0
  · refine g_aload_n C 1 std_M_findPlans_29 rfl ?_
    refine g_iload_n C 0 std_M_findPlans_30 rfl ?_
    refine g_iconst C std_M_findPlans_31 ?_
    refine g_lconst C (z := 0) std_M_findPlans_32 (by decide) ?_
    refine g_V_v (wc := [(m0, .inr (5, [.int (iI 0), .int (iI ((n : Nat) : Int)), .ref k_ch, .ref k_co, .ref k_ua, .ref k_ub, .ref k_ba, .int (iI (fle 0)), .int (iI (fle 1)), .int (iI (fmo 0)), .int (iI (fmo 1)), .int (iI (bI HM)), .ref k_rt, .ref k_rf, .ref k_ct, .ref k_cf, .ref k_nd, .ref k_na, .ref k_no, .ref k_bt, .ref k_bc, .ref k_br, .int (iI 0), .int (iI 0), .ref k_pc, .ref k_pr, .ref k_la, .ref k_lb, .ref k_ha, .ref k_hb, .ref k_ls, .ref k_wc, .int (iI wd), .int (iI mg), .int (iI mw), .int (iI mc)])), (k_bt, .inl (cI, aI 3000 gbt)), (k_bc, .inl (cI, aI 3000 gbc)), (k_br, .inl (cJ, aL 3000 gbr))]) (wr := [(k_ch, .inl (cI, aI 13 fsz)), (k_co, .inl (cI, aI 78 fco)), (k_ba, .inl (cZ, aI 468 fba)), (k_ua, .inl (cI, aI 78 ffu)), (k_ub, .inl (cI, aI 78 fsu)), (k_rf, .inl (cJ, aL 152971 grf)), (k_cf, .inl (cI, aI 152971 gcf)), (k_pc, .inl (cI, aI 20 gpc)), (k_pr, .inl (cJ, aL 20 gpr))]) (rest := []) C (c_m_begin l dC dI cI cJ cZ m0 k_ch k_co k_ua k_ub k_ba k_rt k_rf k_ct k_cf k_nd k_na k_no k_bt k_bc k_br k_pc k_pr k_la k_lb k_ha k_hb k_ls k_wc HM 0 0 wd mg mw mc ((n : Nat) : Int) fle fmo gbt gbc gbr 0 0 0 (by omega)) (st_cV C kw_4_6 kw_4_3 kw_1_6 kw_4_5 kw_0_24 sth_M_begin ⟨Nat.le_of_ble_eq_true rfl, Nat.le_of_ble_eq_true rfl⟩) 0 rfl rfl rfl rfl (Nat.le_of_ble_eq_true rfl) std_M_findPlans_33 ⟨Nat.le_of_ble_eq_true rfl, Nat.le_of_ble_eq_true rfl⟩ [0, 8, 9, 10] [1, 2, 3, 4, 5, 6, 7, 11, 12] rfl rfl rfl rfl (by decide) (fun u26 h27 => ?_)
    refine g_ws (ws' := [(k_ch, .inl (cI, aI 13 fsz)), (k_co, .inl (cI, aI 78 fco)), (k_ba, .inl (cZ, aI 468 fba)), (k_ua, .inl (cI, aI 78 ffu)), (k_ub, .inl (cI, aI 78 fsu)), (k_rf, .inl (cJ, aL 152971 grf)), (k_cf, .inl (cI, aI 152971 gcf)), (k_pc, .inl (cI, aI 20 gpc)), (k_pr, .inl (cJ, aL 20 gpr)), (m0, .inr (5, [.int (iI 0), .int (iI ((n : Nat) : Int)), .ref k_ch, .ref k_co, .ref k_ua, .ref k_ub, .ref k_ba, .int (iI (fle 0)), .int (iI (fle 1)), .int (iI (fmo 0)), .int (iI (fmo 1)), .int (iI (bI HM)), .ref k_rt, .ref k_rf, .ref k_ct, .ref k_cf, .ref k_nd, .ref k_na, .ref k_no, .ref k_bt, .ref k_bc, .ref k_br, .int (iI (0 + 1)), .int (iI 0), .ref k_pc, .ref k_pr, .ref k_la, .ref k_lb, .ref k_ha, .ref k_hb, .ref k_ls, .ref k_wc, .int (iI wd), .int (iI mg), .int (iI mw), .int (iI mc)])), (k_bt, .inl (cI, aI 3000 (uZ gbt 0 0))), (k_bc, .inl (cI, aI 3000 (uZ gbc 0 0))), (k_br, .inl (cJ, aL 3000 (uZ gbr 0 0)))]) rfl ?_
    have L36 : ∀ (nn36 : Nat) (pp : Int) (mm : Int) (tt : Int) (BT : Int → Int) (BC : Int → Int) (BR : Int → Int) (PC : Int → Int) (PW : Int → Int), 0 ≤ mm → FR (PR fsz fco ffu fsu fbb fmo fle n) n gcf PC PW pp mm BT BC BR → FT gcf pp tt mm BT BC BR → (13 * (21 - pp) - tt) < (nn36 : Int) → G p l e ({ frames := 2, cells := 0, slots := 0, locals := 50 } : Room) s m ([.ref m0] : List Value).toArray below meth c (dC, dI) stCl 10 A 0 0 Q [(m0, .inr (5, [.int (iI 0), .int (iI ((n : Nat) : Int)), .ref k_ch, .ref k_co, .ref k_ua, .ref k_ub, .ref k_ba, .int (iI (fle 0)), .int (iI (fle 1)), .int (iI (fmo 0)), .int (iI (fmo 1)), .int (iI (bI HM)), .ref k_rt, .ref k_rf, .ref k_ct, .ref k_cf, .ref k_nd, .ref k_na, .ref k_no, .ref k_bt, .ref k_bc, .ref k_br, .int (iI mm), .int (iI pp), .ref k_pc, .ref k_pr, .ref k_la, .ref k_lb, .ref k_ha, .ref k_hb, .ref k_ls, .ref k_wc, .int (iI wd), .int (iI mg), .int (iI mw), .int (iI mc)])), (k_ch, .inl (cI, aI 13 fsz)), (k_co, .inl (cI, aI 78 fco)), (k_ba, .inl (cZ, aI 468 fba)), (k_ua, .inl (cI, aI 78 ffu)), (k_ub, .inl (cI, aI 78 fsu)), (k_rf, .inl (cJ, aL 152971 grf)), (k_cf, .inl (cI, aI 152971 gcf)), (k_bt, .inl (cI, aI 3000 BT)), (k_bc, .inl (cI, aI 3000 BC)), (k_br, .inl (cJ, aL 3000 BR)), (k_pc, .inl (cI, aI 20 PC)), (k_pr, .inl (cJ, aL 20 PW))] 36 [(0, .ref m0)] [] := by
      intro nn36
      induction nn36 with
      | zero =>
        intro pp mm tt BT BC BR PC PW km kF kt hnn36
        exact absurd hnn36 (by have h1 := kF.2.2.2.1.1; have h2 := kt.1; omega)
      | succ nn36 ih36 =>
        intro pp mm tt BT BC BR PC PW km kF kt hnn36
        have hfb := ft_b kF kt
        refine g_aload_n C 0 std_M_findPlans_36 rfl ?_
        refine g_get C (st_sub sti_M) 0 rfl rfl 22 (by decide) (List.mem_cons_of_mem _ kw_3_88) rfl rfl std_M_findPlans_37 ?_
        refine g_if_le (tgt := 308) C std_M_findPlans_40 (by decide) ⟨by omega, by omega⟩ (fun c28 => ?_) (fun c28 => ?_)
        · exact hret _ _ (pp, mm, BT, BC, BR, PC, PW) (⟨kF.2.2.2.1, fr_end kT kn12 kFB kF (by omega)⟩) std_M_findPlans_308
        · refine g_aload_n C 0 std_M_findPlans_43 rfl ?_
          refine g_get C (st_sub sti_M) 0 rfl rfl 23 (by decide) (List.mem_cons_of_mem _ kw_3_89) rfl rfl std_M_findPlans_44 ?_
          refine g_bipush C std_M_findPlans_47 (by decide) ?_
          refine g_icmp_ge (tgt := 308) C std_M_findPlans_49 (by decide) ⟨by omega, by omega⟩ ⟨by omega, by omega⟩ (fun c29 => ?_) (fun c29 => ?_)
          · exact hret _ _ (pp, mm, BT, BC, BR, PC, PW) (⟨kF.2.2.2.1, fr_end kT kn12 kFB kF (by omega)⟩) std_M_findPlans_308
          · refine g_iconst C std_M_findPlans_52 ?_
            refine g_istore_n C (lv' := [(2, .int (iI 0)), (0, .ref m0)]) std_M_findPlans_53 (by decide) rfl ?_
            refine g_iconst C std_M_findPlans_54 ?_
            refine g_istore_n C (lv' := [(3, .int (iI 1)), (2, .int (iI 0)), (0, .ref m0)]) std_M_findPlans_55 (by decide) rfl ?_
            have L56 : ∀ (nn56 : Nat) (x : Int) (q : Int), (1 ≤ x ∧ x ≤ mm) → (0 ≤ q ∧ q < mm) → (∀ i, 0 ≤ i → i < x → cde gcf (BT q) (BC q) (BR q) ≤ cde gcf (BT i) (BC i) (BR i)) → (mm - x) < (nn56 : Int) → G p l e ({ frames := 2, cells := 0, slots := 0, locals := 50 } : Room) s m ([.ref m0] : List Value).toArray below meth c (dC, dI) stCl 10 A 0 0 Q [(m0, .inr (5, [.int (iI 0), .int (iI ((n : Nat) : Int)), .ref k_ch, .ref k_co, .ref k_ua, .ref k_ub, .ref k_ba, .int (iI (fle 0)), .int (iI (fle 1)), .int (iI (fmo 0)), .int (iI (fmo 1)), .int (iI (bI HM)), .ref k_rt, .ref k_rf, .ref k_ct, .ref k_cf, .ref k_nd, .ref k_na, .ref k_no, .ref k_bt, .ref k_bc, .ref k_br, .int (iI mm), .int (iI pp), .ref k_pc, .ref k_pr, .ref k_la, .ref k_lb, .ref k_ha, .ref k_hb, .ref k_ls, .ref k_wc, .int (iI wd), .int (iI mg), .int (iI mw), .int (iI mc)])), (k_ch, .inl (cI, aI 13 fsz)), (k_co, .inl (cI, aI 78 fco)), (k_ba, .inl (cZ, aI 468 fba)), (k_ua, .inl (cI, aI 78 ffu)), (k_ub, .inl (cI, aI 78 fsu)), (k_rf, .inl (cJ, aL 152971 grf)), (k_cf, .inl (cI, aI 152971 gcf)), (k_bt, .inl (cI, aI 3000 BT)), (k_bc, .inl (cI, aI 3000 BC)), (k_br, .inl (cJ, aL 3000 BR)), (k_pc, .inl (cI, aI 20 PC)), (k_pr, .inl (cJ, aL 20 PW))] 56 [(3, .int (iI x)), (2, .int (iI q)), (0, .ref m0)] [] := by
              intro nn56
              induction nn56 with
              | zero =>
                intro x q kx kq kI hnn56
                exact absurd hnn56 (by omega)
              | succ nn56 ih56 =>
                intro x q kx kq kI hnn56
                refine g_iload_n C 0 std_M_findPlans_56 rfl ?_
                refine g_aload_n C 2 std_M_findPlans_57 rfl ?_
                refine g_get C (st_sub sti_M) 0 rfl rfl 22 (by decide) (List.mem_cons_of_mem _ kw_3_88) rfl rfl std_M_findPlans_58 ?_
                refine g_icmp_ge (tgt := 85) C std_M_findPlans_61 (by decide) ⟨by omega, by omega⟩ ⟨by omega, by omega⟩ (fun c30 => ?_) (fun c30 => ?_)
                · have hmin : ∀ i, 0 ≤ i → i < mm → cde gcf (BT q) (BC q) (BR q) ≤ cde gcf (BT i) (BC i) (BR i) := fun i h1 h2 => kI i h1 (by omega)
                  obtain ⟨d, k0, hdn, hat, hdv, hvk, hwt, hPR, hwid, hcd, hrr, hcc, hcf, hwp, har⟩ := eb_x kT kn12 kFB (kF.1 q (by omega) (by omega))
                  have htd := kt.2.2 q (by omega) (by omega) hmin
                  rw [hdv] at htd
                  have hsz := ksz ((d : Nat) : Int) (by omega) (by omega)
                  obtain ⟨W, hW⟩ : ∃ W : Int → Int, W = fun c => cod fsz fco ffu fsu fbb fmo fle n (d + 1) (BR q + c * 8 ^ (11 - d)) (kn fbb ffu fsu fmo ((d : Int) * 6 + c) c k0) (BC q + fco ((d : Int) * 6 + c)) := ⟨_, rfl⟩
                  refine g_aload_n C 2 std_M_findPlans_85 rfl ?_
                  refine g_get C (st_sub sti_M) 0 rfl rfl 19 (by decide) (List.mem_cons_of_mem _ kw_3_85) rfl rfl std_M_findPlans_86 ?_
                  refine g_iload_n C 1 std_M_findPlans_89 rfl ?_
                  refine g_iald C 8 0 rfl rfl (by omega) (by omega) (by omega) std_M_findPlans_90 ?_
                  refine g_istore_n C (lv' := [(3, .int (iI (BT q))), (2, .int (iI q)), (0, .ref m0)]) std_M_findPlans_91 (by decide) rfl ?_
                  refine g_aload_n C 2 std_M_findPlans_92 rfl ?_
                  refine g_get C (st_sub sti_M) 0 rfl rfl 20 (by decide) (List.mem_cons_of_mem _ kw_3_86) rfl rfl std_M_findPlans_93 ?_
                  refine g_iload_n C 1 std_M_findPlans_96 rfl ?_
                  refine g_iald C 9 0 rfl rfl (by omega) (by omega) (by omega) std_M_findPlans_97 ?_
                  refine g_istore C (lv' := [(4, .int (iI (BC q))), (3, .int (iI (BT q))), (2, .int (iI q)), (0, .ref m0)]) std_M_findPlans_98 (by decide) rfl ?_
                  refine g_aload_n C 3 std_M_findPlans_100 rfl ?_
                  refine g_get C (st_sub sti_M) 0 rfl rfl 21 (by decide) (List.mem_cons_of_mem _ kw_3_87) rfl rfl std_M_findPlans_101 ?_
                  refine g_iload_n C 2 std_M_findPlans_104 rfl ?_
                  refine g_lald C 10 1 rfl rfl (by omega) (by omega) (by omega) std_M_findPlans_105 ?_
                  refine g_lstore C (lv' := [(5, .long (lI (BR q))), (4, .int (iI (BC q))), (3, .int (iI (BT q))), (2, .int (iI q)), (0, .ref m0)]) std_M_findPlans_106 (by decide) rfl ?_
                  refine g_aload_n C 4 std_M_findPlans_108 rfl ?_
                  refine g_dup C std_M_findPlans_109 rfl ?_
                  refine g_get C (st_sub sti_M) 0 rfl rfl 22 (by decide) (List.mem_cons_of_mem _ kw_3_88) rfl rfl std_M_findPlans_110 ?_
                  refine g_iconst C std_M_findPlans_113 ?_
                  refine g_isub C std_M_findPlans_114 ?_
                  refine g_put C (ws' := [(m0, .inr (5, [.int (iI 0), .int (iI ((n : Nat) : Int)), .ref k_ch, .ref k_co, .ref k_ua, .ref k_ub, .ref k_ba, .int (iI (fle 0)), .int (iI (fle 1)), .int (iI (fmo 0)), .int (iI (fmo 1)), .int (iI (bI HM)), .ref k_rt, .ref k_rf, .ref k_ct, .ref k_cf, .ref k_nd, .ref k_na, .ref k_no, .ref k_bt, .ref k_bc, .ref k_br, .int (iI (mm - 1)), .int (iI pp), .ref k_pc, .ref k_pr, .ref k_la, .ref k_lb, .ref k_ha, .ref k_hb, .ref k_ls, .ref k_wc, .int (iI wd), .int (iI mg), .int (iI mw), .int (iI mc)])), (k_ch, .inl (cI, aI 13 fsz)), (k_co, .inl (cI, aI 78 fco)), (k_ba, .inl (cZ, aI 468 fba)), (k_ua, .inl (cI, aI 78 ffu)), (k_ub, .inl (cI, aI 78 fsu)), (k_rf, .inl (cJ, aL 152971 grf)), (k_cf, .inl (cI, aI 152971 gcf)), (k_bt, .inl (cI, aI 3000 BT)), (k_bc, .inl (cI, aI 3000 BC)), (k_br, .inl (cJ, aL 3000 BR)), (k_pc, .inl (cI, aI 20 PC)), (k_pr, .inl (cJ, aL 20 PW))]) (st_sub sti_M) stt_M sto_M stn_M 0 rfl rfl 22 (by decide) (List.mem_cons_of_mem _ kw_3_88) rfl rfl rfl rfl (Nat.le_of_ble_eq_true rfl) std_M_findPlans_115 rfl ?_
                  refine g_aload_n C 4 std_M_findPlans_118 rfl ?_
                  refine g_get C (st_sub sti_M) 0 rfl rfl 19 (by decide) (List.mem_cons_of_mem _ kw_3_85) rfl rfl std_M_findPlans_119 ?_
                  refine g_iload_n C 3 std_M_findPlans_122 rfl ?_
                  refine g_aload_n C 4 std_M_findPlans_123 rfl ?_
                  refine g_get C (st_sub sti_M) 0 rfl rfl 19 (by decide) (List.mem_cons_of_mem _ kw_3_85) rfl rfl std_M_findPlans_124 ?_
                  refine g_aload_n C 4 std_M_findPlans_127 rfl ?_
                  refine g_get C (st_sub sti_M) 0 rfl rfl 22 (by decide) (List.mem_cons_of_mem _ kw_3_88) rfl rfl std_M_findPlans_128 ?_
                  refine g_iald C 8 0 rfl rfl (by omega) (by omega) (by omega) std_M_findPlans_131 ?_
                  refine g_iast C (ws' := [(m0, .inr (5, [.int (iI 0), .int (iI ((n : Nat) : Int)), .ref k_ch, .ref k_co, .ref k_ua, .ref k_ub, .ref k_ba, .int (iI (fle 0)), .int (iI (fle 1)), .int (iI (fmo 0)), .int (iI (fmo 1)), .int (iI (bI HM)), .ref k_rt, .ref k_rf, .ref k_ct, .ref k_cf, .ref k_nd, .ref k_na, .ref k_no, .ref k_bt, .ref k_bc, .ref k_br, .int (iI (mm - 1)), .int (iI pp), .ref k_pc, .ref k_pr, .ref k_la, .ref k_lb, .ref k_ha, .ref k_hb, .ref k_ls, .ref k_wc, .int (iI wd), .int (iI mg), .int (iI mw), .int (iI mc)])), (k_ch, .inl (cI, aI 13 fsz)), (k_co, .inl (cI, aI 78 fco)), (k_ba, .inl (cZ, aI 468 fba)), (k_ua, .inl (cI, aI 78 ffu)), (k_ub, .inl (cI, aI 78 fsu)), (k_rf, .inl (cJ, aL 152971 grf)), (k_cf, .inl (cI, aI 152971 gcf)), (k_bt, .inl (cI, aI 3000 (uZ BT q (BT (mm - 1))))), (k_bc, .inl (cI, aI 3000 BC)), (k_br, .inl (cJ, aL 3000 BR)), (k_pc, .inl (cI, aI 20 PC)), (k_pr, .inl (cJ, aL 20 PW))]) 8 0 rfl rfl (by omega) (by omega) (by omega) std_M_findPlans_132 rfl ?_
                  refine g_aload_n C 4 std_M_findPlans_133 rfl ?_
                  refine g_get C (st_sub sti_M) 0 rfl rfl 20 (by decide) (List.mem_cons_of_mem _ kw_3_86) rfl rfl std_M_findPlans_134 ?_
                  refine g_iload_n C 3 std_M_findPlans_137 rfl ?_
                  refine g_aload_n C 4 std_M_findPlans_138 rfl ?_
                  refine g_get C (st_sub sti_M) 0 rfl rfl 20 (by decide) (List.mem_cons_of_mem _ kw_3_86) rfl rfl std_M_findPlans_139 ?_
                  refine g_aload_n C 4 std_M_findPlans_142 rfl ?_
                  refine g_get C (st_sub sti_M) 0 rfl rfl 22 (by decide) (List.mem_cons_of_mem _ kw_3_88) rfl rfl std_M_findPlans_143 ?_
                  refine g_iald C 9 0 rfl rfl (by omega) (by omega) (by omega) std_M_findPlans_146 ?_
                  refine g_iast C (ws' := [(m0, .inr (5, [.int (iI 0), .int (iI ((n : Nat) : Int)), .ref k_ch, .ref k_co, .ref k_ua, .ref k_ub, .ref k_ba, .int (iI (fle 0)), .int (iI (fle 1)), .int (iI (fmo 0)), .int (iI (fmo 1)), .int (iI (bI HM)), .ref k_rt, .ref k_rf, .ref k_ct, .ref k_cf, .ref k_nd, .ref k_na, .ref k_no, .ref k_bt, .ref k_bc, .ref k_br, .int (iI (mm - 1)), .int (iI pp), .ref k_pc, .ref k_pr, .ref k_la, .ref k_lb, .ref k_ha, .ref k_hb, .ref k_ls, .ref k_wc, .int (iI wd), .int (iI mg), .int (iI mw), .int (iI mc)])), (k_ch, .inl (cI, aI 13 fsz)), (k_co, .inl (cI, aI 78 fco)), (k_ba, .inl (cZ, aI 468 fba)), (k_ua, .inl (cI, aI 78 ffu)), (k_ub, .inl (cI, aI 78 fsu)), (k_rf, .inl (cJ, aL 152971 grf)), (k_cf, .inl (cI, aI 152971 gcf)), (k_bt, .inl (cI, aI 3000 (uZ BT q (BT (mm - 1))))), (k_bc, .inl (cI, aI 3000 (uZ BC q (BC (mm - 1))))), (k_br, .inl (cJ, aL 3000 BR)), (k_pc, .inl (cI, aI 20 PC)), (k_pr, .inl (cJ, aL 20 PW))]) 9 0 rfl rfl (by omega) (by omega) (by omega) std_M_findPlans_147 rfl ?_
                  refine g_aload_n C 4 std_M_findPlans_148 rfl ?_
                  refine g_get C (st_sub sti_M) 0 rfl rfl 21 (by decide) (List.mem_cons_of_mem _ kw_3_87) rfl rfl std_M_findPlans_149 ?_
                  refine g_iload_n C 3 std_M_findPlans_152 rfl ?_
                  refine g_aload_n C 4 std_M_findPlans_153 rfl ?_
                  refine g_get C (st_sub sti_M) 0 rfl rfl 21 (by decide) (List.mem_cons_of_mem _ kw_3_87) rfl rfl std_M_findPlans_154 ?_
                  refine g_aload_n C 4 std_M_findPlans_157 rfl ?_
                  refine g_get C (st_sub sti_M) 0 rfl rfl 22 (by decide) (List.mem_cons_of_mem _ kw_3_88) rfl rfl std_M_findPlans_158 ?_
                  refine g_lald C 10 1 rfl rfl (by omega) (by omega) (by omega) std_M_findPlans_161 ?_
                  refine g_last C (ws' := [(m0, .inr (5, [.int (iI 0), .int (iI ((n : Nat) : Int)), .ref k_ch, .ref k_co, .ref k_ua, .ref k_ub, .ref k_ba, .int (iI (fle 0)), .int (iI (fle 1)), .int (iI (fmo 0)), .int (iI (fmo 1)), .int (iI (bI HM)), .ref k_rt, .ref k_rf, .ref k_ct, .ref k_cf, .ref k_nd, .ref k_na, .ref k_no, .ref k_bt, .ref k_bc, .ref k_br, .int (iI (mm - 1)), .int (iI pp), .ref k_pc, .ref k_pr, .ref k_la, .ref k_lb, .ref k_ha, .ref k_hb, .ref k_ls, .ref k_wc, .int (iI wd), .int (iI mg), .int (iI mw), .int (iI mc)])), (k_ch, .inl (cI, aI 13 fsz)), (k_co, .inl (cI, aI 78 fco)), (k_ba, .inl (cZ, aI 468 fba)), (k_ua, .inl (cI, aI 78 ffu)), (k_ub, .inl (cI, aI 78 fsu)), (k_rf, .inl (cJ, aL 152971 grf)), (k_cf, .inl (cI, aI 152971 gcf)), (k_bt, .inl (cI, aI 3000 (uZ BT q (BT (mm - 1))))), (k_bc, .inl (cI, aI 3000 (uZ BC q (BC (mm - 1))))), (k_br, .inl (cJ, aL 3000 (uZ BR q (BR (mm - 1))))), (k_pc, .inl (cI, aI 20 PC)), (k_pr, .inl (cJ, aL 20 PW))]) 10 1 rfl rfl (by omega) (by omega) (by omega) std_M_findPlans_162 rfl ?_
                  refine g_iload_n C 2 std_M_findPlans_163 rfl ?_
                  refine g_sipush C std_M_findPlans_164 (by decide) ?_
                  refine g_idiv C std_M_findPlans_167 (by omega) (by decide) ?_
                  refine g_st (st' := [.int (iI ((d : Nat) : Int))]) (by rw [hdv]) ?_
                  refine g_istore C (lv' := [(7, .int (iI ((d : Nat) : Int))), (5, .long (lI (BR q))), (4, .int (iI (BC q))), (3, .int (iI (BT q))), (2, .int (iI q)), (0, .ref m0)]) std_M_findPlans_168 (by decide) rfl ?_
                  refine g_iload C 0 std_M_findPlans_170 rfl ?_
                  refine g_aload_n C 5 std_M_findPlans_172 rfl ?_
                  refine g_get C (st_sub sti_M) 0 rfl rfl 1 (by decide) (List.mem_cons_of_mem _ kw_3_67) rfl rfl std_M_findPlans_173 ?_
                  refine g_icmp_ne (tgt := 211) C std_M_findPlans_176 (by decide) ⟨by omega, by omega⟩ ⟨by omega, by omega⟩ (fun c31 => ?_) (fun c31 => ?_)
                  · refine g_iconst C std_M_findPlans_211 ?_
                    refine g_istore C (lv' := [(8, .int (iI 0)), (7, .int (iI ((d : Nat) : Int))), (5, .long (lI (BR q))), (4, .int (iI (BC q))), (3, .int (iI (BT q))), (2, .int (iI q)), (0, .ref m0)]) std_M_findPlans_212 (by decide) rfl ?_
                    have L214 : ∀ (nn214 : Nat) (y : Int) (bb : Int) (A1 : Int → Int) (C1 : Int → Int) (R1 : Int → Int), (0 ≤ y ∧ y ≤ fsz ((d : Nat) : Int)) → (0 ≤ bb ∧ bb ≤ mm - 1 + y) → FH fsz fbb ffu fsu fmo fle (PR fsz fco ffu fsu fbb fmo fle n) n gcf PC PW pp bb A1 C1 R1 d k0 (BR q) (cde gcf (BT q) (BC q) (BR q)) W y → (fsz ((d : Nat) : Int) - y) < (nn214 : Int) → G p l e ({ frames := 2, cells := 0, slots := 0, locals := 50 } : Room) s m ([.ref m0] : List Value).toArray below meth c (dC, dI) stCl 10 A 0 0 Q [(m0, .inr (5, [.int (iI 0), .int (iI ((n : Nat) : Int)), .ref k_ch, .ref k_co, .ref k_ua, .ref k_ub, .ref k_ba, .int (iI (fle 0)), .int (iI (fle 1)), .int (iI (fmo 0)), .int (iI (fmo 1)), .int (iI (bI HM)), .ref k_rt, .ref k_rf, .ref k_ct, .ref k_cf, .ref k_nd, .ref k_na, .ref k_no, .ref k_bt, .ref k_bc, .ref k_br, .int (iI bb), .int (iI pp), .ref k_pc, .ref k_pr, .ref k_la, .ref k_lb, .ref k_ha, .ref k_hb, .ref k_ls, .ref k_wc, .int (iI wd), .int (iI mg), .int (iI mw), .int (iI mc)])), (k_ch, .inl (cI, aI 13 fsz)), (k_co, .inl (cI, aI 78 fco)), (k_ba, .inl (cZ, aI 468 fba)), (k_ua, .inl (cI, aI 78 ffu)), (k_ub, .inl (cI, aI 78 fsu)), (k_rf, .inl (cJ, aL 152971 grf)), (k_cf, .inl (cI, aI 152971 gcf)), (k_bt, .inl (cI, aI 3000 A1)), (k_bc, .inl (cI, aI 3000 C1)), (k_br, .inl (cJ, aL 3000 R1)), (k_pc, .inl (cI, aI 20 PC)), (k_pr, .inl (cJ, aL 20 PW))] 214 [(8, .int (iI y)), (7, .int (iI ((d : Nat) : Int))), (5, .long (lI (BR q))), (4, .int (iI (BC q))), (3, .int (iI (BT q))), (0, .ref m0)] [] := by
                      intro nn214
                      induction nn214 with
                      | zero =>
                        intro y bb A1 C1 R1 ky kb kH hnn214
                        exact absurd hnn214 (by omega)
                      | succ nn214 ih214 =>
                        intro y bb A1 C1 R1 ky kb kH hnn214
                        refine g_iload C 0 std_M_findPlans_214 rfl ?_
                        refine g_aload_n C 5 std_M_findPlans_216 rfl ?_
                        refine g_get C (st_sub sti_M) 0 rfl rfl 2 (by decide) (List.mem_cons_of_mem _ kw_3_68) rfl rfl std_M_findPlans_217 ?_
                        refine g_iload C 1 std_M_findPlans_220 rfl ?_
                        refine g_iald C 1 0 rfl rfl (by omega) (by omega) (by omega) std_M_findPlans_222 ?_
                        refine g_icmp_ge (tgt := 305) C std_M_findPlans_223 (by decide) ⟨by omega, by omega⟩ ⟨by omega, by omega⟩ (fun c32 => ?_) (fun c32 => ?_)
                        · refine g_goto (tgt := 36) C std_M_findPlans_305 (by decide) ?_
                          refine g_lv (lv' := [(0, .ref m0)]) [5] rfl ?_
                          exact ih36 pp bb (tt + 1) A1 C1 R1 PC PW (by omega) (fh_fr kT kn12 (by omega) hPR kH (by omega)) (fh_ft kT kn12 kFB (by omega) hPR hcd hW kH (by omega) ⟨by omega, by omega⟩ kt.2.1 (by omega)) (by omega)
                        · refine g_iload C 1 std_M_findPlans_226 rfl ?_
                          refine g_aload_n C 5 std_M_findPlans_228 rfl ?_
                          refine g_get C (st_sub sti_M) 0 rfl rfl 1 (by decide) (List.mem_cons_of_mem _ kw_3_67) rfl rfl std_M_findPlans_229 ?_
                          refine g_icmp_ge (tgt := 305) C std_M_findPlans_232 (by decide) ⟨by omega, by omega⟩ ⟨by omega, by omega⟩ (fun c33 => ?_) (fun c33 => ?_)
                          · refine g_goto (tgt := 36) C std_M_findPlans_305 (by decide) ?_
                            refine g_lv (lv' := [(0, .ref m0)]) [5] rfl ?_
                            exact ih36 pp bb (tt + 1) A1 C1 R1 PC PW (by omega) (fh_fr kT kn12 (by omega) hPR kH (by omega)) (fh_ft kT kn12 kFB (by omega) hPR hcd hW kH (by omega) ⟨by omega, by omega⟩ kt.2.1 (by omega)) (by omega)
                          · refine g_aload_n C 5 std_M_findPlans_235 rfl ?_
                            refine g_iload_n C 4 std_M_findPlans_236 rfl ?_
                            refine g_iload C 0 std_M_findPlans_237 rfl ?_
                            refine g_V_i (wc := [(m0, .inr (5, [.int (iI 0), .int (iI ((n : Nat) : Int)), .ref k_ch, .ref k_co, .ref k_ua, .ref k_ub, .ref k_ba, .int (iI (fle 0)), .int (iI (fle 1)), .int (iI (fmo 0)), .int (iI (fmo 1)), .int (iI (bI HM)), .ref k_rt, .ref k_rf, .ref k_ct, .ref k_cf, .ref k_nd, .ref k_na, .ref k_no, .ref k_bt, .ref k_bc, .ref k_br, .int (iI bb), .int (iI pp), .ref k_pc, .ref k_pr, .ref k_la, .ref k_lb, .ref k_ha, .ref k_hb, .ref k_ls, .ref k_wc, .int (iI wd), .int (iI mg), .int (iI mw), .int (iI mc)])), (k_ba, .inl (cZ, aI 468 fba)), (k_ua, .inl (cI, aI 78 ffu)), (k_ub, .inl (cI, aI 78 fsu))]) (wr := [(k_ch, .inl (cI, aI 13 fsz)), (k_co, .inl (cI, aI 78 fco)), (k_rf, .inl (cJ, aL 152971 grf)), (k_cf, .inl (cI, aI 152971 gcf)), (k_bt, .inl (cI, aI 3000 A1)), (k_bc, .inl (cI, aI 3000 C1)), (k_br, .inl (cJ, aL 3000 R1)), (k_pc, .inl (cI, aI 20 PC)), (k_pr, .inl (cJ, aL 20 PW))]) (rest := []) C (c_m_next l dC dI cI cJ cZ m0 k_ch k_co k_ua k_ub k_ba k_rt k_rf k_ct k_cf k_nd k_na k_no k_bt k_bc k_br k_pc k_pr k_la k_lb k_ha k_hb k_ls k_wc HM bb pp wd mg mw mc ((n : Nat) : Int) d fle fba fsz fco ffu fsu fbb fmo (BT q) y k0 (kBR) (kT) (by omega) (by omega) (hvk) (fun z0 => by subst z0; exact wt_00 hwt) (hat)) (st_cV C kw_3_224 kw_3_221 kw_1_6 kw_3_223 kw_0_21 sth_M_next ⟨Nat.le_of_ble_eq_true rfl, Nat.le_of_ble_eq_true rfl⟩) 0 rfl rfl rfl rfl (Nat.le_of_ble_eq_true rfl) std_M_findPlans_239 ⟨Nat.le_of_ble_eq_true rfl, Nat.le_of_ble_eq_true rfl⟩ [0, 3, 4, 5] [1, 2, 6, 7, 8, 9, 10, 11, 12] rfl rfl rfl rfl (by decide) (fun r34 u35 h36 => ?_)
                            subst h36
                            refine g_ws (ws' := [(k_ch, .inl (cI, aI 13 fsz)), (k_co, .inl (cI, aI 78 fco)), (k_rf, .inl (cJ, aL 152971 grf)), (k_cf, .inl (cI, aI 152971 gcf)), (k_bt, .inl (cI, aI 3000 A1)), (k_bc, .inl (cI, aI 3000 C1)), (k_br, .inl (cJ, aL 3000 R1)), (k_pc, .inl (cI, aI 20 PC)), (k_pr, .inl (cJ, aL 20 PW)), (m0, .inr (5, [.int (iI 0), .int (iI ((n : Nat) : Int)), .ref k_ch, .ref k_co, .ref k_ua, .ref k_ub, .ref k_ba, .int (iI (fle 0)), .int (iI (fle 1)), .int (iI (fmo 0)), .int (iI (fmo 1)), .int (iI (bI HM)), .ref k_rt, .ref k_rf, .ref k_ct, .ref k_cf, .ref k_nd, .ref k_na, .ref k_no, .ref k_bt, .ref k_bc, .ref k_br, .int (iI bb), .int (iI pp), .ref k_pc, .ref k_pr, .ref k_la, .ref k_lb, .ref k_ha, .ref k_hb, .ref k_ls, .ref k_wc, .int (iI wd), .int (iI mg), .int (iI mw), .int (iI mc)])), (k_ba, .inl (cZ, aI 468 fba)), (k_ua, .inl (cI, aI 78 ffu)), (k_ub, .inl (cI, aI 78 fsu))]) rfl ?_
                            have hnx : ((kn fbb ffu fsu fmo ((((d : Nat) : Int) * 6) + y) y k0) = -1 ∧ (nxt fbb ffu fsu fmo ((d : Nat) : Int) y k0) = -1000000) ∨ (¬ (kn fbb ffu fsu fmo ((((d : Nat) : Int) * 6) + y) y k0) = -1 ∧ (nxt fbb ffu fsu fmo ((d : Nat) : Int) y k0) = 11767 * (((d : Nat) : Int) + 1) + kat (kn fbb ffu fsu fmo ((((d : Nat) : Int) * 6) + y) y k0)) := nx_cases
                            have hvr : ¬ (kn fbb ffu fsu fmo ((((d : Nat) : Int) * 6) + y) y k0) = -1 → 0 ≤ kat (kn fbb ffu fsu fmo ((((d : Nat) : Int) * 6) + y) y k0) ∧ kat (kn fbb ffu fsu fmo ((((d : Nat) : Int) * 6) + y) y k0) < 11767 := fun z0 => (kat_r (kn_vk kT (by omega) (by omega) (by omega) (by omega) hvk z0).1).1
                            refine g_istore C (lv' := [(9, .int (iI (nxt fbb ffu fsu fmo ((d : Nat) : Int) y k0))), (8, .int (iI y)), (7, .int (iI ((d : Nat) : Int))), (5, .long (lI (BR q))), (4, .int (iI (BC q))), (3, .int (iI (BT q))), (0, .ref m0)]) std_M_findPlans_242 (by decide) rfl ?_
                            refine g_iload C 0 std_M_findPlans_244 rfl ?_
                            refine g_ldc C (z := (-1000000)) (List.mem_cons_of_mem _ kw_3_234) (by decide) std_M_findPlans_246 ?_
                            refine g_icmp_eq (tgt := 299) C std_M_findPlans_248 (by decide) ⟨by omega, by omega⟩ ⟨by omega, by omega⟩ (fun c37 => ?_) (fun c37 => ?_)
                            · have hsh : (kn fbb ffu fsu fmo ((((d : Nat) : Int) * 6) + y) y k0) = -1 := by omega
                              refine g_iinc C (lv' := [(8, .int (iI (y + 1))), (9, .int (iI (nxt fbb ffu fsu fmo ((d : Nat) : Int) y k0))), (7, .int (iI ((d : Nat) : Int))), (5, .long (lI (BR q))), (4, .int (iI (BC q))), (3, .int (iI (BT q))), (0, .ref m0)]) 1 std_M_findPlans_299 rfl (by decide) rfl ?_
                              refine g_goto (tgt := 214) C std_M_findPlans_302 (by decide) ?_
                              refine g_sub (ws' := [(m0, .inr (5, [.int (iI 0), .int (iI ((n : Nat) : Int)), .ref k_ch, .ref k_co, .ref k_ua, .ref k_ub, .ref k_ba, .int (iI (fle 0)), .int (iI (fle 1)), .int (iI (fmo 0)), .int (iI (fmo 1)), .int (iI (bI HM)), .ref k_rt, .ref k_rf, .ref k_ct, .ref k_cf, .ref k_nd, .ref k_na, .ref k_no, .ref k_bt, .ref k_bc, .ref k_br, .int (iI bb), .int (iI pp), .ref k_pc, .ref k_pr, .ref k_la, .ref k_lb, .ref k_ha, .ref k_hb, .ref k_ls, .ref k_wc, .int (iI wd), .int (iI mg), .int (iI mw), .int (iI mc)])), (k_ch, .inl (cI, aI 13 fsz)), (k_co, .inl (cI, aI 78 fco)), (k_ba, .inl (cZ, aI 468 fba)), (k_ua, .inl (cI, aI 78 ffu)), (k_ub, .inl (cI, aI 78 fsu)), (k_rf, .inl (cJ, aL 152971 grf)), (k_cf, .inl (cI, aI 152971 gcf)), (k_bt, .inl (cI, aI 3000 A1)), (k_bc, .inl (cI, aI 3000 C1)), (k_br, .inl (cJ, aL 3000 R1)), (k_pc, .inl (cI, aI 20 PC)), (k_pr, .inl (cJ, aL 20 PW))]) [9, 0, 1, 10, 11, 12, 2, 3, 4, 5, 6, 7, 8] rfl rfl ?_
                              refine g_lv (lv' := [(8, .int (iI (y + 1))), (7, .int (iI ((d : Nat) : Int))), (5, .long (lI (BR q))), (4, .int (iI (BC q))), (3, .int (iI (BT q))), (0, .ref m0)]) [0, 2, 3, 4, 5, 6] rfl ?_
                              refine g_wide (k := 0) (n := 0) (Nat.le_of_ble_eq_true rfl) (Nat.le_of_ble_eq_true rfl) ?_
                              exact ih214 (y + 1) bb A1 C1 R1 (by omega) (by omega) (fh_no kT kn12 (by omega) hPR kH ⟨by omega, by omega⟩ (fun z0 => z0.1 hsh)) (by omega)
                            · have hop : ¬ (kn fbb ffu fsu fmo ((((d : Nat) : Int) * 6) + y) y k0) = -1 := by omega
                              have hvr2 := hvr hop
                              have hto : (nxt fbb ffu fsu fmo ((d : Nat) : Int) y k0) = 11767 * (((d : Nat) : Int) + 1) + kat (kn fbb ffu fsu fmo ((((d : Nat) : Int) * 6) + y) y k0) := by omega
                              have hFb := (kFB (d + 1) (by omega) (kn fbb ffu fsu fmo ((((d : Nat) : Int) * 6) + y) y k0) (kn_vk kT (by omega) (by omega) (by omega) (by omega) hvk hop).1 (wt_pos kT (by omega) (by omega) (by omega) hvk hwt hop)).1
                              rw [show 11767 * ((d + 1 : Nat) : Int) = 11767 * (((d : Nat) : Int) + 1) by omega, ← hto] at hFb
                              have hwn := wf_nn (fsz := fsz) (ffu := ffu) (fsu := fsu) (fbb := fbb) (fmo := fmo) (fle := fle) (n - (d + 1)) (d + 1) (kn fbb ffu fsu fmo ((((d : Nat) : Int) * 6) + y) y k0)
                              have hwb := wf_big (fle := fle) kT (j := n - (d + 1)) (d := d + 1) (k := (kn fbb ffu fsu fmo ((((d : Nat) : Int) * 6) + y) y k0)) (by omega)
                              refine g_aload_n C 6 std_M_findPlans_251 rfl ?_
                              refine g_get C (st_sub sti_M) 9 rfl rfl 13 (by decide) (List.mem_cons_of_mem _ kw_3_79) rfl rfl std_M_findPlans_252 ?_
                              refine g_iload C 0 std_M_findPlans_255 rfl ?_
                              refine g_lald C 2 1 rfl rfl (by omega) (by omega) (by omega) std_M_findPlans_257 ?_
                              refine g_lconst C (z := 0) std_M_findPlans_258 (by decide) ?_
                              refine g_lcmp_le (tgt := 299) C std_M_findPlans_259 std_M_findPlans_260 (by decide) ⟨by omega, by omega⟩ ⟨by omega, by omega⟩ (fun c38 => ?_) (fun c38 => ?_)
                              · refine g_iinc C (lv' := [(8, .int (iI (y + 1))), (9, .int (iI (nxt fbb ffu fsu fmo ((d : Nat) : Int) y k0))), (7, .int (iI ((d : Nat) : Int))), (5, .long (lI (BR q))), (4, .int (iI (BC q))), (3, .int (iI (BT q))), (0, .ref m0)]) 1 std_M_findPlans_299 rfl (by decide) rfl ?_
                                refine g_goto (tgt := 214) C std_M_findPlans_302 (by decide) ?_
                                refine g_sub (ws' := [(m0, .inr (5, [.int (iI 0), .int (iI ((n : Nat) : Int)), .ref k_ch, .ref k_co, .ref k_ua, .ref k_ub, .ref k_ba, .int (iI (fle 0)), .int (iI (fle 1)), .int (iI (fmo 0)), .int (iI (fmo 1)), .int (iI (bI HM)), .ref k_rt, .ref k_rf, .ref k_ct, .ref k_cf, .ref k_nd, .ref k_na, .ref k_no, .ref k_bt, .ref k_bc, .ref k_br, .int (iI bb), .int (iI pp), .ref k_pc, .ref k_pr, .ref k_la, .ref k_lb, .ref k_ha, .ref k_hb, .ref k_ls, .ref k_wc, .int (iI wd), .int (iI mg), .int (iI mw), .int (iI mc)])), (k_ch, .inl (cI, aI 13 fsz)), (k_co, .inl (cI, aI 78 fco)), (k_ba, .inl (cZ, aI 468 fba)), (k_ua, .inl (cI, aI 78 ffu)), (k_ub, .inl (cI, aI 78 fsu)), (k_rf, .inl (cJ, aL 152971 grf)), (k_cf, .inl (cI, aI 152971 gcf)), (k_bt, .inl (cI, aI 3000 A1)), (k_bc, .inl (cI, aI 3000 C1)), (k_br, .inl (cJ, aL 3000 R1)), (k_pc, .inl (cI, aI 20 PC)), (k_pr, .inl (cJ, aL 20 PW))]) [9, 0, 1, 10, 11, 12, 2, 3, 4, 5, 6, 7, 8] rfl rfl ?_
                                refine g_lv (lv' := [(8, .int (iI (y + 1))), (7, .int (iI ((d : Nat) : Int))), (5, .long (lI (BR q))), (4, .int (iI (BC q))), (3, .int (iI (BT q))), (0, .ref m0)]) [0, 2, 3, 4, 5, 6] rfl ?_
                                refine g_wide (k := 0) (n := 0) (Nat.le_of_ble_eq_true rfl) (Nat.le_of_ble_eq_true rfl) ?_
                                exact ih214 (y + 1) bb A1 C1 R1 (by omega) (by omega) (fh_no kT kn12 (by omega) hPR kH ⟨by omega, by omega⟩ (fun z0 => by have := z0.2; omega)) (by omega)
                              · have hco := kT.2.1 ((((d : Nat) : Int) * 6) + y) (by omega) (by omega)
                                refine g_aload_n C 6 std_M_findPlans_263 rfl ?_
                                refine g_iload C 0 std_M_findPlans_264 rfl ?_
                                refine g_iload C 4 std_M_findPlans_266 rfl ?_
                                refine g_aload_n C 6 std_M_findPlans_268 rfl ?_
                                refine g_get C (st_sub sti_M) 9 rfl rfl 3 (by decide) (List.mem_cons_of_mem _ kw_3_69) rfl rfl std_M_findPlans_269 ?_
                                refine g_bipush C std_M_findPlans_272 (by decide) ?_
                                refine g_iload C 2 std_M_findPlans_274 rfl ?_
                                refine g_imul C std_M_findPlans_276 ?_
                                refine g_iload C 1 std_M_findPlans_277 rfl ?_
                                refine g_iadd C std_M_findPlans_279 ?_
                                refine g_iald C 1 0 rfl rfl (by omega) (by omega) (by omega) std_M_findPlans_280 ?_
                                refine g_iadd C std_M_findPlans_281 ?_
                                refine g_lload C 3 std_M_findPlans_282 rfl ?_
                                refine g_iload C 1 std_M_findPlans_284 rfl ?_
                                refine g_i2l C std_M_findPlans_286 ⟨by omega, by omega⟩ ?_
                                refine g_iconst C std_M_findPlans_287 ?_
                                refine g_bipush C std_M_findPlans_288 (by decide) ?_
                                refine g_iload C 2 std_M_findPlans_290 rfl ?_
                                refine g_isub C std_M_findPlans_292 ?_
                                refine g_imul C std_M_findPlans_293 ?_
                                refine g_lshl C (z := (y * (2 ^ (3 * (11 - ((d : Nat) : Int))).toNat))) std_M_findPlans_294 (lI_shl (by omega) (by omega) rfl) ?_
                                refine g_lor C (z := ((BR q) + (y * (8 ^ (11 - d))))) std_M_findPlans_295 (l_or8 (by omega) (pr_r kT d _ _ _ (by omega) hPR) ⟨by omega, by omega⟩) ?_
                                refine g_V_v (wc := [(m0, .inr (5, [.int (iI 0), .int (iI ((n : Nat) : Int)), .ref k_ch, .ref k_co, .ref k_ua, .ref k_ub, .ref k_ba, .int (iI (fle 0)), .int (iI (fle 1)), .int (iI (fmo 0)), .int (iI (fmo 1)), .int (iI (bI HM)), .ref k_rt, .ref k_rf, .ref k_ct, .ref k_cf, .ref k_nd, .ref k_na, .ref k_no, .ref k_bt, .ref k_bc, .ref k_br, .int (iI bb), .int (iI pp), .ref k_pc, .ref k_pr, .ref k_la, .ref k_lb, .ref k_ha, .ref k_hb, .ref k_ls, .ref k_wc, .int (iI wd), .int (iI mg), .int (iI mw), .int (iI mc)])), (k_bt, .inl (cI, aI 3000 A1)), (k_bc, .inl (cI, aI 3000 C1)), (k_br, .inl (cJ, aL 3000 R1))]) (wr := [(k_ch, .inl (cI, aI 13 fsz)), (k_co, .inl (cI, aI 78 fco)), (k_rf, .inl (cJ, aL 152971 grf)), (k_cf, .inl (cI, aI 152971 gcf)), (k_pc, .inl (cI, aI 20 PC)), (k_pr, .inl (cJ, aL 20 PW)), (k_ba, .inl (cZ, aI 468 fba)), (k_ua, .inl (cI, aI 78 ffu)), (k_ub, .inl (cI, aI 78 fsu))]) (rest := []) C (c_m_begin l dC dI cI cJ cZ m0 k_ch k_co k_ua k_ub k_ba k_rt k_rf k_ct k_cf k_nd k_na k_no k_bt k_bc k_br k_pc k_pr k_la k_lb k_ha k_hb k_ls k_wc HM bb pp wd mg mw mc ((n : Nat) : Int) fle fmo A1 C1 R1 (nxt fbb ffu fsu fmo ((d : Nat) : Int) y k0) ((BC q) + (fco ((6 * ((d : Nat) : Int)) + y))) ((BR q) + (y * (8 ^ (11 - d)))) (by omega)) (st_cV C kw_4_6 kw_4_3 kw_1_6 kw_4_5 kw_0_24 sth_M_begin ⟨Nat.le_of_ble_eq_true rfl, Nat.le_of_ble_eq_true rfl⟩) 0 rfl rfl rfl rfl (Nat.le_of_ble_eq_true rfl) std_M_findPlans_296 ⟨Nat.le_of_ble_eq_true rfl, Nat.le_of_ble_eq_true rfl⟩ [9, 4, 5, 6] [0, 1, 2, 3, 7, 8, 10, 11, 12] rfl rfl rfl rfl (by decide) (fun u40 h41 => ?_)
                                refine g_ws (ws' := [(k_ch, .inl (cI, aI 13 fsz)), (k_co, .inl (cI, aI 78 fco)), (k_rf, .inl (cJ, aL 152971 grf)), (k_cf, .inl (cI, aI 152971 gcf)), (k_pc, .inl (cI, aI 20 PC)), (k_pr, .inl (cJ, aL 20 PW)), (k_ba, .inl (cZ, aI 468 fba)), (k_ua, .inl (cI, aI 78 ffu)), (k_ub, .inl (cI, aI 78 fsu)), (m0, .inr (5, [.int (iI 0), .int (iI ((n : Nat) : Int)), .ref k_ch, .ref k_co, .ref k_ua, .ref k_ub, .ref k_ba, .int (iI (fle 0)), .int (iI (fle 1)), .int (iI (fmo 0)), .int (iI (fmo 1)), .int (iI (bI HM)), .ref k_rt, .ref k_rf, .ref k_ct, .ref k_cf, .ref k_nd, .ref k_na, .ref k_no, .ref k_bt, .ref k_bc, .ref k_br, .int (iI (bb + 1)), .int (iI pp), .ref k_pc, .ref k_pr, .ref k_la, .ref k_lb, .ref k_ha, .ref k_hb, .ref k_ls, .ref k_wc, .int (iI wd), .int (iI mg), .int (iI mw), .int (iI mc)])), (k_bt, .inl (cI, aI 3000 (uZ A1 bb (nxt fbb ffu fsu fmo ((d : Nat) : Int) y k0)))), (k_bc, .inl (cI, aI 3000 (uZ C1 bb ((BC q) + (fco ((6 * ((d : Nat) : Int)) + y)))))), (k_br, .inl (cJ, aL 3000 (uZ R1 bb ((BR q) + (y * (8 ^ (11 - d)))))))]) rfl ?_
                                refine g_iinc C (lv' := [(8, .int (iI (y + 1))), (9, .int (iI (nxt fbb ffu fsu fmo ((d : Nat) : Int) y k0))), (7, .int (iI ((d : Nat) : Int))), (5, .long (lI (BR q))), (4, .int (iI (BC q))), (3, .int (iI (BT q))), (0, .ref m0)]) 1 std_M_findPlans_299 rfl (by decide) rfl ?_
                                refine g_goto (tgt := 214) C std_M_findPlans_302 (by decide) ?_
                                refine g_sub (ws' := [(m0, .inr (5, [.int (iI 0), .int (iI ((n : Nat) : Int)), .ref k_ch, .ref k_co, .ref k_ua, .ref k_ub, .ref k_ba, .int (iI (fle 0)), .int (iI (fle 1)), .int (iI (fmo 0)), .int (iI (fmo 1)), .int (iI (bI HM)), .ref k_rt, .ref k_rf, .ref k_ct, .ref k_cf, .ref k_nd, .ref k_na, .ref k_no, .ref k_bt, .ref k_bc, .ref k_br, .int (iI (bb + 1)), .int (iI pp), .ref k_pc, .ref k_pr, .ref k_la, .ref k_lb, .ref k_ha, .ref k_hb, .ref k_ls, .ref k_wc, .int (iI wd), .int (iI mg), .int (iI mw), .int (iI mc)])), (k_ch, .inl (cI, aI 13 fsz)), (k_co, .inl (cI, aI 78 fco)), (k_ba, .inl (cZ, aI 468 fba)), (k_ua, .inl (cI, aI 78 ffu)), (k_ub, .inl (cI, aI 78 fsu)), (k_rf, .inl (cJ, aL 152971 grf)), (k_cf, .inl (cI, aI 152971 gcf)), (k_bt, .inl (cI, aI 3000 (uZ A1 bb (nxt fbb ffu fsu fmo ((d : Nat) : Int) y k0)))), (k_bc, .inl (cI, aI 3000 (uZ C1 bb ((BC q) + (fco ((6 * ((d : Nat) : Int)) + y)))))), (k_br, .inl (cJ, aL 3000 (uZ R1 bb ((BR q) + (y * (8 ^ (11 - d))))))), (k_pc, .inl (cI, aI 20 PC)), (k_pr, .inl (cJ, aL 20 PW))]) [9, 0, 1, 6, 7, 8, 2, 3, 10, 11, 12, 4, 5] rfl rfl ?_
                                refine g_lv (lv' := [(8, .int (iI (y + 1))), (7, .int (iI ((d : Nat) : Int))), (5, .long (lI (BR q))), (4, .int (iI (BC q))), (3, .int (iI (BT q))), (0, .ref m0)]) [0, 2, 3, 4, 5, 6] rfl ?_
                                refine g_wide (k := 0) (n := 0) (Nat.le_of_ble_eq_true rfl) (Nat.le_of_ble_eq_true rfl) ?_
                                exact ih214 (y + 1) (bb + 1) (uZ A1 bb (nxt fbb ffu fsu fmo ((d : Nat) : Int) y k0)) (uZ C1 bb ((BC q) + (fco ((6 * ((d : Nat) : Int)) + y)))) (uZ R1 bb ((BR q) + (y * (8 ^ (11 - d))))) (by omega) (by omega) (fh_yes kT kn12 kFB (by omega) hPR hcd (fun j h1 h2 => kF.2.2.1 q (by omega) (by omega) j h1 h2) hW kH (by omega) ⟨by omega, by omega⟩ hop (by omega) hto (by rw [Int.mul_comm 6]) rfl) (by omega)
                    refine g_lv (lv' := [(8, .int (iI 0)), (7, .int (iI ((d : Nat) : Int))), (5, .long (lI (BR q))), (4, .int (iI (BC q))), (3, .int (iI (BT q))), (0, .ref m0)]) [0, 1, 2, 3, 4, 6] rfl ?_
                    obtain ⟨nn0, hnn0⟩ : ∃ nn0 : Nat, (fsz ((d : Nat) : Int) - 0) < (nn0 : Int) := z_nat _
                    exact L214 nn0 0 (mm - 1) (uZ BT q (BT (mm - 1))) (uZ BC q (BC (mm - 1))) (uZ BR q (BR (mm - 1))) (by omega) (by omega) (fr_pop kT kn12 kFB kF ⟨by omega, by omega⟩ hmin hdv) hnn0
                  · refine g_aload_n C 5 std_M_findPlans_179 rfl ?_
                    refine g_get C (st_sub sti_M) 0 rfl rfl 24 (by decide) (List.mem_cons_of_mem _ kw_3_90) rfl rfl std_M_findPlans_180 ?_
                    refine g_aload_n C 5 std_M_findPlans_183 rfl ?_
                    refine g_get C (st_sub sti_M) 0 rfl rfl 23 (by decide) (List.mem_cons_of_mem _ kw_3_89) rfl rfl std_M_findPlans_184 ?_
                    refine g_iload C 2 std_M_findPlans_187 rfl ?_
                    refine g_iast C (ws' := [(m0, .inr (5, [.int (iI 0), .int (iI ((n : Nat) : Int)), .ref k_ch, .ref k_co, .ref k_ua, .ref k_ub, .ref k_ba, .int (iI (fle 0)), .int (iI (fle 1)), .int (iI (fmo 0)), .int (iI (fmo 1)), .int (iI (bI HM)), .ref k_rt, .ref k_rf, .ref k_ct, .ref k_cf, .ref k_nd, .ref k_na, .ref k_no, .ref k_bt, .ref k_bc, .ref k_br, .int (iI (mm - 1)), .int (iI pp), .ref k_pc, .ref k_pr, .ref k_la, .ref k_lb, .ref k_ha, .ref k_hb, .ref k_ls, .ref k_wc, .int (iI wd), .int (iI mg), .int (iI mw), .int (iI mc)])), (k_ch, .inl (cI, aI 13 fsz)), (k_co, .inl (cI, aI 78 fco)), (k_ba, .inl (cZ, aI 468 fba)), (k_ua, .inl (cI, aI 78 ffu)), (k_ub, .inl (cI, aI 78 fsu)), (k_rf, .inl (cJ, aL 152971 grf)), (k_cf, .inl (cI, aI 152971 gcf)), (k_bt, .inl (cI, aI 3000 (uZ BT q (BT (mm - 1))))), (k_bc, .inl (cI, aI 3000 (uZ BC q (BC (mm - 1))))), (k_br, .inl (cJ, aL 3000 (uZ BR q (BR (mm - 1))))), (k_pc, .inl (cI, aI 20 (uZ PC pp (BC q)))), (k_pr, .inl (cJ, aL 20 PW))]) 11 0 rfl rfl (by omega) (by omega) (by omega) std_M_findPlans_189 rfl ?_
                    refine g_aload_n C 5 std_M_findPlans_190 rfl ?_
                    refine g_get C (st_sub sti_M) 0 rfl rfl 25 (by decide) (List.mem_cons_of_mem _ kw_3_91) rfl rfl std_M_findPlans_191 ?_
                    refine g_aload_n C 5 std_M_findPlans_194 rfl ?_
                    refine g_get C (st_sub sti_M) 0 rfl rfl 23 (by decide) (List.mem_cons_of_mem _ kw_3_89) rfl rfl std_M_findPlans_195 ?_
                    refine g_lload C 1 std_M_findPlans_198 rfl ?_
                    refine g_last C (ws' := [(m0, .inr (5, [.int (iI 0), .int (iI ((n : Nat) : Int)), .ref k_ch, .ref k_co, .ref k_ua, .ref k_ub, .ref k_ba, .int (iI (fle 0)), .int (iI (fle 1)), .int (iI (fmo 0)), .int (iI (fmo 1)), .int (iI (bI HM)), .ref k_rt, .ref k_rf, .ref k_ct, .ref k_cf, .ref k_nd, .ref k_na, .ref k_no, .ref k_bt, .ref k_bc, .ref k_br, .int (iI (mm - 1)), .int (iI pp), .ref k_pc, .ref k_pr, .ref k_la, .ref k_lb, .ref k_ha, .ref k_hb, .ref k_ls, .ref k_wc, .int (iI wd), .int (iI mg), .int (iI mw), .int (iI mc)])), (k_ch, .inl (cI, aI 13 fsz)), (k_co, .inl (cI, aI 78 fco)), (k_ba, .inl (cZ, aI 468 fba)), (k_ua, .inl (cI, aI 78 ffu)), (k_ub, .inl (cI, aI 78 fsu)), (k_rf, .inl (cJ, aL 152971 grf)), (k_cf, .inl (cI, aI 152971 gcf)), (k_bt, .inl (cI, aI 3000 (uZ BT q (BT (mm - 1))))), (k_bc, .inl (cI, aI 3000 (uZ BC q (BC (mm - 1))))), (k_br, .inl (cJ, aL 3000 (uZ BR q (BR (mm - 1))))), (k_pc, .inl (cI, aI 20 (uZ PC pp (BC q)))), (k_pr, .inl (cJ, aL 20 (uZ PW pp (BR q))))]) 12 1 rfl rfl (by omega) (by omega) (by omega) std_M_findPlans_200 rfl ?_
                    refine g_aload_n C 5 std_M_findPlans_201 rfl ?_
                    refine g_dup C std_M_findPlans_202 rfl ?_
                    refine g_get C (st_sub sti_M) 0 rfl rfl 23 (by decide) (List.mem_cons_of_mem _ kw_3_89) rfl rfl std_M_findPlans_203 ?_
                    refine g_iconst C std_M_findPlans_206 ?_
                    refine g_iadd C std_M_findPlans_207 ?_
                    refine g_put C (ws' := [(m0, .inr (5, [.int (iI 0), .int (iI ((n : Nat) : Int)), .ref k_ch, .ref k_co, .ref k_ua, .ref k_ub, .ref k_ba, .int (iI (fle 0)), .int (iI (fle 1)), .int (iI (fmo 0)), .int (iI (fmo 1)), .int (iI (bI HM)), .ref k_rt, .ref k_rf, .ref k_ct, .ref k_cf, .ref k_nd, .ref k_na, .ref k_no, .ref k_bt, .ref k_bc, .ref k_br, .int (iI (mm - 1)), .int (iI (pp + 1)), .ref k_pc, .ref k_pr, .ref k_la, .ref k_lb, .ref k_ha, .ref k_hb, .ref k_ls, .ref k_wc, .int (iI wd), .int (iI mg), .int (iI mw), .int (iI mc)])), (k_ch, .inl (cI, aI 13 fsz)), (k_co, .inl (cI, aI 78 fco)), (k_ba, .inl (cZ, aI 468 fba)), (k_ua, .inl (cI, aI 78 ffu)), (k_ub, .inl (cI, aI 78 fsu)), (k_rf, .inl (cJ, aL 152971 grf)), (k_cf, .inl (cI, aI 152971 gcf)), (k_bt, .inl (cI, aI 3000 (uZ BT q (BT (mm - 1))))), (k_bc, .inl (cI, aI 3000 (uZ BC q (BC (mm - 1))))), (k_br, .inl (cJ, aL 3000 (uZ BR q (BR (mm - 1))))), (k_pc, .inl (cI, aI 20 (uZ PC pp (BC q)))), (k_pr, .inl (cJ, aL 20 (uZ PW pp (BR q))))]) (st_sub sti_M) stt_M sto_M stn_M 0 rfl rfl 23 (by decide) (List.mem_cons_of_mem _ kw_3_89) rfl rfl rfl rfl (Nat.le_of_ble_eq_true rfl) std_M_findPlans_208 rfl ?_
                    have hN := fr_fin kT kn12 kFB kF (x := q) ⟨by omega, by omega⟩ hmin (by omega) (by omega)
                    refine g_iconst C std_M_findPlans_211 ?_
                    refine g_istore C (lv' := [(8, .int (iI 0)), (7, .int (iI ((d : Nat) : Int))), (5, .long (lI (BR q))), (4, .int (iI (BC q))), (3, .int (iI (BT q))), (2, .int (iI q)), (0, .ref m0)]) std_M_findPlans_212 (by decide) rfl ?_
                    refine g_iload C 0 std_M_findPlans_214 rfl ?_
                    refine g_aload_n C 6 std_M_findPlans_216 rfl ?_
                    refine g_get C (st_sub sti_M) 0 rfl rfl 2 (by decide) (List.mem_cons_of_mem _ kw_3_68) rfl rfl std_M_findPlans_217 ?_
                    refine g_iload C 1 std_M_findPlans_220 rfl ?_
                    refine g_iald C 1 0 rfl rfl (by omega) (by omega) (by omega) std_M_findPlans_222 ?_
                    refine g_icmp_ge (tgt := 305) C std_M_findPlans_223 (by decide) ⟨by omega, by omega⟩ ⟨by omega, by omega⟩ (fun c42 => ?_) (fun c42 => ?_)
                    · refine g_goto (tgt := 36) C std_M_findPlans_305 (by decide) ?_
                      refine g_lv (lv' := [(0, .ref m0)]) [6] rfl ?_
                      exact ih36 (pp + 1) (mm - 1) 0 (uZ BT q (BT (mm - 1))) (uZ BC q (BC (mm - 1))) (uZ BR q (BR (mm - 1))) (uZ PC pp (BC q)) (uZ PW pp (BR q)) (by omega) (hN) (ft_fin kt (x := q) ⟨by omega, by omega⟩ (by omega) (fun i h1 h2 => (eb_b kT kn12 kFB (hN.1 i h1 h2)).1.1)) (by omega)
                    · refine g_iload C 1 std_M_findPlans_226 rfl ?_
                      refine g_aload_n C 6 std_M_findPlans_228 rfl ?_
                      refine g_get C (st_sub sti_M) 0 rfl rfl 1 (by decide) (List.mem_cons_of_mem _ kw_3_67) rfl rfl std_M_findPlans_229 ?_
                      refine g_icmp_ge (tgt := 305) C std_M_findPlans_232 (by decide) ⟨by omega, by omega⟩ ⟨by omega, by omega⟩ (fun c43 => ?_) (fun c43 => ?_)
                      · refine g_goto (tgt := 36) C std_M_findPlans_305 (by decide) ?_
                        refine g_lv (lv' := [(0, .ref m0)]) [6] rfl ?_
                        exact ih36 (pp + 1) (mm - 1) 0 (uZ BT q (BT (mm - 1))) (uZ BC q (BC (mm - 1))) (uZ BR q (BR (mm - 1))) (uZ PC pp (BC q)) (uZ PW pp (BR q)) (by omega) (hN) (ft_fin kt (x := q) ⟨by omega, by omega⟩ (by omega) (fun i h1 h2 => (eb_b kT kn12 kFB (hN.1 i h1 h2)).1.1)) (by omega)
                      · exfalso; omega
                · have hbx := eb_b kT kn12 kFB (kF.1 x (by omega) (by omega))
                  have hbq := eb_b kT kn12 kFB (kF.1 q (by omega) (by omega))
                  refine g_aload_n C 2 std_M_findPlans_64 rfl ?_
                  refine g_iload_n C 0 std_M_findPlans_65 rfl ?_
                  refine g_iload_n C 1 std_M_findPlans_66 rfl ?_
                  refine g_V_i (wc := [(m0, .inr (5, [.int (iI 0), .int (iI ((n : Nat) : Int)), .ref k_ch, .ref k_co, .ref k_ua, .ref k_ub, .ref k_ba, .int (iI (fle 0)), .int (iI (fle 1)), .int (iI (fmo 0)), .int (iI (fmo 1)), .int (iI (bI HM)), .ref k_rt, .ref k_rf, .ref k_ct, .ref k_cf, .ref k_nd, .ref k_na, .ref k_no, .ref k_bt, .ref k_bc, .ref k_br, .int (iI mm), .int (iI pp), .ref k_pc, .ref k_pr, .ref k_la, .ref k_lb, .ref k_ha, .ref k_hb, .ref k_ls, .ref k_wc, .int (iI wd), .int (iI mg), .int (iI mw), .int (iI mc)])), (k_bt, .inl (cI, aI 3000 BT)), (k_bc, .inl (cI, aI 3000 BC)), (k_br, .inl (cJ, aL 3000 BR)), (k_cf, .inl (cI, aI 152971 gcf))]) (wr := [(k_ch, .inl (cI, aI 13 fsz)), (k_co, .inl (cI, aI 78 fco)), (k_ba, .inl (cZ, aI 468 fba)), (k_ua, .inl (cI, aI 78 ffu)), (k_ub, .inl (cI, aI 78 fsu)), (k_rf, .inl (cJ, aL 152971 grf)), (k_pc, .inl (cI, aI 20 PC)), (k_pr, .inl (cJ, aL 20 PW))]) (rest := []) C (c_m_isAhead l dC dI cI cJ cZ m0 k_ch k_co k_ua k_ub k_ba k_rt k_rf k_ct k_cf k_nd k_na k_no k_bt k_bc k_br k_pc k_pr k_la k_lb k_ha k_hb k_ls k_wc HM mm pp wd mg mw mc ((n : Nat) : Int) fle fmo BT BC BR gcf x q (⟨⟨by omega, by omega⟩, hbx⟩) (⟨⟨by omega, by omega⟩, hbq⟩)) (st_cV C kw_4_10 kw_4_7 kw_1_6 kw_4_9 kw_0_25 sth_M_isAhead ⟨Nat.le_of_ble_eq_true rfl, Nat.le_of_ble_eq_true rfl⟩) 0 rfl rfl rfl rfl (Nat.le_of_ble_eq_true rfl) std_M_findPlans_67 ⟨Nat.le_of_ble_eq_true rfl, Nat.le_of_ble_eq_true rfl⟩ [0, 8, 9, 10, 7] [1, 2, 3, 4, 5, 6, 11, 12] rfl rfl rfl rfl (by decide) (fun r44 u45 h46 => ?_)
                  subst h46
                  refine g_ws (ws' := [(k_ch, .inl (cI, aI 13 fsz)), (k_co, .inl (cI, aI 78 fco)), (k_ba, .inl (cZ, aI 468 fba)), (k_ua, .inl (cI, aI 78 ffu)), (k_ub, .inl (cI, aI 78 fsu)), (k_rf, .inl (cJ, aL 152971 grf)), (k_pc, .inl (cI, aI 20 PC)), (k_pr, .inl (cJ, aL 20 PW)), (m0, .inr (5, [.int (iI 0), .int (iI ((n : Nat) : Int)), .ref k_ch, .ref k_co, .ref k_ua, .ref k_ub, .ref k_ba, .int (iI (fle 0)), .int (iI (fle 1)), .int (iI (fmo 0)), .int (iI (fmo 1)), .int (iI (bI HM)), .ref k_rt, .ref k_rf, .ref k_ct, .ref k_cf, .ref k_nd, .ref k_na, .ref k_no, .ref k_bt, .ref k_bc, .ref k_br, .int (iI mm), .int (iI pp), .ref k_pc, .ref k_pr, .ref k_la, .ref k_lb, .ref k_ha, .ref k_hb, .ref k_ls, .ref k_wc, .int (iI wd), .int (iI mg), .int (iI mw), .int (iI mc)])), (k_bt, .inl (cI, aI 3000 BT)), (k_bc, .inl (cI, aI 3000 BC)), (k_br, .inl (cJ, aL 3000 BR)), (k_cf, .inl (cI, aI 152971 gcf))]) rfl ?_
                  refine g_ifeq_b (tgt := 77) C std_M_findPlans_70 (by decide) (fun c47 => ?_) (fun c47 => ?_)
                  · refine g_iload_n C 1 std_M_findPlans_77 rfl ?_
                    refine g_istore_n C (lv' := [(2, .int (iI q)), (3, .int (iI x)), (0, .ref m0)]) std_M_findPlans_78 (by decide) rfl ?_
                    refine g_iinc C (lv' := [(3, .int (iI (x + 1))), (2, .int (iI q)), (0, .ref m0)]) 1 std_M_findPlans_79 rfl (by decide) rfl ?_
                    refine g_goto (tgt := 56) C std_M_findPlans_82 (by decide) ?_
                    refine g_sub (ws' := [(m0, .inr (5, [.int (iI 0), .int (iI ((n : Nat) : Int)), .ref k_ch, .ref k_co, .ref k_ua, .ref k_ub, .ref k_ba, .int (iI (fle 0)), .int (iI (fle 1)), .int (iI (fmo 0)), .int (iI (fmo 1)), .int (iI (bI HM)), .ref k_rt, .ref k_rf, .ref k_ct, .ref k_cf, .ref k_nd, .ref k_na, .ref k_no, .ref k_bt, .ref k_bc, .ref k_br, .int (iI mm), .int (iI pp), .ref k_pc, .ref k_pr, .ref k_la, .ref k_lb, .ref k_ha, .ref k_hb, .ref k_ls, .ref k_wc, .int (iI wd), .int (iI mg), .int (iI mw), .int (iI mc)])), (k_ch, .inl (cI, aI 13 fsz)), (k_co, .inl (cI, aI 78 fco)), (k_ba, .inl (cZ, aI 468 fba)), (k_ua, .inl (cI, aI 78 ffu)), (k_ub, .inl (cI, aI 78 fsu)), (k_rf, .inl (cJ, aL 152971 grf)), (k_cf, .inl (cI, aI 152971 gcf)), (k_bt, .inl (cI, aI 3000 BT)), (k_bc, .inl (cI, aI 3000 BC)), (k_br, .inl (cJ, aL 3000 BR)), (k_pc, .inl (cI, aI 20 PC)), (k_pr, .inl (cJ, aL 20 PW))]) [8, 0, 1, 2, 3, 4, 5, 12, 9, 10, 11, 6, 7] rfl rfl ?_
                    refine g_wide (k := 0) (n := 0) (Nat.le_of_ble_eq_true rfl) (Nat.le_of_ble_eq_true rfl) ?_
                    exact ih56 (x + 1) q (by omega) (by omega) (mn_n (f := fun i => cde gcf (BT i) (BC i) (BR i)) kI c47) (by omega)
                  · refine g_iload_n C 0 std_M_findPlans_73 rfl ?_
                    refine g_goto (tgt := 78) C std_M_findPlans_74 (by decide) ?_
                    refine g_istore_n C (lv' := [(2, .int (iI x)), (3, .int (iI x)), (0, .ref m0)]) std_M_findPlans_78 (by decide) rfl ?_
                    refine g_iinc C (lv' := [(3, .int (iI (x + 1))), (2, .int (iI x)), (0, .ref m0)]) 1 std_M_findPlans_79 rfl (by decide) rfl ?_
                    refine g_goto (tgt := 56) C std_M_findPlans_82 (by decide) ?_
                    refine g_sub (ws' := [(m0, .inr (5, [.int (iI 0), .int (iI ((n : Nat) : Int)), .ref k_ch, .ref k_co, .ref k_ua, .ref k_ub, .ref k_ba, .int (iI (fle 0)), .int (iI (fle 1)), .int (iI (fmo 0)), .int (iI (fmo 1)), .int (iI (bI HM)), .ref k_rt, .ref k_rf, .ref k_ct, .ref k_cf, .ref k_nd, .ref k_na, .ref k_no, .ref k_bt, .ref k_bc, .ref k_br, .int (iI mm), .int (iI pp), .ref k_pc, .ref k_pr, .ref k_la, .ref k_lb, .ref k_ha, .ref k_hb, .ref k_ls, .ref k_wc, .int (iI wd), .int (iI mg), .int (iI mw), .int (iI mc)])), (k_ch, .inl (cI, aI 13 fsz)), (k_co, .inl (cI, aI 78 fco)), (k_ba, .inl (cZ, aI 468 fba)), (k_ua, .inl (cI, aI 78 ffu)), (k_ub, .inl (cI, aI 78 fsu)), (k_rf, .inl (cJ, aL 152971 grf)), (k_cf, .inl (cI, aI 152971 gcf)), (k_bt, .inl (cI, aI 3000 BT)), (k_bc, .inl (cI, aI 3000 BC)), (k_br, .inl (cJ, aL 3000 BR)), (k_pc, .inl (cI, aI 20 PC)), (k_pr, .inl (cJ, aL 20 PW))]) [8, 0, 1, 2, 3, 4, 5, 12, 9, 10, 11, 6, 7] rfl rfl ?_
                    refine g_wide (k := 0) (n := 0) (Nat.le_of_ble_eq_true rfl) (Nat.le_of_ble_eq_true rfl) ?_
                    exact ih56 (x + 1) x (by omega) (by omega) (mn_y (f := fun i => cde gcf (BT i) (BC i) (BR i)) kI c47) (by omega)
            obtain ⟨nn0, hnn0⟩ : ∃ nn0 : Nat, (mm - 1) < (nn0 : Int) := z_nat _
            exact L56 nn0 1 0 (by omega) (by omega) (mn_0 (f := fun i => cde gcf (BT i) (BC i) (BR i))) hnn0
    refine g_sub (ws' := [(m0, .inr (5, [.int (iI 0), .int (iI ((n : Nat) : Int)), .ref k_ch, .ref k_co, .ref k_ua, .ref k_ub, .ref k_ba, .int (iI (fle 0)), .int (iI (fle 1)), .int (iI (fmo 0)), .int (iI (fmo 1)), .int (iI (bI HM)), .ref k_rt, .ref k_rf, .ref k_ct, .ref k_cf, .ref k_nd, .ref k_na, .ref k_no, .ref k_bt, .ref k_bc, .ref k_br, .int (iI (0 + 1)), .int (iI 0), .ref k_pc, .ref k_pr, .ref k_la, .ref k_lb, .ref k_ha, .ref k_hb, .ref k_ls, .ref k_wc, .int (iI wd), .int (iI mg), .int (iI mw), .int (iI mc)])), (k_ch, .inl (cI, aI 13 fsz)), (k_co, .inl (cI, aI 78 fco)), (k_ba, .inl (cZ, aI 468 fba)), (k_ua, .inl (cI, aI 78 ffu)), (k_ub, .inl (cI, aI 78 fsu)), (k_rf, .inl (cJ, aL 152971 grf)), (k_cf, .inl (cI, aI 152971 gcf)), (k_bt, .inl (cI, aI 3000 (uZ gbt 0 0))), (k_bc, .inl (cI, aI 3000 (uZ gbc 0 0))), (k_br, .inl (cJ, aL 3000 (uZ gbr 0 0))), (k_pc, .inl (cI, aI 20 gpc)), (k_pr, .inl (cJ, aL 20 gpr))]) [9, 0, 1, 2, 3, 4, 5, 6, 10, 11, 12, 7, 8] rfl rfl ?_
    refine g_lv (lv' := [(0, .ref m0)]) [1] rfl ?_
    refine g_wide (k := 0) (n := 0) (Nat.le_of_ble_eq_true rfl) (Nat.le_of_ble_eq_true rfl) ?_
    obtain ⟨nn0, hnn0⟩ : ∃ nn0 : Nat, (13 * (21 - 0) - 0) < (nn0 : Int) := z_nat _
    exact L36 nn0 0 (0 + 1) 0 (uZ gbt 0 0) (uZ gbc 0 0) (uZ gbr 0 0) gpc gpr (by omega) (fr_1 kT kn12 (by omega) rfl) (ft_1 rfl) hnn0

