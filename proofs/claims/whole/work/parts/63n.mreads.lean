/-! the model: what is asked -/
abbrev sty_M_best : MethodName := ⟨"StateTablesModel", "best", "()I"⟩
abbrev stc_M_best : ByteArray := prog_7_method_22_code
theorem sth_M_best : (sty_M_best).cls ≠ "java/lang/invoke/MethodHandle" ∧ (sty_M_best).cls ≠ "java/lang/invoke/VarHandle" ∧ (parseMethodDescriptor (sty_M_best).desc).map (fun d => d.parameters.length) = some 0 := by decide +kernel
theorem std_M_best_0 : decode stc_M_best 0 = .ok (.aload_n 0, 1) := by decide +kernel
theorem std_M_best_1 : decode stc_M_best 1 = .ok (.iconst 0, 1) := by decide +kernel
theorem std_M_best_2 : decode stc_M_best 2 = .ok (.putfield 1, 3) := by decide +kernel
theorem std_M_best_5 : decode stc_M_best 5 = .ok (.aload_n 0, 1) := by decide +kernel
theorem std_M_best_6 : decode stc_M_best 6 = .ok (.getfield 96, 3) := by decide +kernel
theorem std_M_best_9 : decode stc_M_best 9 = .ok (.ifCond .ne 8, 3) := by decide +kernel
theorem std_M_best_17 : decode stc_M_best 17 = .ok (.aload_n 0, 1) := by decide +kernel
theorem std_M_best_18 : decode stc_M_best 18 = .ok (.getfield 152, 3) := by decide +kernel
theorem std_M_best_21 : decode stc_M_best 21 = .ok (.ifCond .ne 8, 3) := by decide +kernel
theorem std_M_best_29 : decode stc_M_best 29 = .ok (.aload_n 0, 1) := by decide +kernel
theorem std_M_best_30 : decode stc_M_best 30 = .ok (.getfield 68, 3) := by decide +kernel
theorem std_M_best_33 : decode stc_M_best 33 = .ok (.iconst 0, 1) := by decide +kernel
theorem std_M_best_34 : decode stc_M_best 34 = .ok (.iaload, 1) := by decide +kernel
theorem std_M_best_35 : decode stc_M_best 35 = .ok (.ireturn, 1) := by decide +kernel
theorem std_M_best_24 : decode stc_M_best 24 = .ok (.ldc 129, 2) := by decide +kernel
theorem std_M_best_26 : decode stc_M_best 26 = .ok (.goto 9, 3) := by decide +kernel
theorem std_M_best_12 : decode stc_M_best 12 = .ok (.ldc 162, 2) := by decide +kernel
theorem kw_4_15 : Cond.constant "StateTablesModel" 162 (-4000000) ∈ stGW := st_t4 (List.mem_of_getElem? (i := 15) (by decide +kernel)) (by decide +kernel)
theorem std_M_best_14 : decode stc_M_best 14 = .ok (.goto 21, 3) := by decide +kernel
set_option maxHeartbeats 4000000 in
set_option maxRecDepth 100000 in
theorem c_m_best (l : Launch) (dC : Nat → ClassId) (dI : Nat → Nat → Nat) (cI cJ cZ : ClassId) (m0 : Nat) (k_ch : Nat) (k_co : Nat) (k_ua : Nat) (k_ub : Nat) (k_ba : Nat) (k_rt : Nat) (k_rf : Nat) (k_ct : Nat) (k_cf : Nat) (k_nd : Nat) (k_na : Nat) (k_no : Nat) (k_bt : Nat) (k_bc : Nat) (k_br : Nat) (k_pc : Nat) (k_pr : Nat) (k_la : Nat) (k_lb : Nat) (k_ha : Nat) (k_hb : Nat) (k_ls : Nat) (k_wc : Nat) (HM : Prop) (bg : Int) (pn : Int) (wd : Int) (mg : Int) (mw : Int) (mc : Int) (steps : Int) (fle : Int → Int) (fmo : Int → Int) (gpc : Int → Int) (kpn : HM → 0 ≤ pn ∧ pn ≤ 20) : ∀ sz, Met l sty_M_best (Cond.code sty_M_best stc_M_best 1 (some .int) :: stGW) ({ frames := 0, cells := 0, slots := 0, locals := 0 } : Room) (va_Pc [.ref m0] (zPre (dC, dI) stCl [(cI, .int), (cJ, .long), (cZ, .boolean)] st_nw [(m0, .inr (5, [.int (iI 0), .int (iI steps), .ref k_ch, .ref k_co, .ref k_ua, .ref k_ub, .ref k_ba, .int (iI (fle 0)), .int (iI (fle 1)), .int (iI (fmo 0)), .int (iI (fmo 1)), .int (iI (bI HM)), .ref k_rt, .ref k_rf, .ref k_ct, .ref k_cf, .ref k_nd, .ref k_na, .ref k_no, .ref k_bt, .ref k_bc, .ref k_br, .int (iI bg), .int (iI pn), .ref k_pc, .ref k_pr, .ref k_la, .ref k_lb, .ref k_ha, .ref k_hb, .ref k_ls, .ref k_wc, .int (iI wd), .int (iI mg), .int (iI mw), .int (iI mc)])), (k_pc, .inl (cI, aI 20 gpc))] sz)) (va_Qi (fun (r : Int32) (_ : Unit) => r = iI (sel HM (sel (pn = 0) (-1000000) (gpc 0)) (-4000000))) (zPost (dC, dI) stCl [(cI, .int), (cJ, .long), (cZ, .boolean)] [(m0, .inr (5, [.int (iI 0), .int (iI steps), .ref k_ch, .ref k_co, .ref k_ua, .ref k_ub, .ref k_ba, .int (iI (fle 0)), .int (iI (fle 1)), .int (iI (fmo 0)), .int (iI (fmo 1)), .int (iI (bI HM)), .ref k_rt, .ref k_rf, .ref k_ct, .ref k_cf, .ref k_nd, .ref k_na, .ref k_no, .ref k_bt, .ref k_bc, .ref k_br, .int (iI bg), .int (iI pn), .ref k_pc, .ref k_pr, .ref k_la, .ref k_lb, .ref k_ha, .ref k_hb, .ref k_ls, .ref k_wc, .int (iI wd), .int (iI mg), .int (iI mw), .int (iI mc)])), (k_pc, .inl (cI, aI 20 gpc))] sz (fun _ : Unit => [(m0, .inr (5, [.int (iI 0), .int (iI steps), .ref k_ch, .ref k_co, .ref k_ua, .ref k_ub, .ref k_ba, .int (iI (fle 0)), .int (iI (fle 1)), .int (iI (fmo 0)), .int (iI (fmo 1)), .int (iI (bI HM)), .ref k_rt, .ref k_rf, .ref k_ct, .ref k_cf, .ref k_nd, .ref k_na, .ref k_no, .ref k_bt, .ref k_bc, .ref k_br, .int (iI bg), .int (iI pn), .ref k_pc, .ref k_pr, .ref k_la, .ref k_lb, .ref k_ha, .ref k_hb, .ref k_ls, .ref k_wc, .int (iI wd), .int (iI mg), .int (iI mw), .int (iI mc)])), (k_pc, .inl (cI, aI 20 gpc))])) (va_A [(m0, .inr (5, [.int (iI 0), .int (iI steps), .ref k_ch, .ref k_co, .ref k_ua, .ref k_ub, .ref k_ba, .int (iI (fle 0)), .int (iI (fle 1)), .int (iI (fmo 0)), .int (iI (fmo 1)), .int (iI (bI HM)), .ref k_rt, .ref k_rf, .ref k_ct, .ref k_cf, .ref k_nd, .ref k_na, .ref k_no, .ref k_bt, .ref k_bc, .ref k_br, .int (iI bg), .int (iI pn), .ref k_pc, .ref k_pr, .ref k_la, .ref k_lb, .ref k_ha, .ref k_hb, .ref k_ls, .ref k_wc, .int (iI wd), .int (iI mg), .int (iI mw), .int (iI mc)])), (k_pc, .inl (cI, aI 20 gpc))] sz)) 0 0 (va_A [(m0, .inr (5, [.int (iI 0), .int (iI steps), .ref k_ch, .ref k_co, .ref k_ua, .ref k_ub, .ref k_ba, .int (iI (fle 0)), .int (iI (fle 1)), .int (iI (fmo 0)), .int (iI (fmo 1)), .int (iI (bI HM)), .ref k_rt, .ref k_rf, .ref k_ct, .ref k_cf, .ref k_nd, .ref k_na, .ref k_no, .ref k_bt, .ref k_bc, .ref k_br, .int (iI bg), .int (iI pn), .ref k_pc, .ref k_pr, .ref k_la, .ref k_lb, .ref k_ha, .ref k_hb, .ref k_ls, .ref k_wc, .int (iI wd), .int (iI mg), .int (iI mw), .int (iI mc)])), (k_pc, .inl (cI, aI 20 gpc))] sz) := by
  refine met_i (by decide) rfl (Nat.le_of_ble_eq_true rfl) ?_
  intro p e s m below meth c A Q C hmn hret
  refine g_aload_n C 0 std_M_best_0 rfl ?_
  refine g_iconst C std_M_best_1 ?_
  refine g_put C (ws' := [(m0, .inr (5, [.int (iI 0), .int (iI steps), .ref k_ch, .ref k_co, .ref k_ua, .ref k_ub, .ref k_ba, .int (iI (fle 0)), .int (iI (fle 1)), .int (iI (fmo 0)), .int (iI (fmo 1)), .int (iI (bI HM)), .ref k_rt, .ref k_rf, .ref k_ct, .ref k_cf, .ref k_nd, .ref k_na, .ref k_no, .ref k_bt, .ref k_bc, .ref k_br, .int (iI bg), .int (iI pn), .ref k_pc, .ref k_pr, .ref k_la, .ref k_lb, .ref k_ha, .ref k_hb, .ref k_ls, .ref k_wc, .int (iI wd), .int (iI mg), .int (iI mw), .int (iI mc)])), (k_pc, .inl (cI, aI 20 gpc))]) (st_sub sti_M) stt_M sto_M stn_M 0 rfl rfl 0 (by decide) (List.mem_cons_of_mem _ kw_3_66) rfl rfl rfl rfl (Nat.le_of_ble_eq_true rfl) std_M_best_2 rfl ?_
  refine g_aload_n C 0 std_M_best_5 rfl ?_
  refine g_get C (st_sub sti_M) 0 rfl rfl 11 (by decide) (List.mem_cons_of_mem _ kw_3_77) rfl rfl std_M_best_6 ?_
  refine g_ifne_b (tgt := 17) C std_M_best_9 (by decide) (fun c1 => ?_) (fun c1 => ?_)
  · have hpn := kpn c1
    refine g_aload_n C 0 std_M_best_17 rfl ?_
    refine g_get C (st_sub sti_M) 0 rfl rfl 23 (by decide) (List.mem_cons_of_mem _ kw_3_89) rfl rfl std_M_best_18 ?_
    refine g_if_ne (tgt := 29) C std_M_best_21 (by decide) ⟨by omega, by omega⟩ (fun c2 => ?_) (fun c2 => ?_)
    · refine g_aload_n C 0 std_M_best_29 rfl ?_
      refine g_get C (st_sub sti_M) 0 rfl rfl 24 (by decide) (List.mem_cons_of_mem _ kw_3_90) rfl rfl std_M_best_30 ?_
      refine g_iconst C std_M_best_33 ?_
      refine g_iald C 1 0 rfl rfl (by omega) (by omega) (by omega) std_M_best_34 ?_
      exact hret _ _ _ () (by rw [sel_t c1, sel_f (by omega)]) std_M_best_35
    · refine g_ldc C (z := (-1000000)) (List.mem_cons_of_mem _ kw_3_234) (by decide) std_M_best_24 ?_
      refine g_goto (tgt := 35) C std_M_best_26 (by decide) ?_
      exact hret _ _ _ () (by rw [sel_t c1, sel_t (by omega)]) std_M_best_35
  · refine g_ldc C (z := (-4000000)) (List.mem_cons_of_mem _ kw_4_15) (by decide) std_M_best_12 ?_
    refine g_goto (tgt := 35) C std_M_best_14 (by decide) ?_
    exact hret _ _ _ () (by rw [sel_f c1]) std_M_best_35

abbrev sty_M_many : MethodName := ⟨"StateTablesModel", "many", "()J"⟩
abbrev stc_M_many : ByteArray := prog_7_method_23_code
theorem sth_M_many : (sty_M_many).cls ≠ "java/lang/invoke/MethodHandle" ∧ (sty_M_many).cls ≠ "java/lang/invoke/VarHandle" ∧ (parseMethodDescriptor (sty_M_many).desc).map (fun d => d.parameters.length) = some 0 := by decide +kernel
theorem std_M_many_0 : decode stc_M_many 0 = .ok (.aload_n 0, 1) := by decide +kernel
theorem std_M_many_1 : decode stc_M_many 1 = .ok (.iconst 0, 1) := by decide +kernel
theorem std_M_many_2 : decode stc_M_many 2 = .ok (.putfield 1, 3) := by decide +kernel
theorem std_M_many_5 : decode stc_M_many 5 = .ok (.aload_n 0, 1) := by decide +kernel
theorem std_M_many_6 : decode stc_M_many 6 = .ok (.getfield 96, 3) := by decide +kernel
theorem std_M_many_9 : decode stc_M_many 9 = .ok (.ifCond .ne 9, 3) := by decide +kernel
theorem std_M_many_18 : decode stc_M_many 18 = .ok (.aload_n 0, 1) := by decide +kernel
theorem std_M_many_19 : decode stc_M_many 19 = .ok (.getfield 41, 3) := by decide +kernel
theorem std_M_many_22 : decode stc_M_many 22 = .ok (.iconst 0, 1) := by decide +kernel
theorem std_M_many_23 : decode stc_M_many 23 = .ok (.iconst 0, 1) := by decide +kernel
theorem std_M_many_24 : decode stc_M_many 24 = .ok (.iconst 0, 1) := by decide +kernel
theorem std_M_many_25 : decode stc_M_many 25 = .ok (.iconst (-1), 1) := by decide +kernel
theorem std_M_many_26 : decode stc_M_many 26 = .ok (.invokestatic 130, 3) := by decide +kernel
theorem std_M_many_29 : decode stc_M_many 29 = .ok (.laload, 1) := by decide +kernel
theorem std_M_many_30 : decode stc_M_many 30 = .ok (.lreturn, 1) := by decide +kernel
theorem std_M_many_12 : decode stc_M_many 12 = .ok (.ldc2_w 163, 3) := by decide +kernel
theorem kw_4_20 : Cond.constantLong "StateTablesModel" 163 (-4000000) ∈ stGW := st_t4 (List.mem_of_getElem? (i := 20) (by decide +kernel)) (by decide +kernel)
theorem std_M_many_15 : decode stc_M_many 15 = .ok (.goto 15, 3) := by decide +kernel
set_option maxHeartbeats 4000000 in
set_option maxRecDepth 100000 in
theorem c_m_many (l : Launch) (dC : Nat → ClassId) (dI : Nat → Nat → Nat) (cI cJ cZ : ClassId) (m0 : Nat) (k_ch : Nat) (k_co : Nat) (k_ua : Nat) (k_ub : Nat) (k_ba : Nat) (k_rt : Nat) (k_rf : Nat) (k_ct : Nat) (k_cf : Nat) (k_nd : Nat) (k_na : Nat) (k_no : Nat) (k_bt : Nat) (k_bc : Nat) (k_br : Nat) (k_pc : Nat) (k_pr : Nat) (k_la : Nat) (k_lb : Nat) (k_ha : Nat) (k_hb : Nat) (k_ls : Nat) (k_wc : Nat) (HM : Prop) (bg : Int) (pn : Int) (wd : Int) (mg : Int) (mw : Int) (mc : Int) (steps : Int) (fle : Int → Int) (fmo : Int → Int) (grf : Int → Int)  : ∀ sz, Met l sty_M_many (Cond.code sty_M_many stc_M_many 1 (some .long) :: stGW) ({ frames := 1, cells := 0, slots := 0, locals := 23 } : Room) (va_Pc [.ref m0] (zPre (dC, dI) stCl [(cI, .int), (cJ, .long), (cZ, .boolean)] st_nw [(m0, .inr (5, [.int (iI 0), .int (iI steps), .ref k_ch, .ref k_co, .ref k_ua, .ref k_ub, .ref k_ba, .int (iI (fle 0)), .int (iI (fle 1)), .int (iI (fmo 0)), .int (iI (fmo 1)), .int (iI (bI HM)), .ref k_rt, .ref k_rf, .ref k_ct, .ref k_cf, .ref k_nd, .ref k_na, .ref k_no, .ref k_bt, .ref k_bc, .ref k_br, .int (iI bg), .int (iI pn), .ref k_pc, .ref k_pr, .ref k_la, .ref k_lb, .ref k_ha, .ref k_hb, .ref k_ls, .ref k_wc, .int (iI wd), .int (iI mg), .int (iI mw), .int (iI mc)])), (k_rf, .inl (cJ, aL 152971 grf))] sz)) (va_Ql (fun (r : Int64) (_ : Unit) => r = lI (sel HM (grf 0) (-4000000))) (zPost (dC, dI) stCl [(cI, .int), (cJ, .long), (cZ, .boolean)] [(m0, .inr (5, [.int (iI 0), .int (iI steps), .ref k_ch, .ref k_co, .ref k_ua, .ref k_ub, .ref k_ba, .int (iI (fle 0)), .int (iI (fle 1)), .int (iI (fmo 0)), .int (iI (fmo 1)), .int (iI (bI HM)), .ref k_rt, .ref k_rf, .ref k_ct, .ref k_cf, .ref k_nd, .ref k_na, .ref k_no, .ref k_bt, .ref k_bc, .ref k_br, .int (iI bg), .int (iI pn), .ref k_pc, .ref k_pr, .ref k_la, .ref k_lb, .ref k_ha, .ref k_hb, .ref k_ls, .ref k_wc, .int (iI wd), .int (iI mg), .int (iI mw), .int (iI mc)])), (k_rf, .inl (cJ, aL 152971 grf))] sz (fun _ : Unit => [(m0, .inr (5, [.int (iI 0), .int (iI steps), .ref k_ch, .ref k_co, .ref k_ua, .ref k_ub, .ref k_ba, .int (iI (fle 0)), .int (iI (fle 1)), .int (iI (fmo 0)), .int (iI (fmo 1)), .int (iI (bI HM)), .ref k_rt, .ref k_rf, .ref k_ct, .ref k_cf, .ref k_nd, .ref k_na, .ref k_no, .ref k_bt, .ref k_bc, .ref k_br, .int (iI bg), .int (iI pn), .ref k_pc, .ref k_pr, .ref k_la, .ref k_lb, .ref k_ha, .ref k_hb, .ref k_ls, .ref k_wc, .int (iI wd), .int (iI mg), .int (iI mw), .int (iI mc)])), (k_rf, .inl (cJ, aL 152971 grf))])) (va_A [(m0, .inr (5, [.int (iI 0), .int (iI steps), .ref k_ch, .ref k_co, .ref k_ua, .ref k_ub, .ref k_ba, .int (iI (fle 0)), .int (iI (fle 1)), .int (iI (fmo 0)), .int (iI (fmo 1)), .int (iI (bI HM)), .ref k_rt, .ref k_rf, .ref k_ct, .ref k_cf, .ref k_nd, .ref k_na, .ref k_no, .ref k_bt, .ref k_bc, .ref k_br, .int (iI bg), .int (iI pn), .ref k_pc, .ref k_pr, .ref k_la, .ref k_lb, .ref k_ha, .ref k_hb, .ref k_ls, .ref k_wc, .int (iI wd), .int (iI mg), .int (iI mw), .int (iI mc)])), (k_rf, .inl (cJ, aL 152971 grf))] sz)) 0 0 (va_A [(m0, .inr (5, [.int (iI 0), .int (iI steps), .ref k_ch, .ref k_co, .ref k_ua, .ref k_ub, .ref k_ba, .int (iI (fle 0)), .int (iI (fle 1)), .int (iI (fmo 0)), .int (iI (fmo 1)), .int (iI (bI HM)), .ref k_rt, .ref k_rf, .ref k_ct, .ref k_cf, .ref k_nd, .ref k_na, .ref k_no, .ref k_bt, .ref k_bc, .ref k_br, .int (iI bg), .int (iI pn), .ref k_pc, .ref k_pr, .ref k_la, .ref k_lb, .ref k_ha, .ref k_hb, .ref k_ls, .ref k_wc, .int (iI wd), .int (iI mg), .int (iI mw), .int (iI mc)])), (k_rf, .inl (cJ, aL 152971 grf))] sz) := by
  refine met_l (by decide) rfl (Nat.le_of_ble_eq_true rfl) ?_
  intro p e s m below meth c A Q C hmn hret
  refine g_aload_n C 0 std_M_many_0 rfl ?_
  refine g_iconst C std_M_many_1 ?_
  refine g_put C (ws' := [(m0, .inr (5, [.int (iI 0), .int (iI steps), .ref k_ch, .ref k_co, .ref k_ua, .ref k_ub, .ref k_ba, .int (iI (fle 0)), .int (iI (fle 1)), .int (iI (fmo 0)), .int (iI (fmo 1)), .int (iI (bI HM)), .ref k_rt, .ref k_rf, .ref k_ct, .ref k_cf, .ref k_nd, .ref k_na, .ref k_no, .ref k_bt, .ref k_bc, .ref k_br, .int (iI bg), .int (iI pn), .ref k_pc, .ref k_pr, .ref k_la, .ref k_lb, .ref k_ha, .ref k_hb, .ref k_ls, .ref k_wc, .int (iI wd), .int (iI mg), .int (iI mw), .int (iI mc)])), (k_rf, .inl (cJ, aL 152971 grf))]) (st_sub sti_M) stt_M sto_M stn_M 0 rfl rfl 0 (by decide) (List.mem_cons_of_mem _ kw_3_66) rfl rfl rfl rfl (Nat.le_of_ble_eq_true rfl) std_M_many_2 rfl ?_
  refine g_aload_n C 0 std_M_many_5 rfl ?_
  refine g_get C (st_sub sti_M) 0 rfl rfl 11 (by decide) (List.mem_cons_of_mem _ kw_3_77) rfl rfl std_M_many_6 ?_
  refine g_ifne_b (tgt := 18) C std_M_many_9 (by decide) (fun c1 => ?_) (fun c1 => ?_)
  · refine g_aload_n C 0 std_M_many_18 rfl ?_
    refine g_get C (st_sub sti_M) 0 rfl rfl 13 (by decide) (List.mem_cons_of_mem _ kw_3_79) rfl rfl std_M_many_19 ?_
    refine g_iconst C std_M_many_22 ?_
    refine g_iconst C std_M_many_23 ?_
    refine g_iconst C std_M_many_24 ?_
    refine g_iconst C std_M_many_25 ?_
    refine g_S_i (wc := []) (wr := [(m0, .inr (5, [.int (iI 0), .int (iI steps), .ref k_ch, .ref k_co, .ref k_ua, .ref k_ub, .ref k_ba, .int (iI (fle 0)), .int (iI (fle 1)), .int (iI (fmo 0)), .int (iI (fmo 1)), .int (iI (bI HM)), .ref k_rt, .ref k_rf, .ref k_ct, .ref k_cf, .ref k_nd, .ref k_na, .ref k_no, .ref k_bt, .ref k_bc, .ref k_br, .int (iI bg), .int (iI pn), .ref k_pc, .ref k_pr, .ref k_la, .ref k_lb, .ref k_ha, .ref k_hb, .ref k_ls, .ref k_wc, .int (iI wd), .int (iI mg), .int (iI mw), .int (iI mc)])), (k_rf, .inl (cJ, aL 152971 grf))]) (rest := [.ref k_rf]) C (c_m_place l dC dI cI cJ cZ 0 0 0 (-1) ) (st_cS C kw_3_216 kw_3_214 kw_1_6 kw_3_215 sth_M_place ⟨Nat.le_of_ble_eq_true rfl, Nat.le_of_ble_eq_true rfl⟩) rfl rfl (Nat.le_of_ble_eq_true rfl) std_M_many_26 ⟨Nat.le_of_ble_eq_true rfl, Nat.le_of_ble_eq_true rfl⟩ [] [0, 1] rfl rfl rfl rfl (by decide) (fun r2 u3 h4 => ?_)
    subst h4
    refine g_ws (ws' := [(m0, .inr (5, [.int (iI 0), .int (iI steps), .ref k_ch, .ref k_co, .ref k_ua, .ref k_ub, .ref k_ba, .int (iI (fle 0)), .int (iI (fle 1)), .int (iI (fmo 0)), .int (iI (fmo 1)), .int (iI (bI HM)), .ref k_rt, .ref k_rf, .ref k_ct, .ref k_cf, .ref k_nd, .ref k_na, .ref k_no, .ref k_bt, .ref k_bc, .ref k_br, .int (iI bg), .int (iI pn), .ref k_pc, .ref k_pr, .ref k_la, .ref k_lb, .ref k_ha, .ref k_hb, .ref k_ls, .ref k_wc, .int (iI wd), .int (iI mg), .int (iI mw), .int (iI mc)])), (k_rf, .inl (cJ, aL 152971 grf))]) rfl ?_
    refine g_st (st' := [.int (iI 0), .ref k_rf]) (by rw [show (((((11767 * 0) + (((41 * 0) + 0) * 7)) + (-1)) + 1) : Int) = 0 by omega]) ?_
    refine g_lald C 1 1 rfl rfl (by omega) (by omega) (by omega) std_M_many_29 ?_
    refine g_wide (k := 0) (n := 0) (Nat.le_of_ble_eq_true rfl) (Nat.le_of_ble_eq_true rfl) ?_
    exact hret _ _ _ () (by rw [sel_t c1]) std_M_many_30
  · refine g_ldc2 C (z := (-4000000)) (List.mem_cons_of_mem _ kw_4_20) (by decide) std_M_many_12 ?_
    refine g_goto (tgt := 30) C std_M_many_15 (by decide) ?_
    exact hret _ _ _ () (by rw [sel_f c1]) std_M_many_30

abbrev sty_M_plans : MethodName := ⟨"StateTablesModel", "plans", "()I"⟩
abbrev stc_M_plans : ByteArray := prog_7_method_24_code
theorem sth_M_plans : (sty_M_plans).cls ≠ "java/lang/invoke/MethodHandle" ∧ (sty_M_plans).cls ≠ "java/lang/invoke/VarHandle" ∧ (parseMethodDescriptor (sty_M_plans).desc).map (fun d => d.parameters.length) = some 0 := by decide +kernel
theorem std_M_plans_0 : decode stc_M_plans 0 = .ok (.aload_n 0, 1) := by decide +kernel
theorem std_M_plans_1 : decode stc_M_plans 1 = .ok (.iconst 0, 1) := by decide +kernel
theorem std_M_plans_2 : decode stc_M_plans 2 = .ok (.putfield 1, 3) := by decide +kernel
theorem std_M_plans_5 : decode stc_M_plans 5 = .ok (.aload_n 0, 1) := by decide +kernel
theorem std_M_plans_6 : decode stc_M_plans 6 = .ok (.getfield 96, 3) := by decide +kernel
theorem std_M_plans_9 : decode stc_M_plans 9 = .ok (.ifCond .ne 8, 3) := by decide +kernel
theorem std_M_plans_17 : decode stc_M_plans 17 = .ok (.aload_n 0, 1) := by decide +kernel
theorem std_M_plans_18 : decode stc_M_plans 18 = .ok (.getfield 152, 3) := by decide +kernel
theorem std_M_plans_21 : decode stc_M_plans 21 = .ok (.ireturn, 1) := by decide +kernel
theorem std_M_plans_12 : decode stc_M_plans 12 = .ok (.ldc 162, 2) := by decide +kernel
theorem std_M_plans_14 : decode stc_M_plans 14 = .ok (.goto 7, 3) := by decide +kernel
set_option maxHeartbeats 4000000 in
set_option maxRecDepth 100000 in
theorem c_m_plans (l : Launch) (dC : Nat → ClassId) (dI : Nat → Nat → Nat) (cI cJ cZ : ClassId) (m0 : Nat) (k_ch : Nat) (k_co : Nat) (k_ua : Nat) (k_ub : Nat) (k_ba : Nat) (k_rt : Nat) (k_rf : Nat) (k_ct : Nat) (k_cf : Nat) (k_nd : Nat) (k_na : Nat) (k_no : Nat) (k_bt : Nat) (k_bc : Nat) (k_br : Nat) (k_pc : Nat) (k_pr : Nat) (k_la : Nat) (k_lb : Nat) (k_ha : Nat) (k_hb : Nat) (k_ls : Nat) (k_wc : Nat) (HM : Prop) (bg : Int) (pn : Int) (wd : Int) (mg : Int) (mw : Int) (mc : Int) (steps : Int) (fle : Int → Int) (fmo : Int → Int)  : ∀ sz, Met l sty_M_plans (Cond.code sty_M_plans stc_M_plans 1 (some .int) :: stGW) ({ frames := 0, cells := 0, slots := 0, locals := 0 } : Room) (va_Pc [.ref m0] (zPre (dC, dI) stCl [(cI, .int), (cJ, .long), (cZ, .boolean)] st_nw [(m0, .inr (5, [.int (iI 0), .int (iI steps), .ref k_ch, .ref k_co, .ref k_ua, .ref k_ub, .ref k_ba, .int (iI (fle 0)), .int (iI (fle 1)), .int (iI (fmo 0)), .int (iI (fmo 1)), .int (iI (bI HM)), .ref k_rt, .ref k_rf, .ref k_ct, .ref k_cf, .ref k_nd, .ref k_na, .ref k_no, .ref k_bt, .ref k_bc, .ref k_br, .int (iI bg), .int (iI pn), .ref k_pc, .ref k_pr, .ref k_la, .ref k_lb, .ref k_ha, .ref k_hb, .ref k_ls, .ref k_wc, .int (iI wd), .int (iI mg), .int (iI mw), .int (iI mc)]))] sz)) (va_Qi (fun (r : Int32) (_ : Unit) => r = iI (sel HM pn (-4000000))) (zPost (dC, dI) stCl [(cI, .int), (cJ, .long), (cZ, .boolean)] [(m0, .inr (5, [.int (iI 0), .int (iI steps), .ref k_ch, .ref k_co, .ref k_ua, .ref k_ub, .ref k_ba, .int (iI (fle 0)), .int (iI (fle 1)), .int (iI (fmo 0)), .int (iI (fmo 1)), .int (iI (bI HM)), .ref k_rt, .ref k_rf, .ref k_ct, .ref k_cf, .ref k_nd, .ref k_na, .ref k_no, .ref k_bt, .ref k_bc, .ref k_br, .int (iI bg), .int (iI pn), .ref k_pc, .ref k_pr, .ref k_la, .ref k_lb, .ref k_ha, .ref k_hb, .ref k_ls, .ref k_wc, .int (iI wd), .int (iI mg), .int (iI mw), .int (iI mc)]))] sz (fun _ : Unit => [(m0, .inr (5, [.int (iI 0), .int (iI steps), .ref k_ch, .ref k_co, .ref k_ua, .ref k_ub, .ref k_ba, .int (iI (fle 0)), .int (iI (fle 1)), .int (iI (fmo 0)), .int (iI (fmo 1)), .int (iI (bI HM)), .ref k_rt, .ref k_rf, .ref k_ct, .ref k_cf, .ref k_nd, .ref k_na, .ref k_no, .ref k_bt, .ref k_bc, .ref k_br, .int (iI bg), .int (iI pn), .ref k_pc, .ref k_pr, .ref k_la, .ref k_lb, .ref k_ha, .ref k_hb, .ref k_ls, .ref k_wc, .int (iI wd), .int (iI mg), .int (iI mw), .int (iI mc)]))])) (va_A [(m0, .inr (5, [.int (iI 0), .int (iI steps), .ref k_ch, .ref k_co, .ref k_ua, .ref k_ub, .ref k_ba, .int (iI (fle 0)), .int (iI (fle 1)), .int (iI (fmo 0)), .int (iI (fmo 1)), .int (iI (bI HM)), .ref k_rt, .ref k_rf, .ref k_ct, .ref k_cf, .ref k_nd, .ref k_na, .ref k_no, .ref k_bt, .ref k_bc, .ref k_br, .int (iI bg), .int (iI pn), .ref k_pc, .ref k_pr, .ref k_la, .ref k_lb, .ref k_ha, .ref k_hb, .ref k_ls, .ref k_wc, .int (iI wd), .int (iI mg), .int (iI mw), .int (iI mc)]))] sz)) 0 0 (va_A [(m0, .inr (5, [.int (iI 0), .int (iI steps), .ref k_ch, .ref k_co, .ref k_ua, .ref k_ub, .ref k_ba, .int (iI (fle 0)), .int (iI (fle 1)), .int (iI (fmo 0)), .int (iI (fmo 1)), .int (iI (bI HM)), .ref k_rt, .ref k_rf, .ref k_ct, .ref k_cf, .ref k_nd, .ref k_na, .ref k_no, .ref k_bt, .ref k_bc, .ref k_br, .int (iI bg), .int (iI pn), .ref k_pc, .ref k_pr, .ref k_la, .ref k_lb, .ref k_ha, .ref k_hb, .ref k_ls, .ref k_wc, .int (iI wd), .int (iI mg), .int (iI mw), .int (iI mc)]))] sz) := by
  refine met_i (by decide) rfl (Nat.le_of_ble_eq_true rfl) ?_
  intro p e s m below meth c A Q C hmn hret
  refine g_aload_n C 0 std_M_plans_0 rfl ?_
  refine g_iconst C std_M_plans_1 ?_
  refine g_put C (ws' := [(m0, .inr (5, [.int (iI 0), .int (iI steps), .ref k_ch, .ref k_co, .ref k_ua, .ref k_ub, .ref k_ba, .int (iI (fle 0)), .int (iI (fle 1)), .int (iI (fmo 0)), .int (iI (fmo 1)), .int (iI (bI HM)), .ref k_rt, .ref k_rf, .ref k_ct, .ref k_cf, .ref k_nd, .ref k_na, .ref k_no, .ref k_bt, .ref k_bc, .ref k_br, .int (iI bg), .int (iI pn), .ref k_pc, .ref k_pr, .ref k_la, .ref k_lb, .ref k_ha, .ref k_hb, .ref k_ls, .ref k_wc, .int (iI wd), .int (iI mg), .int (iI mw), .int (iI mc)]))]) (st_sub sti_M) stt_M sto_M stn_M 0 rfl rfl 0 (by decide) (List.mem_cons_of_mem _ kw_3_66) rfl rfl rfl rfl (Nat.le_of_ble_eq_true rfl) std_M_plans_2 rfl ?_
  refine g_aload_n C 0 std_M_plans_5 rfl ?_
  refine g_get C (st_sub sti_M) 0 rfl rfl 11 (by decide) (List.mem_cons_of_mem _ kw_3_77) rfl rfl std_M_plans_6 ?_
  refine g_ifne_b (tgt := 17) C std_M_plans_9 (by decide) (fun c1 => ?_) (fun c1 => ?_)
  · refine g_aload_n C 0 std_M_plans_17 rfl ?_
    refine g_get C (st_sub sti_M) 0 rfl rfl 23 (by decide) (List.mem_cons_of_mem _ kw_3_89) rfl rfl std_M_plans_18 ?_
    exact hret _ _ _ () (by rw [sel_t c1]) std_M_plans_21
  · refine g_ldc C (z := (-4000000)) (List.mem_cons_of_mem _ kw_4_15) (by decide) std_M_plans_12 ?_
    refine g_goto (tgt := 21) C std_M_plans_14 (by decide) ?_
    exact hret _ _ _ () (by rw [sel_f c1]) std_M_plans_21

abbrev sty_M_plan : MethodName := ⟨"StateTablesModel", "plan", "(II)I"⟩
abbrev stc_M_plan : ByteArray := prog_7_method_25_code
theorem sth_M_plan : (sty_M_plan).cls ≠ "java/lang/invoke/MethodHandle" ∧ (sty_M_plan).cls ≠ "java/lang/invoke/VarHandle" ∧ (parseMethodDescriptor (sty_M_plan).desc).map (fun d => d.parameters.length) = some 2 := by decide +kernel
theorem std_M_plan_0 : decode stc_M_plan 0 = .ok (.aload_n 0, 1) := by decide +kernel
theorem std_M_plan_1 : decode stc_M_plan 1 = .ok (.iconst 0, 1) := by decide +kernel
theorem std_M_plan_2 : decode stc_M_plan 2 = .ok (.putfield 1, 3) := by decide +kernel
theorem std_M_plan_5 : decode stc_M_plan 5 = .ok (.aload_n 0, 1) := by decide +kernel
theorem std_M_plan_6 : decode stc_M_plan 6 = .ok (.getfield 96, 3) := by decide +kernel
theorem std_M_plan_9 : decode stc_M_plan 9 = .ok (.ifCond .ne 6, 3) := by decide +kernel
theorem std_M_plan_15 : decode stc_M_plan 15 = .ok (.iload_n 1, 1) := by decide +kernel
theorem std_M_plan_16 : decode stc_M_plan 16 = .ok (.iconst 0, 1) := by decide +kernel
theorem std_M_plan_17 : decode stc_M_plan 17 = .ok (.aload_n 0, 1) := by decide +kernel
theorem std_M_plan_18 : decode stc_M_plan 18 = .ok (.getfield 152, 3) := by decide +kernel
theorem std_M_plan_21 : decode stc_M_plan 21 = .ok (.iconst 1, 1) := by decide +kernel
theorem std_M_plan_22 : decode stc_M_plan 22 = .ok (.isub, 1) := by decide +kernel
theorem std_M_plan_23 : decode stc_M_plan 23 = .ok (.invokestatic 100, 3) := by decide +kernel
theorem std_M_plan_26 : decode stc_M_plan 26 = .ok (.ifCond .eq 17, 3) := by decide +kernel
theorem std_M_plan_43 : decode stc_M_plan 43 = .ok (.ldc 104, 2) := by decide +kernel
theorem std_M_plan_45 : decode stc_M_plan 45 = .ok (.ireturn, 1) := by decide +kernel
theorem std_M_plan_29 : decode stc_M_plan 29 = .ok (.iload_n 2, 1) := by decide +kernel
theorem std_M_plan_30 : decode stc_M_plan 30 = .ok (.iconst (-1), 1) := by decide +kernel
theorem std_M_plan_31 : decode stc_M_plan 31 = .ok (.aload_n 0, 1) := by decide +kernel
theorem std_M_plan_32 : decode stc_M_plan 32 = .ok (.getfield 92, 3) := by decide +kernel
theorem std_M_plan_35 : decode stc_M_plan 35 = .ok (.iconst 1, 1) := by decide +kernel
theorem std_M_plan_36 : decode stc_M_plan 36 = .ok (.isub, 1) := by decide +kernel
theorem std_M_plan_37 : decode stc_M_plan 37 = .ok (.invokestatic 100, 3) := by decide +kernel
theorem std_M_plan_40 : decode stc_M_plan 40 = .ok (.ifCond .ne 6, 3) := by decide +kernel
theorem std_M_plan_46 : decode stc_M_plan 46 = .ok (.iload_n 2, 1) := by decide +kernel
theorem std_M_plan_47 : decode stc_M_plan 47 = .ok (.ifCond .ge 12, 3) := by decide +kernel
theorem std_M_plan_59 : decode stc_M_plan 59 = .ok (.aload_n 0, 1) := by decide +kernel
theorem std_M_plan_60 : decode stc_M_plan 60 = .ok (.getfield 71, 3) := by decide +kernel
theorem std_M_plan_63 : decode stc_M_plan 63 = .ok (.iload_n 1, 1) := by decide +kernel
theorem std_M_plan_64 : decode stc_M_plan 64 = .ok (.laload, 1) := by decide +kernel
theorem std_M_plan_65 : decode stc_M_plan 65 = .ok (.iconst 3, 1) := by decide +kernel
theorem std_M_plan_66 : decode stc_M_plan 66 = .ok (.bipush 11, 2) := by decide +kernel
theorem std_M_plan_68 : decode stc_M_plan 68 = .ok (.iload_n 2, 1) := by decide +kernel
theorem std_M_plan_69 : decode stc_M_plan 69 = .ok (.isub, 1) := by decide +kernel
theorem std_M_plan_70 : decode stc_M_plan 70 = .ok (.imul, 1) := by decide +kernel
theorem std_M_plan_71 : decode stc_M_plan 71 = .ok (.lshr, 1) := by decide +kernel
theorem std_M_plan_72 : decode stc_M_plan 72 = .ok (.ldc2_w 165, 3) := by decide +kernel
theorem kw_4_29 : Cond.constantLong "StateTablesModel" 165 7 ∈ stGW := st_t4 (List.mem_of_getElem? (i := 29) (by decide +kernel)) (by decide +kernel)
theorem std_M_plan_75 : decode stc_M_plan 75 = .ok (.land, 1) := by decide +kernel
theorem std_M_plan_76 : decode stc_M_plan 76 = .ok (.l2i, 1) := by decide +kernel
theorem std_M_plan_77 : decode stc_M_plan 77 = .ok (.ireturn, 1) := by decide +kernel
theorem std_M_plan_50 : decode stc_M_plan 50 = .ok (.aload_n 0, 1) := by decide +kernel
theorem std_M_plan_51 : decode stc_M_plan 51 = .ok (.getfield 68, 3) := by decide +kernel
theorem std_M_plan_54 : decode stc_M_plan 54 = .ok (.iload_n 1, 1) := by decide +kernel
theorem std_M_plan_55 : decode stc_M_plan 55 = .ok (.iaload, 1) := by decide +kernel
theorem std_M_plan_56 : decode stc_M_plan 56 = .ok (.goto 21, 3) := by decide +kernel
theorem std_M_plan_12 : decode stc_M_plan 12 = .ok (.ldc 162, 2) := by decide +kernel
theorem std_M_plan_14 : decode stc_M_plan 14 = .ok (.ireturn, 1) := by decide +kernel
set_option maxHeartbeats 4000000 in
set_option maxRecDepth 100000 in
theorem c_m_plan (l : Launch) (dC : Nat → ClassId) (dI : Nat → Nat → Nat) (cI cJ cZ : ClassId) (m0 : Nat) (k_ch : Nat) (k_co : Nat) (k_ua : Nat) (k_ub : Nat) (k_ba : Nat) (k_rt : Nat) (k_rf : Nat) (k_ct : Nat) (k_cf : Nat) (k_nd : Nat) (k_na : Nat) (k_no : Nat) (k_bt : Nat) (k_bc : Nat) (k_br : Nat) (k_pc : Nat) (k_pr : Nat) (k_la : Nat) (k_lb : Nat) (k_ha : Nat) (k_hb : Nat) (k_ls : Nat) (k_wc : Nat) (HM : Prop) (bg : Int) (pn : Int) (wd : Int) (mg : Int) (mw : Int) (mc : Int) (steps : Int) (fle : Int → Int) (fmo : Int → Int) (gpc : Int → Int) (gpr : Int → Int) (a : Int) (b : Int) (kst : 0 ≤ steps ∧ steps ≤ 12) (ka : rI a) (kb : rI b) (kpn : HM → (0 ≤ pn ∧ pn ≤ 20) ∧ ∀ i, 0 ≤ i → i < pn → 0 ≤ gpr i ∧ gpr i < 68719476736) : ∀ sz, Met l sty_M_plan (Cond.code sty_M_plan stc_M_plan 3 (some .int) :: stGW) ({ frames := 1, cells := 0, slots := 0, locals := 22 } : Room) (va_Pc [.ref m0, .int (iI a), .int (iI b)] (zPre (dC, dI) stCl [(cI, .int), (cJ, .long), (cZ, .boolean)] st_nw [(m0, .inr (5, [.int (iI 0), .int (iI steps), .ref k_ch, .ref k_co, .ref k_ua, .ref k_ub, .ref k_ba, .int (iI (fle 0)), .int (iI (fle 1)), .int (iI (fmo 0)), .int (iI (fmo 1)), .int (iI (bI HM)), .ref k_rt, .ref k_rf, .ref k_ct, .ref k_cf, .ref k_nd, .ref k_na, .ref k_no, .ref k_bt, .ref k_bc, .ref k_br, .int (iI bg), .int (iI pn), .ref k_pc, .ref k_pr, .ref k_la, .ref k_lb, .ref k_ha, .ref k_hb, .ref k_ls, .ref k_wc, .int (iI wd), .int (iI mg), .int (iI mw), .int (iI mc)])), (k_pc, .inl (cI, aI 20 gpc)), (k_pr, .inl (cJ, aL 20 gpr))] sz)) (va_Qi (fun (r : Int32) (_ : Unit) => r = iI (sel HM (sel ((0 ≤ a ∧ a ≤ pn - 1) ∧ (-1 ≤ b ∧ b ≤ steps - 1)) (sel (b < 0) (gpc a) (((gpr a) / (2 ^ (3 * (11 - b)).toNat)) % 8)) (-2000000)) (-4000000))) (zPost (dC, dI) stCl [(cI, .int), (cJ, .long), (cZ, .boolean)] [(m0, .inr (5, [.int (iI 0), .int (iI steps), .ref k_ch, .ref k_co, .ref k_ua, .ref k_ub, .ref k_ba, .int (iI (fle 0)), .int (iI (fle 1)), .int (iI (fmo 0)), .int (iI (fmo 1)), .int (iI (bI HM)), .ref k_rt, .ref k_rf, .ref k_ct, .ref k_cf, .ref k_nd, .ref k_na, .ref k_no, .ref k_bt, .ref k_bc, .ref k_br, .int (iI bg), .int (iI pn), .ref k_pc, .ref k_pr, .ref k_la, .ref k_lb, .ref k_ha, .ref k_hb, .ref k_ls, .ref k_wc, .int (iI wd), .int (iI mg), .int (iI mw), .int (iI mc)])), (k_pc, .inl (cI, aI 20 gpc)), (k_pr, .inl (cJ, aL 20 gpr))] sz (fun _ : Unit => [(m0, .inr (5, [.int (iI 0), .int (iI steps), .ref k_ch, .ref k_co, .ref k_ua, .ref k_ub, .ref k_ba, .int (iI (fle 0)), .int (iI (fle 1)), .int (iI (fmo 0)), .int (iI (fmo 1)), .int (iI (bI HM)), .ref k_rt, .ref k_rf, .ref k_ct, .ref k_cf, .ref k_nd, .ref k_na, .ref k_no, .ref k_bt, .ref k_bc, .ref k_br, .int (iI bg), .int (iI pn), .ref k_pc, .ref k_pr, .ref k_la, .ref k_lb, .ref k_ha, .ref k_hb, .ref k_ls, .ref k_wc, .int (iI wd), .int (iI mg), .int (iI mw), .int (iI mc)])), (k_pc, .inl (cI, aI 20 gpc)), (k_pr, .inl (cJ, aL 20 gpr))])) (va_A [(m0, .inr (5, [.int (iI 0), .int (iI steps), .ref k_ch, .ref k_co, .ref k_ua, .ref k_ub, .ref k_ba, .int (iI (fle 0)), .int (iI (fle 1)), .int (iI (fmo 0)), .int (iI (fmo 1)), .int (iI (bI HM)), .ref k_rt, .ref k_rf, .ref k_ct, .ref k_cf, .ref k_nd, .ref k_na, .ref k_no, .ref k_bt, .ref k_bc, .ref k_br, .int (iI bg), .int (iI pn), .ref k_pc, .ref k_pr, .ref k_la, .ref k_lb, .ref k_ha, .ref k_hb, .ref k_ls, .ref k_wc, .int (iI wd), .int (iI mg), .int (iI mw), .int (iI mc)])), (k_pc, .inl (cI, aI 20 gpc)), (k_pr, .inl (cJ, aL 20 gpr))] sz)) 0 0 (va_A [(m0, .inr (5, [.int (iI 0), .int (iI steps), .ref k_ch, .ref k_co, .ref k_ua, .ref k_ub, .ref k_ba, .int (iI (fle 0)), .int (iI (fle 1)), .int (iI (fmo 0)), .int (iI (fmo 1)), .int (iI (bI HM)), .ref k_rt, .ref k_rf, .ref k_ct, .ref k_cf, .ref k_nd, .ref k_na, .ref k_no, .ref k_bt, .ref k_bc, .ref k_br, .int (iI bg), .int (iI pn), .ref k_pc, .ref k_pr, .ref k_la, .ref k_lb, .ref k_ha, .ref k_hb, .ref k_ls, .ref k_wc, .int (iI wd), .int (iI mg), .int (iI mw), .int (iI mc)])), (k_pc, .inl (cI, aI 20 gpc)), (k_pr, .inl (cJ, aL 20 gpr))] sz) := by
  refine met_i (by decide) rfl (Nat.le_of_ble_eq_true rfl) ?_
  intro p e s m below meth c A Q C hmn hret
  refine g_aload_n C 0 std_M_plan_0 rfl ?_
  refine g_iconst C std_M_plan_1 ?_
  refine g_put C (ws' := [(m0, .inr (5, [.int (iI 0), .int (iI steps), .ref k_ch, .ref k_co, .ref k_ua, .ref k_ub, .ref k_ba, .int (iI (fle 0)), .int (iI (fle 1)), .int (iI (fmo 0)), .int (iI (fmo 1)), .int (iI (bI HM)), .ref k_rt, .ref k_rf, .ref k_ct, .ref k_cf, .ref k_nd, .ref k_na, .ref k_no, .ref k_bt, .ref k_bc, .ref k_br, .int (iI bg), .int (iI pn), .ref k_pc, .ref k_pr, .ref k_la, .ref k_lb, .ref k_ha, .ref k_hb, .ref k_ls, .ref k_wc, .int (iI wd), .int (iI mg), .int (iI mw), .int (iI mc)])), (k_pc, .inl (cI, aI 20 gpc)), (k_pr, .inl (cJ, aL 20 gpr))]) (st_sub sti_M) stt_M sto_M stn_M 0 rfl rfl 0 (by decide) (List.mem_cons_of_mem _ kw_3_66) rfl rfl rfl rfl (Nat.le_of_ble_eq_true rfl) std_M_plan_2 rfl ?_
  refine g_aload_n C 0 std_M_plan_5 rfl ?_
  refine g_get C (st_sub sti_M) 0 rfl rfl 11 (by decide) (List.mem_cons_of_mem _ kw_3_77) rfl rfl std_M_plan_6 ?_
  refine g_ifne_b (tgt := 15) C std_M_plan_9 (by decide) (fun c1 => ?_) (fun c1 => ?_)
  · have hpn := kpn c1
    refine g_iload_n C 1 std_M_plan_15 rfl ?_
    refine g_iconst C std_M_plan_16 ?_
    refine g_aload_n C 0 std_M_plan_17 rfl ?_
    refine g_get C (st_sub sti_M) 0 rfl rfl 23 (by decide) (List.mem_cons_of_mem _ kw_3_89) rfl rfl std_M_plan_18 ?_
    refine g_iconst C std_M_plan_21 ?_
    refine g_isub C std_M_plan_22 ?_
    refine g_S_i (wc := []) (wr := [(m0, .inr (5, [.int (iI 0), .int (iI steps), .ref k_ch, .ref k_co, .ref k_ua, .ref k_ub, .ref k_ba, .int (iI (fle 0)), .int (iI (fle 1)), .int (iI (fmo 0)), .int (iI (fmo 1)), .int (iI (bI HM)), .ref k_rt, .ref k_rf, .ref k_ct, .ref k_cf, .ref k_nd, .ref k_na, .ref k_no, .ref k_bt, .ref k_bc, .ref k_br, .int (iI bg), .int (iI pn), .ref k_pc, .ref k_pr, .ref k_la, .ref k_lb, .ref k_ha, .ref k_hb, .ref k_ls, .ref k_wc, .int (iI wd), .int (iI mg), .int (iI mw), .int (iI mc)])), (k_pc, .inl (cI, aI 20 gpc)), (k_pr, .inl (cJ, aL 20 gpr))]) (rest := []) C (c_m_in l dC dI cI cJ cZ a 0 (pn - 1) (by unfold rI at *; omega) (by unfold rI at *; omega) (by unfold rI at *; omega)) (st_cS C kw_3_187 kw_3_185 kw_1_6 kw_3_186 sth_M_in ⟨Nat.le_of_ble_eq_true rfl, Nat.le_of_ble_eq_true rfl⟩) rfl rfl (Nat.le_of_ble_eq_true rfl) std_M_plan_23 ⟨Nat.le_of_ble_eq_true rfl, Nat.le_of_ble_eq_true rfl⟩ [] [0, 1, 2] rfl rfl rfl rfl (by decide) (fun r2 u3 h4 => ?_)
    subst h4
    refine g_ws (ws' := [(m0, .inr (5, [.int (iI 0), .int (iI steps), .ref k_ch, .ref k_co, .ref k_ua, .ref k_ub, .ref k_ba, .int (iI (fle 0)), .int (iI (fle 1)), .int (iI (fmo 0)), .int (iI (fmo 1)), .int (iI (bI HM)), .ref k_rt, .ref k_rf, .ref k_ct, .ref k_cf, .ref k_nd, .ref k_na, .ref k_no, .ref k_bt, .ref k_bc, .ref k_br, .int (iI bg), .int (iI pn), .ref k_pc, .ref k_pr, .ref k_la, .ref k_lb, .ref k_ha, .ref k_hb, .ref k_ls, .ref k_wc, .int (iI wd), .int (iI mg), .int (iI mw), .int (iI mc)])), (k_pc, .inl (cI, aI 20 gpc)), (k_pr, .inl (cJ, aL 20 gpr))]) rfl ?_
    refine g_ifeq_b (tgt := 43) C std_M_plan_26 (by decide) (fun c5 => ?_) (fun c5 => ?_)
    · refine g_ldc C (z := (-2000000)) (List.mem_cons_of_mem _ kw_3_188) (by decide) std_M_plan_43 ?_
      refine g_wide (k := 0) (n := 0) (Nat.le_of_ble_eq_true rfl) (Nat.le_of_ble_eq_true rfl) ?_
      exact hret _ _ _ () (by rw [sel_t c1, sel_f (by omega)]) std_M_plan_45
    · refine g_iload_n C 2 std_M_plan_29 rfl ?_
      refine g_iconst C std_M_plan_30 ?_
      refine g_aload_n C 0 std_M_plan_31 rfl ?_
      refine g_get C (st_sub sti_M) 0 rfl rfl 1 (by decide) (List.mem_cons_of_mem _ kw_3_67) rfl rfl std_M_plan_32 ?_
      refine g_iconst C std_M_plan_35 ?_
      refine g_isub C std_M_plan_36 ?_
      refine g_S_i (wc := []) (wr := [(m0, .inr (5, [.int (iI 0), .int (iI steps), .ref k_ch, .ref k_co, .ref k_ua, .ref k_ub, .ref k_ba, .int (iI (fle 0)), .int (iI (fle 1)), .int (iI (fmo 0)), .int (iI (fmo 1)), .int (iI (bI HM)), .ref k_rt, .ref k_rf, .ref k_ct, .ref k_cf, .ref k_nd, .ref k_na, .ref k_no, .ref k_bt, .ref k_bc, .ref k_br, .int (iI bg), .int (iI pn), .ref k_pc, .ref k_pr, .ref k_la, .ref k_lb, .ref k_ha, .ref k_hb, .ref k_ls, .ref k_wc, .int (iI wd), .int (iI mg), .int (iI mw), .int (iI mc)])), (k_pc, .inl (cI, aI 20 gpc)), (k_pr, .inl (cJ, aL 20 gpr))]) (rest := []) C (c_m_in l dC dI cI cJ cZ b (-1) (steps - 1) (by unfold rI at *; omega) (by unfold rI at *; omega) (by unfold rI at *; omega)) (st_cS C kw_3_187 kw_3_185 kw_1_6 kw_3_186 sth_M_in ⟨Nat.le_of_ble_eq_true rfl, Nat.le_of_ble_eq_true rfl⟩) rfl rfl (Nat.le_of_ble_eq_true rfl) std_M_plan_37 ⟨Nat.le_of_ble_eq_true rfl, Nat.le_of_ble_eq_true rfl⟩ [] [0, 1, 2] rfl rfl rfl rfl (by decide) (fun r6 u7 h8 => ?_)
      subst h8
      refine g_ws (ws' := [(m0, .inr (5, [.int (iI 0), .int (iI steps), .ref k_ch, .ref k_co, .ref k_ua, .ref k_ub, .ref k_ba, .int (iI (fle 0)), .int (iI (fle 1)), .int (iI (fmo 0)), .int (iI (fmo 1)), .int (iI (bI HM)), .ref k_rt, .ref k_rf, .ref k_ct, .ref k_cf, .ref k_nd, .ref k_na, .ref k_no, .ref k_bt, .ref k_bc, .ref k_br, .int (iI bg), .int (iI pn), .ref k_pc, .ref k_pr, .ref k_la, .ref k_lb, .ref k_ha, .ref k_hb, .ref k_ls, .ref k_wc, .int (iI wd), .int (iI mg), .int (iI mw), .int (iI mc)])), (k_pc, .inl (cI, aI 20 gpc)), (k_pr, .inl (cJ, aL 20 gpr))]) rfl ?_
      refine g_ifne_b (tgt := 46) C std_M_plan_40 (by decide) (fun c9 => ?_) (fun c9 => ?_)
      · have hpr := hpn.2 a (by omega) (by omega)
        have hp2 : (0 : Int) < (2 ^ (3 * (11 - b)).toNat) := Int.pow_pos (by omega)
        have hq1 : 0 ≤ gpr a / (2 ^ (3 * (11 - b)).toNat) := Int.ediv_nonneg (by omega) (by omega)
        have hq2 : gpr a / (2 ^ (3 * (11 - b)).toNat) ≤ gpr a := Int.ediv_le_self _ (by omega)
        refine g_iload_n C 2 std_M_plan_46 rfl ?_
        refine g_if_ge (tgt := 59) C std_M_plan_47 (by decide) ⟨by omega, by omega⟩ (fun c10 => ?_) (fun c10 => ?_)
        · refine g_aload_n C 0 std_M_plan_59 rfl ?_
          refine g_get C (st_sub sti_M) 0 rfl rfl 25 (by decide) (List.mem_cons_of_mem _ kw_3_91) rfl rfl std_M_plan_60 ?_
          refine g_iload_n C 1 std_M_plan_63 rfl ?_
          refine g_lald C 2 1 rfl rfl (by omega) (by omega) (by omega) std_M_plan_64 ?_
          refine g_iconst C std_M_plan_65 ?_
          refine g_bipush C std_M_plan_66 (by decide) ?_
          refine g_iload_n C 2 std_M_plan_68 rfl ?_
          refine g_isub C std_M_plan_69 ?_
          refine g_imul C std_M_plan_70 ?_
          refine g_lshr C (z := ((gpr a) / (2 ^ (3 * (11 - b)).toNat))) std_M_plan_71 (lI_shr (by omega) (by omega) (by omega) rfl) ?_
          refine g_ldc2 C (z := 7) (List.mem_cons_of_mem _ kw_4_29) (by decide) std_M_plan_72 ?_
          refine g_land C (z := (((gpr a) / (2 ^ (3 * (11 - b)).toNat)) % 8)) std_M_plan_75 (lI_andK 3 (by decide) (by decide) ⟨by omega, by omega⟩ (by decide)) ?_
          refine g_l2i C std_M_plan_76 ?_
          refine g_wide (k := 0) (n := 0) (Nat.le_of_ble_eq_true rfl) (Nat.le_of_ble_eq_true rfl) ?_
          exact hret _ _ _ () (by rw [sel_t c1, sel_t (by omega), sel_f (by omega)]) std_M_plan_77
        · refine g_aload_n C 0 std_M_plan_50 rfl ?_
          refine g_get C (st_sub sti_M) 0 rfl rfl 24 (by decide) (List.mem_cons_of_mem _ kw_3_90) rfl rfl std_M_plan_51 ?_
          refine g_iload_n C 1 std_M_plan_54 rfl ?_
          refine g_iald C 1 0 rfl rfl (by omega) (by omega) (by omega) std_M_plan_55 ?_
          refine g_goto (tgt := 77) C std_M_plan_56 (by decide) ?_
          refine g_wide (k := 0) (n := 0) (Nat.le_of_ble_eq_true rfl) (Nat.le_of_ble_eq_true rfl) ?_
          exact hret _ _ _ () (by rw [sel_t c1, sel_t (by omega), sel_t (by omega)]) std_M_plan_77
      · refine g_ldc C (z := (-2000000)) (List.mem_cons_of_mem _ kw_3_188) (by decide) std_M_plan_43 ?_
        refine g_wide (k := 0) (n := 0) (Nat.le_of_ble_eq_true rfl) (Nat.le_of_ble_eq_true rfl) ?_
        exact hret _ _ _ () (by rw [sel_t c1, sel_f (by omega)]) std_M_plan_45
  · refine g_ldc C (z := (-4000000)) (List.mem_cons_of_mem _ kw_4_15) (by decide) std_M_plan_12 ?_
    exact hret _ _ _ () (by rw [sel_f c1]) std_M_plan_14

abbrev sty_M_noNode : MethodName := ⟨"StateTablesModel", "noNode", "(II)Z"⟩
abbrev stc_M_noNode : ByteArray := prog_7_method_26_code
theorem sth_M_noNode : (sty_M_noNode).cls ≠ "java/lang/invoke/MethodHandle" ∧ (sty_M_noNode).cls ≠ "java/lang/invoke/VarHandle" ∧ (parseMethodDescriptor (sty_M_noNode).desc).map (fun d => d.parameters.length) = some 2 := by decide +kernel
theorem std_M_noNode_0 : decode stc_M_noNode 0 = .ok (.iload_n 1, 1) := by decide +kernel
theorem std_M_noNode_1 : decode stc_M_noNode 1 = .ok (.iconst 0, 1) := by decide +kernel
theorem std_M_noNode_2 : decode stc_M_noNode 2 = .ok (.aload_n 0, 1) := by decide +kernel
theorem std_M_noNode_3 : decode stc_M_noNode 3 = .ok (.getfield 92, 3) := by decide +kernel
theorem std_M_noNode_6 : decode stc_M_noNode 6 = .ok (.invokestatic 100, 3) := by decide +kernel
theorem std_M_noNode_9 : decode stc_M_noNode 9 = .ok (.ifCond .eq 19, 3) := by decide +kernel
theorem std_M_noNode_28 : decode stc_M_noNode 28 = .ok (.iconst 1, 1) := by decide +kernel
theorem std_M_noNode_29 : decode stc_M_noNode 29 = .ok (.goto 4, 3) := by decide +kernel
theorem std_M_noNode_33 : decode stc_M_noNode 33 = .ok (.ireturn, 1) := by decide +kernel
theorem std_M_noNode_12 : decode stc_M_noNode 12 = .ok (.iload_n 2, 1) := by decide +kernel
theorem std_M_noNode_13 : decode stc_M_noNode 13 = .ok (.iconst 0, 1) := by decide +kernel
theorem std_M_noNode_14 : decode stc_M_noNode 14 = .ok (.aload_n 0, 1) := by decide +kernel
theorem std_M_noNode_15 : decode stc_M_noNode 15 = .ok (.getfield 50, 3) := by decide +kernel
theorem std_M_noNode_18 : decode stc_M_noNode 18 = .ok (.iload_n 1, 1) := by decide +kernel
theorem std_M_noNode_19 : decode stc_M_noNode 19 = .ok (.iaload, 1) := by decide +kernel
theorem std_M_noNode_20 : decode stc_M_noNode 20 = .ok (.iconst 1, 1) := by decide +kernel
theorem std_M_noNode_21 : decode stc_M_noNode 21 = .ok (.isub, 1) := by decide +kernel
theorem std_M_noNode_22 : decode stc_M_noNode 22 = .ok (.invokestatic 100, 3) := by decide +kernel
theorem std_M_noNode_25 : decode stc_M_noNode 25 = .ok (.ifCond .ne 7, 3) := by decide +kernel
theorem std_M_noNode_32 : decode stc_M_noNode 32 = .ok (.iconst 0, 1) := by decide +kernel
set_option maxHeartbeats 4000000 in
set_option maxRecDepth 100000 in
theorem c_m_noNode (l : Launch) (dC : Nat → ClassId) (dI : Nat → Nat → Nat) (cI cJ cZ : ClassId) (m0 : Nat) (k_ch : Nat) (k_co : Nat) (k_ua : Nat) (k_ub : Nat) (k_ba : Nat) (k_rt : Nat) (k_rf : Nat) (k_ct : Nat) (k_cf : Nat) (k_nd : Nat) (k_na : Nat) (k_no : Nat) (k_bt : Nat) (k_bc : Nat) (k_br : Nat) (k_pc : Nat) (k_pr : Nat) (k_la : Nat) (k_lb : Nat) (k_ha : Nat) (k_hb : Nat) (k_ls : Nat) (k_wc : Nat) (HM : Prop) (bg : Int) (pn : Int) (wd : Int) (mg : Int) (mw : Int) (mc : Int) (steps : Int) (fle : Int → Int) (fmo : Int → Int) (gnd : Int → Int) (a : Int) (b : Int) (kst : 0 ≤ steps ∧ steps ≤ 12) (kg : ∀ j, 0 ≤ j → j ≤ steps → 0 ≤ gnd j ∧ gnd j ≤ 400) (ka : rI a) (kb : rI b) : ∀ sz, Met l sty_M_noNode (Cond.code sty_M_noNode stc_M_noNode 3 (some .boolean) :: stGW) ({ frames := 1, cells := 0, slots := 0, locals := 22 } : Room) (va_Pc [.ref m0, .int (iI a), .int (iI b)] (zPre (dC, dI) stCl [(cI, .int), (cJ, .long), (cZ, .boolean)] st_nw [(m0, .inr (5, [.int (iI 0), .int (iI steps), .ref k_ch, .ref k_co, .ref k_ua, .ref k_ub, .ref k_ba, .int (iI (fle 0)), .int (iI (fle 1)), .int (iI (fmo 0)), .int (iI (fmo 1)), .int (iI (bI HM)), .ref k_rt, .ref k_rf, .ref k_ct, .ref k_cf, .ref k_nd, .ref k_na, .ref k_no, .ref k_bt, .ref k_bc, .ref k_br, .int (iI bg), .int (iI pn), .ref k_pc, .ref k_pr, .ref k_la, .ref k_lb, .ref k_ha, .ref k_hb, .ref k_ls, .ref k_wc, .int (iI wd), .int (iI mg), .int (iI mw), .int (iI mc)])), (k_nd, .inl (cI, aI 13 gnd))] sz)) (va_Qi (fun (r : Int32) (_ : Unit) => r = iI (bI (¬ ((0 ≤ a ∧ a ≤ steps) ∧ 0 ≤ b ∧ b ≤ (gnd a) - 1)))) (zPost (dC, dI) stCl [(cI, .int), (cJ, .long), (cZ, .boolean)] [(m0, .inr (5, [.int (iI 0), .int (iI steps), .ref k_ch, .ref k_co, .ref k_ua, .ref k_ub, .ref k_ba, .int (iI (fle 0)), .int (iI (fle 1)), .int (iI (fmo 0)), .int (iI (fmo 1)), .int (iI (bI HM)), .ref k_rt, .ref k_rf, .ref k_ct, .ref k_cf, .ref k_nd, .ref k_na, .ref k_no, .ref k_bt, .ref k_bc, .ref k_br, .int (iI bg), .int (iI pn), .ref k_pc, .ref k_pr, .ref k_la, .ref k_lb, .ref k_ha, .ref k_hb, .ref k_ls, .ref k_wc, .int (iI wd), .int (iI mg), .int (iI mw), .int (iI mc)])), (k_nd, .inl (cI, aI 13 gnd))] sz (fun _ : Unit => [(m0, .inr (5, [.int (iI 0), .int (iI steps), .ref k_ch, .ref k_co, .ref k_ua, .ref k_ub, .ref k_ba, .int (iI (fle 0)), .int (iI (fle 1)), .int (iI (fmo 0)), .int (iI (fmo 1)), .int (iI (bI HM)), .ref k_rt, .ref k_rf, .ref k_ct, .ref k_cf, .ref k_nd, .ref k_na, .ref k_no, .ref k_bt, .ref k_bc, .ref k_br, .int (iI bg), .int (iI pn), .ref k_pc, .ref k_pr, .ref k_la, .ref k_lb, .ref k_ha, .ref k_hb, .ref k_ls, .ref k_wc, .int (iI wd), .int (iI mg), .int (iI mw), .int (iI mc)])), (k_nd, .inl (cI, aI 13 gnd))])) (va_A [(m0, .inr (5, [.int (iI 0), .int (iI steps), .ref k_ch, .ref k_co, .ref k_ua, .ref k_ub, .ref k_ba, .int (iI (fle 0)), .int (iI (fle 1)), .int (iI (fmo 0)), .int (iI (fmo 1)), .int (iI (bI HM)), .ref k_rt, .ref k_rf, .ref k_ct, .ref k_cf, .ref k_nd, .ref k_na, .ref k_no, .ref k_bt, .ref k_bc, .ref k_br, .int (iI bg), .int (iI pn), .ref k_pc, .ref k_pr, .ref k_la, .ref k_lb, .ref k_ha, .ref k_hb, .ref k_ls, .ref k_wc, .int (iI wd), .int (iI mg), .int (iI mw), .int (iI mc)])), (k_nd, .inl (cI, aI 13 gnd))] sz)) 0 0 (va_A [(m0, .inr (5, [.int (iI 0), .int (iI steps), .ref k_ch, .ref k_co, .ref k_ua, .ref k_ub, .ref k_ba, .int (iI (fle 0)), .int (iI (fle 1)), .int (iI (fmo 0)), .int (iI (fmo 1)), .int (iI (bI HM)), .ref k_rt, .ref k_rf, .ref k_ct, .ref k_cf, .ref k_nd, .ref k_na, .ref k_no, .ref k_bt, .ref k_bc, .ref k_br, .int (iI bg), .int (iI pn), .ref k_pc, .ref k_pr, .ref k_la, .ref k_lb, .ref k_ha, .ref k_hb, .ref k_ls, .ref k_wc, .int (iI wd), .int (iI mg), .int (iI mw), .int (iI mc)])), (k_nd, .inl (cI, aI 13 gnd))] sz) := by
  refine met_z (by decide) rfl (Nat.le_of_ble_eq_true rfl) ?_
  intro p e s m below meth c A Q C hmn hret
  refine g_iload_n C 1 std_M_noNode_0 rfl ?_
  refine g_iconst C std_M_noNode_1 ?_
  refine g_aload_n C 0 std_M_noNode_2 rfl ?_
  refine g_get C (st_sub sti_M) 0 rfl rfl 1 (by decide) (List.mem_cons_of_mem _ kw_3_67) rfl rfl std_M_noNode_3 ?_
  refine g_S_i (wc := []) (wr := [(m0, .inr (5, [.int (iI 0), .int (iI steps), .ref k_ch, .ref k_co, .ref k_ua, .ref k_ub, .ref k_ba, .int (iI (fle 0)), .int (iI (fle 1)), .int (iI (fmo 0)), .int (iI (fmo 1)), .int (iI (bI HM)), .ref k_rt, .ref k_rf, .ref k_ct, .ref k_cf, .ref k_nd, .ref k_na, .ref k_no, .ref k_bt, .ref k_bc, .ref k_br, .int (iI bg), .int (iI pn), .ref k_pc, .ref k_pr, .ref k_la, .ref k_lb, .ref k_ha, .ref k_hb, .ref k_ls, .ref k_wc, .int (iI wd), .int (iI mg), .int (iI mw), .int (iI mc)])), (k_nd, .inl (cI, aI 13 gnd))]) (rest := []) C (c_m_in l dC dI cI cJ cZ a 0 steps (by unfold rI at *; omega) (by unfold rI at *; omega) (by unfold rI at *; omega)) (st_cS C kw_3_187 kw_3_185 kw_1_6 kw_3_186 sth_M_in ⟨Nat.le_of_ble_eq_true rfl, Nat.le_of_ble_eq_true rfl⟩) rfl rfl (Nat.le_of_ble_eq_true rfl) std_M_noNode_6 ⟨Nat.le_of_ble_eq_true rfl, Nat.le_of_ble_eq_true rfl⟩ [] [0, 1] rfl rfl rfl rfl (by decide) (fun r1 u2 h3 => ?_)
  subst h3
  refine g_ws (ws' := [(m0, .inr (5, [.int (iI 0), .int (iI steps), .ref k_ch, .ref k_co, .ref k_ua, .ref k_ub, .ref k_ba, .int (iI (fle 0)), .int (iI (fle 1)), .int (iI (fmo 0)), .int (iI (fmo 1)), .int (iI (bI HM)), .ref k_rt, .ref k_rf, .ref k_ct, .ref k_cf, .ref k_nd, .ref k_na, .ref k_no, .ref k_bt, .ref k_bc, .ref k_br, .int (iI bg), .int (iI pn), .ref k_pc, .ref k_pr, .ref k_la, .ref k_lb, .ref k_ha, .ref k_hb, .ref k_ls, .ref k_wc, .int (iI wd), .int (iI mg), .int (iI mw), .int (iI mc)])), (k_nd, .inl (cI, aI 13 gnd))]) rfl ?_
  refine g_ifeq_b (tgt := 28) C std_M_noNode_9 (by decide) (fun c4 => ?_) (fun c4 => ?_)
  · refine g_iconst C std_M_noNode_28 ?_
    refine g_goto (tgt := 33) C std_M_noNode_29 (by decide) ?_
    refine g_wide (k := 0) (n := 0) (Nat.le_of_ble_eq_true rfl) (Nat.le_of_ble_eq_true rfl) ?_
    exact hret _ _ _ () (by rw [bI_t (by omega)]) (by decide) std_M_noNode_33
  · have hq := kg a (by omega) (by omega)
    refine g_iload_n C 2 std_M_noNode_12 rfl ?_
    refine g_iconst C std_M_noNode_13 ?_
    refine g_aload_n C 0 std_M_noNode_14 rfl ?_
    refine g_get C (st_sub sti_M) 0 rfl rfl 16 (by decide) (List.mem_cons_of_mem _ kw_3_82) rfl rfl std_M_noNode_15 ?_
    refine g_iload_n C 1 std_M_noNode_18 rfl ?_
    refine g_iald C 1 0 rfl rfl (by omega) (by omega) (by omega) std_M_noNode_19 ?_
    refine g_iconst C std_M_noNode_20 ?_
    refine g_isub C std_M_noNode_21 ?_
    refine g_S_i (wc := []) (wr := [(m0, .inr (5, [.int (iI 0), .int (iI steps), .ref k_ch, .ref k_co, .ref k_ua, .ref k_ub, .ref k_ba, .int (iI (fle 0)), .int (iI (fle 1)), .int (iI (fmo 0)), .int (iI (fmo 1)), .int (iI (bI HM)), .ref k_rt, .ref k_rf, .ref k_ct, .ref k_cf, .ref k_nd, .ref k_na, .ref k_no, .ref k_bt, .ref k_bc, .ref k_br, .int (iI bg), .int (iI pn), .ref k_pc, .ref k_pr, .ref k_la, .ref k_lb, .ref k_ha, .ref k_hb, .ref k_ls, .ref k_wc, .int (iI wd), .int (iI mg), .int (iI mw), .int (iI mc)])), (k_nd, .inl (cI, aI 13 gnd))]) (rest := []) C (c_m_in l dC dI cI cJ cZ b 0 ((gnd a) - 1) (by unfold rI at *; omega) (by unfold rI at *; omega) (by unfold rI at *; omega)) (st_cS C kw_3_187 kw_3_185 kw_1_6 kw_3_186 sth_M_in ⟨Nat.le_of_ble_eq_true rfl, Nat.le_of_ble_eq_true rfl⟩) rfl rfl (Nat.le_of_ble_eq_true rfl) std_M_noNode_22 ⟨Nat.le_of_ble_eq_true rfl, Nat.le_of_ble_eq_true rfl⟩ [] [0, 1] rfl rfl rfl rfl (by decide) (fun r5 u6 h7 => ?_)
    subst h7
    refine g_ws (ws' := [(m0, .inr (5, [.int (iI 0), .int (iI steps), .ref k_ch, .ref k_co, .ref k_ua, .ref k_ub, .ref k_ba, .int (iI (fle 0)), .int (iI (fle 1)), .int (iI (fmo 0)), .int (iI (fmo 1)), .int (iI (bI HM)), .ref k_rt, .ref k_rf, .ref k_ct, .ref k_cf, .ref k_nd, .ref k_na, .ref k_no, .ref k_bt, .ref k_bc, .ref k_br, .int (iI bg), .int (iI pn), .ref k_pc, .ref k_pr, .ref k_la, .ref k_lb, .ref k_ha, .ref k_hb, .ref k_ls, .ref k_wc, .int (iI wd), .int (iI mg), .int (iI mw), .int (iI mc)])), (k_nd, .inl (cI, aI 13 gnd))]) rfl ?_
    refine g_ifne_b (tgt := 32) C std_M_noNode_25 (by decide) (fun c8 => ?_) (fun c8 => ?_)
    · refine g_iconst C std_M_noNode_32 ?_
      refine g_wide (k := 0) (n := 0) (Nat.le_of_ble_eq_true rfl) (Nat.le_of_ble_eq_true rfl) ?_
      exact hret _ _ _ () (by rw [bI_f (by omega)]) (by decide) std_M_noNode_33
    · refine g_iconst C std_M_noNode_28 ?_
      refine g_goto (tgt := 33) C std_M_noNode_29 (by decide) ?_
      refine g_wide (k := 0) (n := 0) (Nat.le_of_ble_eq_true rfl) (Nat.le_of_ble_eq_true rfl) ?_
      exact hret _ _ _ () (by rw [bI_t (by omega)]) (by decide) std_M_noNode_33

abbrev sty_M_layer : MethodName := ⟨"StateTablesModel", "layer", "(I)I"⟩
abbrev stc_M_layer : ByteArray := prog_7_method_27_code
theorem sth_M_layer : (sty_M_layer).cls ≠ "java/lang/invoke/MethodHandle" ∧ (sty_M_layer).cls ≠ "java/lang/invoke/VarHandle" ∧ (parseMethodDescriptor (sty_M_layer).desc).map (fun d => d.parameters.length) = some 1 := by decide +kernel
theorem std_M_layer_0 : decode stc_M_layer 0 = .ok (.aload_n 0, 1) := by decide +kernel
theorem std_M_layer_1 : decode stc_M_layer 1 = .ok (.iconst 0, 1) := by decide +kernel
theorem std_M_layer_2 : decode stc_M_layer 2 = .ok (.putfield 1, 3) := by decide +kernel
theorem std_M_layer_5 : decode stc_M_layer 5 = .ok (.aload_n 0, 1) := by decide +kernel
theorem std_M_layer_6 : decode stc_M_layer 6 = .ok (.getfield 96, 3) := by decide +kernel
theorem std_M_layer_9 : decode stc_M_layer 9 = .ok (.ifCond .ne 8, 3) := by decide +kernel
theorem std_M_layer_17 : decode stc_M_layer 17 = .ok (.iload_n 1, 1) := by decide +kernel
theorem std_M_layer_18 : decode stc_M_layer 18 = .ok (.iconst 0, 1) := by decide +kernel
theorem std_M_layer_19 : decode stc_M_layer 19 = .ok (.aload_n 0, 1) := by decide +kernel
theorem std_M_layer_20 : decode stc_M_layer 20 = .ok (.getfield 92, 3) := by decide +kernel
theorem std_M_layer_23 : decode stc_M_layer 23 = .ok (.invokestatic 100, 3) := by decide +kernel
theorem std_M_layer_26 : decode stc_M_layer 26 = .ok (.ifCond .ne 8, 3) := by decide +kernel
theorem std_M_layer_34 : decode stc_M_layer 34 = .ok (.aload_n 0, 1) := by decide +kernel
theorem std_M_layer_35 : decode stc_M_layer 35 = .ok (.getfield 50, 3) := by decide +kernel
theorem std_M_layer_38 : decode stc_M_layer 38 = .ok (.iload_n 1, 1) := by decide +kernel
theorem std_M_layer_39 : decode stc_M_layer 39 = .ok (.iaload, 1) := by decide +kernel
theorem std_M_layer_40 : decode stc_M_layer 40 = .ok (.ireturn, 1) := by decide +kernel
theorem std_M_layer_29 : decode stc_M_layer 29 = .ok (.ldc 104, 2) := by decide +kernel
theorem std_M_layer_31 : decode stc_M_layer 31 = .ok (.goto 9, 3) := by decide +kernel
theorem std_M_layer_12 : decode stc_M_layer 12 = .ok (.ldc 162, 2) := by decide +kernel
theorem std_M_layer_14 : decode stc_M_layer 14 = .ok (.goto 26, 3) := by decide +kernel
set_option maxHeartbeats 4000000 in
set_option maxRecDepth 100000 in
theorem c_m_layer (l : Launch) (dC : Nat → ClassId) (dI : Nat → Nat → Nat) (cI cJ cZ : ClassId) (m0 : Nat) (k_ch : Nat) (k_co : Nat) (k_ua : Nat) (k_ub : Nat) (k_ba : Nat) (k_rt : Nat) (k_rf : Nat) (k_ct : Nat) (k_cf : Nat) (k_nd : Nat) (k_na : Nat) (k_no : Nat) (k_bt : Nat) (k_bc : Nat) (k_br : Nat) (k_pc : Nat) (k_pr : Nat) (k_la : Nat) (k_lb : Nat) (k_ha : Nat) (k_hb : Nat) (k_ls : Nat) (k_wc : Nat) (HM : Prop) (bg : Int) (pn : Int) (wd : Int) (mg : Int) (mw : Int) (mc : Int) (steps : Int) (fle : Int → Int) (fmo : Int → Int) (gnd : Int → Int) (a : Int) (kst : 0 ≤ steps ∧ steps ≤ 12) (ka : rI a) : ∀ sz, Met l sty_M_layer (Cond.code sty_M_layer stc_M_layer 2 (some .int) :: stGW) ({ frames := 1, cells := 0, slots := 0, locals := 22 } : Room) (va_Pc [.ref m0, .int (iI a)] (zPre (dC, dI) stCl [(cI, .int), (cJ, .long), (cZ, .boolean)] st_nw [(m0, .inr (5, [.int (iI 0), .int (iI steps), .ref k_ch, .ref k_co, .ref k_ua, .ref k_ub, .ref k_ba, .int (iI (fle 0)), .int (iI (fle 1)), .int (iI (fmo 0)), .int (iI (fmo 1)), .int (iI (bI HM)), .ref k_rt, .ref k_rf, .ref k_ct, .ref k_cf, .ref k_nd, .ref k_na, .ref k_no, .ref k_bt, .ref k_bc, .ref k_br, .int (iI bg), .int (iI pn), .ref k_pc, .ref k_pr, .ref k_la, .ref k_lb, .ref k_ha, .ref k_hb, .ref k_ls, .ref k_wc, .int (iI wd), .int (iI mg), .int (iI mw), .int (iI mc)])), (k_nd, .inl (cI, aI 13 gnd))] sz)) (va_Qi (fun (r : Int32) (_ : Unit) => r = iI (sel HM (sel (0 ≤ a ∧ a ≤ steps) (gnd a) (-2000000)) (-4000000))) (zPost (dC, dI) stCl [(cI, .int), (cJ, .long), (cZ, .boolean)] [(m0, .inr (5, [.int (iI 0), .int (iI steps), .ref k_ch, .ref k_co, .ref k_ua, .ref k_ub, .ref k_ba, .int (iI (fle 0)), .int (iI (fle 1)), .int (iI (fmo 0)), .int (iI (fmo 1)), .int (iI (bI HM)), .ref k_rt, .ref k_rf, .ref k_ct, .ref k_cf, .ref k_nd, .ref k_na, .ref k_no, .ref k_bt, .ref k_bc, .ref k_br, .int (iI bg), .int (iI pn), .ref k_pc, .ref k_pr, .ref k_la, .ref k_lb, .ref k_ha, .ref k_hb, .ref k_ls, .ref k_wc, .int (iI wd), .int (iI mg), .int (iI mw), .int (iI mc)])), (k_nd, .inl (cI, aI 13 gnd))] sz (fun _ : Unit => [(m0, .inr (5, [.int (iI 0), .int (iI steps), .ref k_ch, .ref k_co, .ref k_ua, .ref k_ub, .ref k_ba, .int (iI (fle 0)), .int (iI (fle 1)), .int (iI (fmo 0)), .int (iI (fmo 1)), .int (iI (bI HM)), .ref k_rt, .ref k_rf, .ref k_ct, .ref k_cf, .ref k_nd, .ref k_na, .ref k_no, .ref k_bt, .ref k_bc, .ref k_br, .int (iI bg), .int (iI pn), .ref k_pc, .ref k_pr, .ref k_la, .ref k_lb, .ref k_ha, .ref k_hb, .ref k_ls, .ref k_wc, .int (iI wd), .int (iI mg), .int (iI mw), .int (iI mc)])), (k_nd, .inl (cI, aI 13 gnd))])) (va_A [(m0, .inr (5, [.int (iI 0), .int (iI steps), .ref k_ch, .ref k_co, .ref k_ua, .ref k_ub, .ref k_ba, .int (iI (fle 0)), .int (iI (fle 1)), .int (iI (fmo 0)), .int (iI (fmo 1)), .int (iI (bI HM)), .ref k_rt, .ref k_rf, .ref k_ct, .ref k_cf, .ref k_nd, .ref k_na, .ref k_no, .ref k_bt, .ref k_bc, .ref k_br, .int (iI bg), .int (iI pn), .ref k_pc, .ref k_pr, .ref k_la, .ref k_lb, .ref k_ha, .ref k_hb, .ref k_ls, .ref k_wc, .int (iI wd), .int (iI mg), .int (iI mw), .int (iI mc)])), (k_nd, .inl (cI, aI 13 gnd))] sz)) 0 0 (va_A [(m0, .inr (5, [.int (iI 0), .int (iI steps), .ref k_ch, .ref k_co, .ref k_ua, .ref k_ub, .ref k_ba, .int (iI (fle 0)), .int (iI (fle 1)), .int (iI (fmo 0)), .int (iI (fmo 1)), .int (iI (bI HM)), .ref k_rt, .ref k_rf, .ref k_ct, .ref k_cf, .ref k_nd, .ref k_na, .ref k_no, .ref k_bt, .ref k_bc, .ref k_br, .int (iI bg), .int (iI pn), .ref k_pc, .ref k_pr, .ref k_la, .ref k_lb, .ref k_ha, .ref k_hb, .ref k_ls, .ref k_wc, .int (iI wd), .int (iI mg), .int (iI mw), .int (iI mc)])), (k_nd, .inl (cI, aI 13 gnd))] sz) := by
  refine met_i (by decide) rfl (Nat.le_of_ble_eq_true rfl) ?_
  intro p e s m below meth c A Q C hmn hret
  refine g_aload_n C 0 std_M_layer_0 rfl ?_
  refine g_iconst C std_M_layer_1 ?_
  refine g_put C (ws' := [(m0, .inr (5, [.int (iI 0), .int (iI steps), .ref k_ch, .ref k_co, .ref k_ua, .ref k_ub, .ref k_ba, .int (iI (fle 0)), .int (iI (fle 1)), .int (iI (fmo 0)), .int (iI (fmo 1)), .int (iI (bI HM)), .ref k_rt, .ref k_rf, .ref k_ct, .ref k_cf, .ref k_nd, .ref k_na, .ref k_no, .ref k_bt, .ref k_bc, .ref k_br, .int (iI bg), .int (iI pn), .ref k_pc, .ref k_pr, .ref k_la, .ref k_lb, .ref k_ha, .ref k_hb, .ref k_ls, .ref k_wc, .int (iI wd), .int (iI mg), .int (iI mw), .int (iI mc)])), (k_nd, .inl (cI, aI 13 gnd))]) (st_sub sti_M) stt_M sto_M stn_M 0 rfl rfl 0 (by decide) (List.mem_cons_of_mem _ kw_3_66) rfl rfl rfl rfl (Nat.le_of_ble_eq_true rfl) std_M_layer_2 rfl ?_
  refine g_aload_n C 0 std_M_layer_5 rfl ?_
  refine g_get C (st_sub sti_M) 0 rfl rfl 11 (by decide) (List.mem_cons_of_mem _ kw_3_77) rfl rfl std_M_layer_6 ?_
  refine g_ifne_b (tgt := 17) C std_M_layer_9 (by decide) (fun c1 => ?_) (fun c1 => ?_)
  · refine g_iload_n C 1 std_M_layer_17 rfl ?_
    refine g_iconst C std_M_layer_18 ?_
    refine g_aload_n C 0 std_M_layer_19 rfl ?_
    refine g_get C (st_sub sti_M) 0 rfl rfl 1 (by decide) (List.mem_cons_of_mem _ kw_3_67) rfl rfl std_M_layer_20 ?_
    refine g_S_i (wc := []) (wr := [(m0, .inr (5, [.int (iI 0), .int (iI steps), .ref k_ch, .ref k_co, .ref k_ua, .ref k_ub, .ref k_ba, .int (iI (fle 0)), .int (iI (fle 1)), .int (iI (fmo 0)), .int (iI (fmo 1)), .int (iI (bI HM)), .ref k_rt, .ref k_rf, .ref k_ct, .ref k_cf, .ref k_nd, .ref k_na, .ref k_no, .ref k_bt, .ref k_bc, .ref k_br, .int (iI bg), .int (iI pn), .ref k_pc, .ref k_pr, .ref k_la, .ref k_lb, .ref k_ha, .ref k_hb, .ref k_ls, .ref k_wc, .int (iI wd), .int (iI mg), .int (iI mw), .int (iI mc)])), (k_nd, .inl (cI, aI 13 gnd))]) (rest := []) C (c_m_in l dC dI cI cJ cZ a 0 steps (by unfold rI at *; omega) (by unfold rI at *; omega) (by unfold rI at *; omega)) (st_cS C kw_3_187 kw_3_185 kw_1_6 kw_3_186 sth_M_in ⟨Nat.le_of_ble_eq_true rfl, Nat.le_of_ble_eq_true rfl⟩) rfl rfl (Nat.le_of_ble_eq_true rfl) std_M_layer_23 ⟨Nat.le_of_ble_eq_true rfl, Nat.le_of_ble_eq_true rfl⟩ [] [0, 1] rfl rfl rfl rfl (by decide) (fun r2 u3 h4 => ?_)
    subst h4
    refine g_ws (ws' := [(m0, .inr (5, [.int (iI 0), .int (iI steps), .ref k_ch, .ref k_co, .ref k_ua, .ref k_ub, .ref k_ba, .int (iI (fle 0)), .int (iI (fle 1)), .int (iI (fmo 0)), .int (iI (fmo 1)), .int (iI (bI HM)), .ref k_rt, .ref k_rf, .ref k_ct, .ref k_cf, .ref k_nd, .ref k_na, .ref k_no, .ref k_bt, .ref k_bc, .ref k_br, .int (iI bg), .int (iI pn), .ref k_pc, .ref k_pr, .ref k_la, .ref k_lb, .ref k_ha, .ref k_hb, .ref k_ls, .ref k_wc, .int (iI wd), .int (iI mg), .int (iI mw), .int (iI mc)])), (k_nd, .inl (cI, aI 13 gnd))]) rfl ?_
    refine g_ifne_b (tgt := 34) C std_M_layer_26 (by decide) (fun c5 => ?_) (fun c5 => ?_)
    · refine g_aload_n C 0 std_M_layer_34 rfl ?_
      refine g_get C (st_sub sti_M) 0 rfl rfl 16 (by decide) (List.mem_cons_of_mem _ kw_3_82) rfl rfl std_M_layer_35 ?_
      refine g_iload_n C 1 std_M_layer_38 rfl ?_
      refine g_iald C 1 0 rfl rfl (by omega) (by omega) (by omega) std_M_layer_39 ?_
      refine g_wide (k := 0) (n := 0) (Nat.le_of_ble_eq_true rfl) (Nat.le_of_ble_eq_true rfl) ?_
      exact hret _ _ _ () (by rw [sel_t c1, sel_t (by omega)]) std_M_layer_40
    · refine g_ldc C (z := (-2000000)) (List.mem_cons_of_mem _ kw_3_188) (by decide) std_M_layer_29 ?_
      refine g_goto (tgt := 40) C std_M_layer_31 (by decide) ?_
      refine g_wide (k := 0) (n := 0) (Nat.le_of_ble_eq_true rfl) (Nat.le_of_ble_eq_true rfl) ?_
      exact hret _ _ _ () (by rw [sel_t c1, sel_f (by omega)]) std_M_layer_40
  · refine g_ldc C (z := (-4000000)) (List.mem_cons_of_mem _ kw_4_15) (by decide) std_M_layer_12 ?_
    refine g_goto (tgt := 40) C std_M_layer_14 (by decide) ?_
    exact hret _ _ _ () (by rw [sel_f c1]) std_M_layer_40

abbrev sty_M_node : MethodName := ⟨"StateTablesModel", "node", "(III)I"⟩
abbrev stc_M_node : ByteArray := prog_7_method_28_code
theorem sth_M_node : (sty_M_node).cls ≠ "java/lang/invoke/MethodHandle" ∧ (sty_M_node).cls ≠ "java/lang/invoke/VarHandle" ∧ (parseMethodDescriptor (sty_M_node).desc).map (fun d => d.parameters.length) = some 3 := by decide +kernel
theorem std_M_node_0 : decode stc_M_node 0 = .ok (.aload_n 0, 1) := by decide +kernel
theorem std_M_node_1 : decode stc_M_node 1 = .ok (.iconst 0, 1) := by decide +kernel
theorem std_M_node_2 : decode stc_M_node 2 = .ok (.putfield 1, 3) := by decide +kernel
theorem std_M_node_5 : decode stc_M_node 5 = .ok (.aload_n 0, 1) := by decide +kernel
theorem std_M_node_6 : decode stc_M_node 6 = .ok (.getfield 96, 3) := by decide +kernel
theorem std_M_node_9 : decode stc_M_node 9 = .ok (.ifCond .ne 6, 3) := by decide +kernel
theorem std_M_node_15 : decode stc_M_node 15 = .ok (.aload_n 0, 1) := by decide +kernel
theorem std_M_node_16 : decode stc_M_node 16 = .ok (.iload_n 1, 1) := by decide +kernel
theorem std_M_node_17 : decode stc_M_node 17 = .ok (.iload_n 2, 1) := by decide +kernel
theorem std_M_node_18 : decode stc_M_node 18 = .ok (.invokevirtual 167, 3) := by decide +kernel
theorem kw_4_41 : Cond.code sty_M_noNode stc_M_noNode 3 (some .boolean) ∈ stGW := st_t4 (List.mem_of_getElem? (i := 41) (by decide +kernel)) (by decide +kernel)
theorem kw_4_38 : Cond.methodLink "StateTablesModel" 167 (sty_M_noNode) ∈ stGW := st_t4 (List.mem_of_getElem? (i := 38) (by decide +kernel)) (by decide +kernel)
theorem kw_4_40 : Cond.instanceMethod (sty_M_noNode) ∈ stGW := st_t4 (List.mem_of_getElem? (i := 40) (by decide +kernel)) (by decide +kernel)
theorem kw_0_26 : Cond.selects "StateTablesModel" (sty_M_noNode) (sty_M_noNode) ∈ stGW := st_t0 (List.mem_of_getElem? (i := 26) (by decide +kernel)) (by decide +kernel)
theorem std_M_node_21 : decode stc_M_node 21 = .ok (.ifCond .ne 12, 3) := by decide +kernel
theorem std_M_node_33 : decode stc_M_node 33 = .ok (.ldc 104, 2) := by decide +kernel
theorem std_M_node_35 : decode stc_M_node 35 = .ok (.ireturn, 1) := by decide +kernel
theorem std_M_node_24 : decode stc_M_node 24 = .ok (.iload_n 3, 1) := by decide +kernel
theorem std_M_node_25 : decode stc_M_node 25 = .ok (.iconst 0, 1) := by decide +kernel
theorem std_M_node_26 : decode stc_M_node 26 = .ok (.iconst 4, 1) := by decide +kernel
theorem std_M_node_27 : decode stc_M_node 27 = .ok (.invokestatic 100, 3) := by decide +kernel
theorem std_M_node_30 : decode stc_M_node 30 = .ok (.ifCond .ne 6, 3) := by decide +kernel
theorem std_M_node_36 : decode stc_M_node 36 = .ok (.aload_n 0, 1) := by decide +kernel
theorem std_M_node_37 : decode stc_M_node 37 = .ok (.getfield 53, 3) := by decide +kernel
theorem std_M_node_40 : decode stc_M_node 40 = .ok (.sipush 400, 3) := by decide +kernel
theorem std_M_node_43 : decode stc_M_node 43 = .ok (.iload_n 1, 1) := by decide +kernel
theorem std_M_node_44 : decode stc_M_node 44 = .ok (.imul, 1) := by decide +kernel
theorem std_M_node_45 : decode stc_M_node 45 = .ok (.iload_n 2, 1) := by decide +kernel
theorem std_M_node_46 : decode stc_M_node 46 = .ok (.iadd, 1) := by decide +kernel
theorem std_M_node_47 : decode stc_M_node 47 = .ok (.iaload, 1) := by decide +kernel
theorem std_M_node_48 : decode stc_M_node 48 = .ok (.istore 4, 2) := by decide +kernel
theorem std_M_node_50 : decode stc_M_node 50 = .ok (.iload_n 3, 1) := by decide +kernel
theorem std_M_node_51 : decode stc_M_node 51 = .ok (.tableswitch 55 0 3 #[29, 35, 41, 47], 29) := by decide +kernel
theorem std_M_node_80 : decode stc_M_node 80 = .ok (.iload 4, 2) := by decide +kernel
theorem std_M_node_82 : decode stc_M_node 82 = .ok (.invokestatic 123, 3) := by decide +kernel
theorem std_M_node_85 : decode stc_M_node 85 = .ok (.ireturn, 1) := by decide +kernel
theorem std_M_node_86 : decode stc_M_node 86 = .ok (.iload 4, 2) := by decide +kernel
theorem std_M_node_88 : decode stc_M_node 88 = .ok (.invokestatic 126, 3) := by decide +kernel
theorem std_M_node_91 : decode stc_M_node 91 = .ok (.ireturn, 1) := by decide +kernel
theorem std_M_node_92 : decode stc_M_node 92 = .ok (.iload 4, 2) := by decide +kernel
theorem std_M_node_94 : decode stc_M_node 94 = .ok (.invokestatic 119, 3) := by decide +kernel
theorem std_M_node_97 : decode stc_M_node 97 = .ok (.ireturn, 1) := by decide +kernel
theorem std_M_node_98 : decode stc_M_node 98 = .ok (.aload_n 0, 1) := by decide +kernel
theorem std_M_node_99 : decode stc_M_node 99 = .ok (.getfield 44, 3) := by decide +kernel
theorem std_M_node_102 : decode stc_M_node 102 = .ok (.iload 4, 2) := by decide +kernel
theorem std_M_node_104 : decode stc_M_node 104 = .ok (.iaload, 1) := by decide +kernel
theorem std_M_node_105 : decode stc_M_node 105 = .ok (.ireturn, 1) := by decide +kernel
theorem std_M_node_106 : decode stc_M_node 106 = .ok (.aload_n 0, 1) := by decide +kernel
theorem std_M_node_107 : decode stc_M_node 107 = .ok (.getfield 41, 3) := by decide +kernel
theorem std_M_node_110 : decode stc_M_node 110 = .ok (.iload 4, 2) := by decide +kernel
theorem std_M_node_112 : decode stc_M_node 112 = .ok (.laload, 1) := by decide +kernel
theorem std_M_node_113 : decode stc_M_node 113 = .ok (.lconst 0, 1) := by decide +kernel
theorem std_M_node_114 : decode stc_M_node 114 = .ok (.lcmp, 1) := by decide +kernel
theorem std_M_node_115 : decode stc_M_node 115 = .ok (.ifCond .ne 8, 3) := by decide +kernel
theorem std_M_node_123 : decode stc_M_node 123 = .ok (.aload_n 0, 1) := by decide +kernel
theorem std_M_node_124 : decode stc_M_node 124 = .ok (.getfield 47, 3) := by decide +kernel
theorem std_M_node_127 : decode stc_M_node 127 = .ok (.iload 4, 2) := by decide +kernel
theorem std_M_node_129 : decode stc_M_node 129 = .ok (.iaload, 1) := by decide +kernel
theorem std_M_node_130 : decode stc_M_node 130 = .ok (.ireturn, 1) := by decide +kernel
theorem std_M_node_118 : decode stc_M_node 118 = .ok (.ldc 129, 2) := by decide +kernel
theorem std_M_node_120 : decode stc_M_node 120 = .ok (.goto 10, 3) := by decide +kernel
theorem std_M_node_12 : decode stc_M_node 12 = .ok (.ldc 162, 2) := by decide +kernel
theorem std_M_node_14 : decode stc_M_node 14 = .ok (.ireturn, 1) := by decide +kernel
set_option maxHeartbeats 4000000 in
set_option maxRecDepth 100000 in
theorem c_m_node (l : Launch) (dC : Nat → ClassId) (dI : Nat → Nat → Nat) (cI cJ cZ : ClassId) (m0 : Nat) (k_ch : Nat) (k_co : Nat) (k_ua : Nat) (k_ub : Nat) (k_ba : Nat) (k_rt : Nat) (k_rf : Nat) (k_ct : Nat) (k_cf : Nat) (k_nd : Nat) (k_na : Nat) (k_no : Nat) (k_bt : Nat) (k_bc : Nat) (k_br : Nat) (k_pc : Nat) (k_pr : Nat) (k_la : Nat) (k_lb : Nat) (k_ha : Nat) (k_hb : Nat) (k_ls : Nat) (k_wc : Nat) (HM : Prop) (bg : Int) (pn : Int) (wd : Int) (mg : Int) (mw : Int) (mc : Int) (steps : Int) (fle : Int → Int) (fmo : Int → Int) (gnd : Int → Int) (gna : Int → Int) (gct : Int → Int) (gcf : Int → Int) (grf : Int → Int) (a : Int) (b : Int) (k : Int) (kst : 0 ≤ steps ∧ steps ≤ 12) (kgH : HM → ∀ j, 0 ≤ j → j ≤ steps → 0 ≤ gnd j ∧ gnd j ≤ 400) (kN : HM → ∀ d i, 0 ≤ d → d ≤ steps → 0 ≤ i → i < gnd d → (0 ≤ gna (400 * d + i) ∧ gna (400 * d + i) < 152971) ∧ rL (grf (gna (400 * d + i))) ∧ (-100000 ≤ gct (gna (400 * d + i)) ∧ gct (gna (400 * d + i)) ≤ 100000)) (ka : rI a) (kb : rI b) (kk : rI k) : ∀ sz, Met l sty_M_node (Cond.code sty_M_node stc_M_node 5 (some .int) :: stGW) ({ frames := 2, cells := 0, slots := 0, locals := 44 } : Room) (va_Pc [.ref m0, .int (iI a), .int (iI b), .int (iI k)] (zPre (dC, dI) stCl [(cI, .int), (cJ, .long), (cZ, .boolean)] st_nw [(m0, .inr (5, [.int (iI 0), .int (iI steps), .ref k_ch, .ref k_co, .ref k_ua, .ref k_ub, .ref k_ba, .int (iI (fle 0)), .int (iI (fle 1)), .int (iI (fmo 0)), .int (iI (fmo 1)), .int (iI (bI HM)), .ref k_rt, .ref k_rf, .ref k_ct, .ref k_cf, .ref k_nd, .ref k_na, .ref k_no, .ref k_bt, .ref k_bc, .ref k_br, .int (iI bg), .int (iI pn), .ref k_pc, .ref k_pr, .ref k_la, .ref k_lb, .ref k_ha, .ref k_hb, .ref k_ls, .ref k_wc, .int (iI wd), .int (iI mg), .int (iI mw), .int (iI mc)])), (k_nd, .inl (cI, aI 13 gnd)), (k_na, .inl (cI, aI 5200 gna)), (k_ct, .inl (cI, aI 152971 gct)), (k_cf, .inl (cI, aI 152971 gcf)), (k_rf, .inl (cJ, aL 152971 grf))] sz)) (va_Qi (fun (r : Int32) (_ : Unit) => r = iI (sel HM (sel (((0 ≤ a ∧ a ≤ steps) ∧ 0 ≤ b ∧ b ≤ (gnd a) - 1) ∧ 0 ≤ k ∧ k ≤ 4) (sel (k = 0) ((((gna ((400 * a) + b)) % 11767) / 7) / 41) (sel (k = 1) ((((gna ((400 * a) + b)) % 11767) / 7) % 41) (sel (k = 2) (((gna ((400 * a) + b)) % 7) - 1) (sel (k = 3) (gct (gna ((400 * a) + b))) (sel (grf (gna ((400 * a) + b)) = 0) (-1000000) (gcf (gna ((400 * a) + b)))))))) (-2000000)) (-4000000))) (zPost (dC, dI) stCl [(cI, .int), (cJ, .long), (cZ, .boolean)] [(m0, .inr (5, [.int (iI 0), .int (iI steps), .ref k_ch, .ref k_co, .ref k_ua, .ref k_ub, .ref k_ba, .int (iI (fle 0)), .int (iI (fle 1)), .int (iI (fmo 0)), .int (iI (fmo 1)), .int (iI (bI HM)), .ref k_rt, .ref k_rf, .ref k_ct, .ref k_cf, .ref k_nd, .ref k_na, .ref k_no, .ref k_bt, .ref k_bc, .ref k_br, .int (iI bg), .int (iI pn), .ref k_pc, .ref k_pr, .ref k_la, .ref k_lb, .ref k_ha, .ref k_hb, .ref k_ls, .ref k_wc, .int (iI wd), .int (iI mg), .int (iI mw), .int (iI mc)])), (k_nd, .inl (cI, aI 13 gnd)), (k_na, .inl (cI, aI 5200 gna)), (k_ct, .inl (cI, aI 152971 gct)), (k_cf, .inl (cI, aI 152971 gcf)), (k_rf, .inl (cJ, aL 152971 grf))] sz (fun _ : Unit => [(m0, .inr (5, [.int (iI 0), .int (iI steps), .ref k_ch, .ref k_co, .ref k_ua, .ref k_ub, .ref k_ba, .int (iI (fle 0)), .int (iI (fle 1)), .int (iI (fmo 0)), .int (iI (fmo 1)), .int (iI (bI HM)), .ref k_rt, .ref k_rf, .ref k_ct, .ref k_cf, .ref k_nd, .ref k_na, .ref k_no, .ref k_bt, .ref k_bc, .ref k_br, .int (iI bg), .int (iI pn), .ref k_pc, .ref k_pr, .ref k_la, .ref k_lb, .ref k_ha, .ref k_hb, .ref k_ls, .ref k_wc, .int (iI wd), .int (iI mg), .int (iI mw), .int (iI mc)])), (k_nd, .inl (cI, aI 13 gnd)), (k_na, .inl (cI, aI 5200 gna)), (k_ct, .inl (cI, aI 152971 gct)), (k_cf, .inl (cI, aI 152971 gcf)), (k_rf, .inl (cJ, aL 152971 grf))])) (va_A [(m0, .inr (5, [.int (iI 0), .int (iI steps), .ref k_ch, .ref k_co, .ref k_ua, .ref k_ub, .ref k_ba, .int (iI (fle 0)), .int (iI (fle 1)), .int (iI (fmo 0)), .int (iI (fmo 1)), .int (iI (bI HM)), .ref k_rt, .ref k_rf, .ref k_ct, .ref k_cf, .ref k_nd, .ref k_na, .ref k_no, .ref k_bt, .ref k_bc, .ref k_br, .int (iI bg), .int (iI pn), .ref k_pc, .ref k_pr, .ref k_la, .ref k_lb, .ref k_ha, .ref k_hb, .ref k_ls, .ref k_wc, .int (iI wd), .int (iI mg), .int (iI mw), .int (iI mc)])), (k_nd, .inl (cI, aI 13 gnd)), (k_na, .inl (cI, aI 5200 gna)), (k_ct, .inl (cI, aI 152971 gct)), (k_cf, .inl (cI, aI 152971 gcf)), (k_rf, .inl (cJ, aL 152971 grf))] sz)) 0 0 (va_A [(m0, .inr (5, [.int (iI 0), .int (iI steps), .ref k_ch, .ref k_co, .ref k_ua, .ref k_ub, .ref k_ba, .int (iI (fle 0)), .int (iI (fle 1)), .int (iI (fmo 0)), .int (iI (fmo 1)), .int (iI (bI HM)), .ref k_rt, .ref k_rf, .ref k_ct, .ref k_cf, .ref k_nd, .ref k_na, .ref k_no, .ref k_bt, .ref k_bc, .ref k_br, .int (iI bg), .int (iI pn), .ref k_pc, .ref k_pr, .ref k_la, .ref k_lb, .ref k_ha, .ref k_hb, .ref k_ls, .ref k_wc, .int (iI wd), .int (iI mg), .int (iI mw), .int (iI mc)])), (k_nd, .inl (cI, aI 13 gnd)), (k_na, .inl (cI, aI 5200 gna)), (k_ct, .inl (cI, aI 152971 gct)), (k_cf, .inl (cI, aI 152971 gcf)), (k_rf, .inl (cJ, aL 152971 grf))] sz) := by
  refine met_i (by decide) rfl (Nat.le_of_ble_eq_true rfl) ?_
  intro p e s m below meth c A Q C hmn hret
  refine g_aload_n C 0 std_M_node_0 rfl ?_
  refine g_iconst C std_M_node_1 ?_
  refine g_put C (ws' := [(m0, .inr (5, [.int (iI 0), .int (iI steps), .ref k_ch, .ref k_co, .ref k_ua, .ref k_ub, .ref k_ba, .int (iI (fle 0)), .int (iI (fle 1)), .int (iI (fmo 0)), .int (iI (fmo 1)), .int (iI (bI HM)), .ref k_rt, .ref k_rf, .ref k_ct, .ref k_cf, .ref k_nd, .ref k_na, .ref k_no, .ref k_bt, .ref k_bc, .ref k_br, .int (iI bg), .int (iI pn), .ref k_pc, .ref k_pr, .ref k_la, .ref k_lb, .ref k_ha, .ref k_hb, .ref k_ls, .ref k_wc, .int (iI wd), .int (iI mg), .int (iI mw), .int (iI mc)])), (k_nd, .inl (cI, aI 13 gnd)), (k_na, .inl (cI, aI 5200 gna)), (k_ct, .inl (cI, aI 152971 gct)), (k_cf, .inl (cI, aI 152971 gcf)), (k_rf, .inl (cJ, aL 152971 grf))]) (st_sub sti_M) stt_M sto_M stn_M 0 rfl rfl 0 (by decide) (List.mem_cons_of_mem _ kw_3_66) rfl rfl rfl rfl (Nat.le_of_ble_eq_true rfl) std_M_node_2 rfl ?_
  refine g_aload_n C 0 std_M_node_5 rfl ?_
  refine g_get C (st_sub sti_M) 0 rfl rfl 11 (by decide) (List.mem_cons_of_mem _ kw_3_77) rfl rfl std_M_node_6 ?_
  refine g_ifne_b (tgt := 15) C std_M_node_9 (by decide) (fun c1 => ?_) (fun c1 => ?_)
  · refine g_aload_n C 0 std_M_node_15 rfl ?_
    refine g_iload_n C 1 std_M_node_16 rfl ?_
    refine g_iload_n C 2 std_M_node_17 rfl ?_
    refine g_V_i (wc := [(m0, .inr (5, [.int (iI 0), .int (iI steps), .ref k_ch, .ref k_co, .ref k_ua, .ref k_ub, .ref k_ba, .int (iI (fle 0)), .int (iI (fle 1)), .int (iI (fmo 0)), .int (iI (fmo 1)), .int (iI (bI HM)), .ref k_rt, .ref k_rf, .ref k_ct, .ref k_cf, .ref k_nd, .ref k_na, .ref k_no, .ref k_bt, .ref k_bc, .ref k_br, .int (iI bg), .int (iI pn), .ref k_pc, .ref k_pr, .ref k_la, .ref k_lb, .ref k_ha, .ref k_hb, .ref k_ls, .ref k_wc, .int (iI wd), .int (iI mg), .int (iI mw), .int (iI mc)])), (k_nd, .inl (cI, aI 13 gnd))]) (wr := [(k_na, .inl (cI, aI 5200 gna)), (k_ct, .inl (cI, aI 152971 gct)), (k_cf, .inl (cI, aI 152971 gcf)), (k_rf, .inl (cJ, aL 152971 grf))]) (rest := []) C (c_m_noNode l dC dI cI cJ cZ m0 k_ch k_co k_ua k_ub k_ba k_rt k_rf k_ct k_cf k_nd k_na k_no k_bt k_bc k_br k_pc k_pr k_la k_lb k_ha k_hb k_ls k_wc HM bg pn wd mg mw mc steps fle fmo gnd a b (kst) (kgH c1) (by unfold rI at *; omega) (by unfold rI at *; omega)) (st_cV C kw_4_41 kw_4_38 kw_1_6 kw_4_40 kw_0_26 sth_M_noNode ⟨Nat.le_of_ble_eq_true rfl, Nat.le_of_ble_eq_true rfl⟩) 0 rfl rfl rfl rfl (Nat.le_of_ble_eq_true rfl) std_M_node_18 ⟨Nat.le_of_ble_eq_true rfl, Nat.le_of_ble_eq_true rfl⟩ [0, 1] [2, 3, 4, 5] rfl rfl rfl rfl (by decide) (fun r2 u3 h4 => ?_)
    subst h4
    refine g_ws (ws' := [(k_na, .inl (cI, aI 5200 gna)), (k_ct, .inl (cI, aI 152971 gct)), (k_cf, .inl (cI, aI 152971 gcf)), (k_rf, .inl (cJ, aL 152971 grf)), (m0, .inr (5, [.int (iI 0), .int (iI steps), .ref k_ch, .ref k_co, .ref k_ua, .ref k_ub, .ref k_ba, .int (iI (fle 0)), .int (iI (fle 1)), .int (iI (fmo 0)), .int (iI (fmo 1)), .int (iI (bI HM)), .ref k_rt, .ref k_rf, .ref k_ct, .ref k_cf, .ref k_nd, .ref k_na, .ref k_no, .ref k_bt, .ref k_bc, .ref k_br, .int (iI bg), .int (iI pn), .ref k_pc, .ref k_pr, .ref k_la, .ref k_lb, .ref k_ha, .ref k_hb, .ref k_ls, .ref k_wc, .int (iI wd), .int (iI mg), .int (iI mw), .int (iI mc)])), (k_nd, .inl (cI, aI 13 gnd))]) rfl ?_
    refine g_ifne_b (tgt := 33) C std_M_node_21 (by decide) (fun c5 => ?_) (fun c5 => ?_)
    · refine g_ldc C (z := (-2000000)) (List.mem_cons_of_mem _ kw_3_188) (by decide) std_M_node_33 ?_
      refine g_sub (ws' := [(m0, .inr (5, [.int (iI 0), .int (iI steps), .ref k_ch, .ref k_co, .ref k_ua, .ref k_ub, .ref k_ba, .int (iI (fle 0)), .int (iI (fle 1)), .int (iI (fmo 0)), .int (iI (fmo 1)), .int (iI (bI HM)), .ref k_rt, .ref k_rf, .ref k_ct, .ref k_cf, .ref k_nd, .ref k_na, .ref k_no, .ref k_bt, .ref k_bc, .ref k_br, .int (iI bg), .int (iI pn), .ref k_pc, .ref k_pr, .ref k_la, .ref k_lb, .ref k_ha, .ref k_hb, .ref k_ls, .ref k_wc, .int (iI wd), .int (iI mg), .int (iI mw), .int (iI mc)])), (k_nd, .inl (cI, aI 13 gnd)), (k_na, .inl (cI, aI 5200 gna)), (k_ct, .inl (cI, aI 152971 gct)), (k_cf, .inl (cI, aI 152971 gcf)), (k_rf, .inl (cJ, aL 152971 grf))]) [4, 5, 0, 1, 2, 3] rfl rfl ?_
      refine g_wide (k := 0) (n := 0) (Nat.le_of_ble_eq_true rfl) (Nat.le_of_ble_eq_true rfl) ?_
      exact hret _ _ _ () (by rw [sel_t c1, sel_f (by omega)]) std_M_node_35
    · refine g_iload_n C 3 std_M_node_24 rfl ?_
      refine g_iconst C std_M_node_25 ?_
      refine g_iconst C std_M_node_26 ?_
      refine g_S_i (wc := []) (wr := [(k_na, .inl (cI, aI 5200 gna)), (k_ct, .inl (cI, aI 152971 gct)), (k_cf, .inl (cI, aI 152971 gcf)), (k_rf, .inl (cJ, aL 152971 grf)), (m0, .inr (5, [.int (iI 0), .int (iI steps), .ref k_ch, .ref k_co, .ref k_ua, .ref k_ub, .ref k_ba, .int (iI (fle 0)), .int (iI (fle 1)), .int (iI (fmo 0)), .int (iI (fmo 1)), .int (iI (bI HM)), .ref k_rt, .ref k_rf, .ref k_ct, .ref k_cf, .ref k_nd, .ref k_na, .ref k_no, .ref k_bt, .ref k_bc, .ref k_br, .int (iI bg), .int (iI pn), .ref k_pc, .ref k_pr, .ref k_la, .ref k_lb, .ref k_ha, .ref k_hb, .ref k_ls, .ref k_wc, .int (iI wd), .int (iI mg), .int (iI mw), .int (iI mc)])), (k_nd, .inl (cI, aI 13 gnd))]) (rest := []) C (c_m_in l dC dI cI cJ cZ k 0 4 (by unfold rI at *; omega) (by unfold rI at *; omega) (by unfold rI at *; omega)) (st_cS C kw_3_187 kw_3_185 kw_1_6 kw_3_186 sth_M_in ⟨Nat.le_of_ble_eq_true rfl, Nat.le_of_ble_eq_true rfl⟩) rfl rfl (Nat.le_of_ble_eq_true rfl) std_M_node_27 ⟨Nat.le_of_ble_eq_true rfl, Nat.le_of_ble_eq_true rfl⟩ [] [0, 1, 2, 3, 4, 5] rfl rfl rfl rfl (by decide) (fun r6 u7 h8 => ?_)
      subst h8
      refine g_ws (ws' := [(k_na, .inl (cI, aI 5200 gna)), (k_ct, .inl (cI, aI 152971 gct)), (k_cf, .inl (cI, aI 152971 gcf)), (k_rf, .inl (cJ, aL 152971 grf)), (m0, .inr (5, [.int (iI 0), .int (iI steps), .ref k_ch, .ref k_co, .ref k_ua, .ref k_ub, .ref k_ba, .int (iI (fle 0)), .int (iI (fle 1)), .int (iI (fmo 0)), .int (iI (fmo 1)), .int (iI (bI HM)), .ref k_rt, .ref k_rf, .ref k_ct, .ref k_cf, .ref k_nd, .ref k_na, .ref k_no, .ref k_bt, .ref k_bc, .ref k_br, .int (iI bg), .int (iI pn), .ref k_pc, .ref k_pr, .ref k_la, .ref k_lb, .ref k_ha, .ref k_hb, .ref k_ls, .ref k_wc, .int (iI wd), .int (iI mg), .int (iI mw), .int (iI mc)])), (k_nd, .inl (cI, aI 13 gnd))]) rfl ?_
      refine g_ifne_b (tgt := 36) C std_M_node_30 (by decide) (fun c9 => ?_) (fun c9 => ?_)
      · have hq := kN c1 a b (by omega) (by omega) (by omega) (by omega)
        have hgq := kgH c1 a (by omega) (by omega)
        refine g_aload_n C 0 std_M_node_36 rfl ?_
        refine g_get C (st_sub sti_M) 4 rfl rfl 17 (by decide) (List.mem_cons_of_mem _ kw_3_83) rfl rfl std_M_node_37 ?_
        refine g_sipush C std_M_node_40 (by decide) ?_
        refine g_iload_n C 1 std_M_node_43 rfl ?_
        refine g_imul C std_M_node_44 ?_
        refine g_iload_n C 2 std_M_node_45 rfl ?_
        refine g_iadd C std_M_node_46 ?_
        refine g_iald C 0 0 rfl rfl (by omega) (by omega) (by omega) std_M_node_47 ?_
        refine g_istore C (lv' := [(4, .int (iI (gna ((400 * a) + b)))), (0, .ref m0), (1, .int (iI a)), (2, .int (iI b)), (3, .int (iI k))]) std_M_node_48 (by decide) rfl ?_
        refine g_iload_n C 4 std_M_node_50 rfl ?_
        by_cases sw10 : k = 0
        · refine g_tin (tgt := 80) C std_M_node_51 ⟨by omega, by omega⟩ (by omega) (by omega) (by rw [sw10]; rfl) (by decide) ?_
          refine g_iload C 0 std_M_node_80 rfl ?_
          refine g_S_i (wc := []) (wr := [(k_na, .inl (cI, aI 5200 gna)), (k_ct, .inl (cI, aI 152971 gct)), (k_cf, .inl (cI, aI 152971 gcf)), (k_rf, .inl (cJ, aL 152971 grf)), (m0, .inr (5, [.int (iI 0), .int (iI steps), .ref k_ch, .ref k_co, .ref k_ua, .ref k_ub, .ref k_ba, .int (iI (fle 0)), .int (iI (fle 1)), .int (iI (fmo 0)), .int (iI (fmo 1)), .int (iI (bI HM)), .ref k_rt, .ref k_rf, .ref k_ct, .ref k_cf, .ref k_nd, .ref k_na, .ref k_no, .ref k_bt, .ref k_bc, .ref k_br, .int (iI bg), .int (iI pn), .ref k_pc, .ref k_pr, .ref k_la, .ref k_lb, .ref k_ha, .ref k_hb, .ref k_ls, .ref k_wc, .int (iI wd), .int (iI mg), .int (iI mw), .int (iI mc)])), (k_nd, .inl (cI, aI 13 gnd))]) (rest := []) C (c_m_aOf l dC dI cI cJ cZ (gna ((400 * a) + b)) (by omega)) (st_cS C kw_3_230 kw_3_228 kw_1_6 kw_3_229 sth_M_aOf ⟨Nat.le_of_ble_eq_true rfl, Nat.le_of_ble_eq_true rfl⟩) rfl rfl (Nat.le_of_ble_eq_true rfl) std_M_node_82 ⟨Nat.le_of_ble_eq_true rfl, Nat.le_of_ble_eq_true rfl⟩ [] [0, 1, 2, 3, 4, 5] rfl rfl rfl rfl (by decide) (fun r11 u12 h13 => ?_)
          subst h13
          refine g_ws (ws' := [(k_na, .inl (cI, aI 5200 gna)), (k_ct, .inl (cI, aI 152971 gct)), (k_cf, .inl (cI, aI 152971 gcf)), (k_rf, .inl (cJ, aL 152971 grf)), (m0, .inr (5, [.int (iI 0), .int (iI steps), .ref k_ch, .ref k_co, .ref k_ua, .ref k_ub, .ref k_ba, .int (iI (fle 0)), .int (iI (fle 1)), .int (iI (fmo 0)), .int (iI (fmo 1)), .int (iI (bI HM)), .ref k_rt, .ref k_rf, .ref k_ct, .ref k_cf, .ref k_nd, .ref k_na, .ref k_no, .ref k_bt, .ref k_bc, .ref k_br, .int (iI bg), .int (iI pn), .ref k_pc, .ref k_pr, .ref k_la, .ref k_lb, .ref k_ha, .ref k_hb, .ref k_ls, .ref k_wc, .int (iI wd), .int (iI mg), .int (iI mw), .int (iI mc)])), (k_nd, .inl (cI, aI 13 gnd))]) rfl ?_
          refine g_sub (ws' := [(m0, .inr (5, [.int (iI 0), .int (iI steps), .ref k_ch, .ref k_co, .ref k_ua, .ref k_ub, .ref k_ba, .int (iI (fle 0)), .int (iI (fle 1)), .int (iI (fmo 0)), .int (iI (fmo 1)), .int (iI (bI HM)), .ref k_rt, .ref k_rf, .ref k_ct, .ref k_cf, .ref k_nd, .ref k_na, .ref k_no, .ref k_bt, .ref k_bc, .ref k_br, .int (iI bg), .int (iI pn), .ref k_pc, .ref k_pr, .ref k_la, .ref k_lb, .ref k_ha, .ref k_hb, .ref k_ls, .ref k_wc, .int (iI wd), .int (iI mg), .int (iI mw), .int (iI mc)])), (k_nd, .inl (cI, aI 13 gnd)), (k_na, .inl (cI, aI 5200 gna)), (k_ct, .inl (cI, aI 152971 gct)), (k_cf, .inl (cI, aI 152971 gcf)), (k_rf, .inl (cJ, aL 152971 grf))]) [4, 5, 0, 1, 2, 3] rfl rfl ?_
          refine g_wide (k := 0) (n := 0) (Nat.le_of_ble_eq_true rfl) (Nat.le_of_ble_eq_true rfl) ?_
          exact hret _ _ _ () (by rw [sel_t c1, sel_t (by omega), sel_t (by omega)]) std_M_node_85
        by_cases sw14 : k = 1
        · refine g_tin (tgt := 86) C std_M_node_51 ⟨by omega, by omega⟩ (by omega) (by omega) (by rw [sw14]; rfl) (by decide) ?_
          refine g_iload C 0 std_M_node_86 rfl ?_
          refine g_S_i (wc := []) (wr := [(k_na, .inl (cI, aI 5200 gna)), (k_ct, .inl (cI, aI 152971 gct)), (k_cf, .inl (cI, aI 152971 gcf)), (k_rf, .inl (cJ, aL 152971 grf)), (m0, .inr (5, [.int (iI 0), .int (iI steps), .ref k_ch, .ref k_co, .ref k_ua, .ref k_ub, .ref k_ba, .int (iI (fle 0)), .int (iI (fle 1)), .int (iI (fmo 0)), .int (iI (fmo 1)), .int (iI (bI HM)), .ref k_rt, .ref k_rf, .ref k_ct, .ref k_cf, .ref k_nd, .ref k_na, .ref k_no, .ref k_bt, .ref k_bc, .ref k_br, .int (iI bg), .int (iI pn), .ref k_pc, .ref k_pr, .ref k_la, .ref k_lb, .ref k_ha, .ref k_hb, .ref k_ls, .ref k_wc, .int (iI wd), .int (iI mg), .int (iI mw), .int (iI mc)])), (k_nd, .inl (cI, aI 13 gnd))]) (rest := []) C (c_m_bOf l dC dI cI cJ cZ (gna ((400 * a) + b)) (by omega)) (st_cS C kw_3_233 kw_3_231 kw_1_6 kw_3_232 sth_M_bOf ⟨Nat.le_of_ble_eq_true rfl, Nat.le_of_ble_eq_true rfl⟩) rfl rfl (Nat.le_of_ble_eq_true rfl) std_M_node_88 ⟨Nat.le_of_ble_eq_true rfl, Nat.le_of_ble_eq_true rfl⟩ [] [0, 1, 2, 3, 4, 5] rfl rfl rfl rfl (by decide) (fun r15 u16 h17 => ?_)
          subst h17
          refine g_ws (ws' := [(k_na, .inl (cI, aI 5200 gna)), (k_ct, .inl (cI, aI 152971 gct)), (k_cf, .inl (cI, aI 152971 gcf)), (k_rf, .inl (cJ, aL 152971 grf)), (m0, .inr (5, [.int (iI 0), .int (iI steps), .ref k_ch, .ref k_co, .ref k_ua, .ref k_ub, .ref k_ba, .int (iI (fle 0)), .int (iI (fle 1)), .int (iI (fmo 0)), .int (iI (fmo 1)), .int (iI (bI HM)), .ref k_rt, .ref k_rf, .ref k_ct, .ref k_cf, .ref k_nd, .ref k_na, .ref k_no, .ref k_bt, .ref k_bc, .ref k_br, .int (iI bg), .int (iI pn), .ref k_pc, .ref k_pr, .ref k_la, .ref k_lb, .ref k_ha, .ref k_hb, .ref k_ls, .ref k_wc, .int (iI wd), .int (iI mg), .int (iI mw), .int (iI mc)])), (k_nd, .inl (cI, aI 13 gnd))]) rfl ?_
          refine g_sub (ws' := [(m0, .inr (5, [.int (iI 0), .int (iI steps), .ref k_ch, .ref k_co, .ref k_ua, .ref k_ub, .ref k_ba, .int (iI (fle 0)), .int (iI (fle 1)), .int (iI (fmo 0)), .int (iI (fmo 1)), .int (iI (bI HM)), .ref k_rt, .ref k_rf, .ref k_ct, .ref k_cf, .ref k_nd, .ref k_na, .ref k_no, .ref k_bt, .ref k_bc, .ref k_br, .int (iI bg), .int (iI pn), .ref k_pc, .ref k_pr, .ref k_la, .ref k_lb, .ref k_ha, .ref k_hb, .ref k_ls, .ref k_wc, .int (iI wd), .int (iI mg), .int (iI mw), .int (iI mc)])), (k_nd, .inl (cI, aI 13 gnd)), (k_na, .inl (cI, aI 5200 gna)), (k_ct, .inl (cI, aI 152971 gct)), (k_cf, .inl (cI, aI 152971 gcf)), (k_rf, .inl (cJ, aL 152971 grf))]) [4, 5, 0, 1, 2, 3] rfl rfl ?_
          refine g_wide (k := 0) (n := 0) (Nat.le_of_ble_eq_true rfl) (Nat.le_of_ble_eq_true rfl) ?_
          exact hret _ _ _ () (by rw [sel_t c1, sel_t (by omega), sel_f (by omega), sel_t (by omega)]) std_M_node_91
        by_cases sw18 : k = 2
        · refine g_tin (tgt := 92) C std_M_node_51 ⟨by omega, by omega⟩ (by omega) (by omega) (by rw [sw18]; rfl) (by decide) ?_
          refine g_iload C 0 std_M_node_92 rfl ?_
          refine g_S_i (wc := []) (wr := [(k_na, .inl (cI, aI 5200 gna)), (k_ct, .inl (cI, aI 152971 gct)), (k_cf, .inl (cI, aI 152971 gcf)), (k_rf, .inl (cJ, aL 152971 grf)), (m0, .inr (5, [.int (iI 0), .int (iI steps), .ref k_ch, .ref k_co, .ref k_ua, .ref k_ub, .ref k_ba, .int (iI (fle 0)), .int (iI (fle 1)), .int (iI (fmo 0)), .int (iI (fmo 1)), .int (iI (bI HM)), .ref k_rt, .ref k_rf, .ref k_ct, .ref k_cf, .ref k_nd, .ref k_na, .ref k_no, .ref k_bt, .ref k_bc, .ref k_br, .int (iI bg), .int (iI pn), .ref k_pc, .ref k_pr, .ref k_la, .ref k_lb, .ref k_ha, .ref k_hb, .ref k_ls, .ref k_wc, .int (iI wd), .int (iI mg), .int (iI mw), .int (iI mc)])), (k_nd, .inl (cI, aI 13 gnd))]) (rest := []) C (c_m_lastOf l dC dI cI cJ cZ (gna ((400 * a) + b)) (by omega)) (st_cS C kw_3_227 kw_3_225 kw_1_6 kw_3_226 sth_M_lastOf ⟨Nat.le_of_ble_eq_true rfl, Nat.le_of_ble_eq_true rfl⟩) rfl rfl (Nat.le_of_ble_eq_true rfl) std_M_node_94 ⟨Nat.le_of_ble_eq_true rfl, Nat.le_of_ble_eq_true rfl⟩ [] [0, 1, 2, 3, 4, 5] rfl rfl rfl rfl (by decide) (fun r19 u20 h21 => ?_)
          subst h21
          refine g_ws (ws' := [(k_na, .inl (cI, aI 5200 gna)), (k_ct, .inl (cI, aI 152971 gct)), (k_cf, .inl (cI, aI 152971 gcf)), (k_rf, .inl (cJ, aL 152971 grf)), (m0, .inr (5, [.int (iI 0), .int (iI steps), .ref k_ch, .ref k_co, .ref k_ua, .ref k_ub, .ref k_ba, .int (iI (fle 0)), .int (iI (fle 1)), .int (iI (fmo 0)), .int (iI (fmo 1)), .int (iI (bI HM)), .ref k_rt, .ref k_rf, .ref k_ct, .ref k_cf, .ref k_nd, .ref k_na, .ref k_no, .ref k_bt, .ref k_bc, .ref k_br, .int (iI bg), .int (iI pn), .ref k_pc, .ref k_pr, .ref k_la, .ref k_lb, .ref k_ha, .ref k_hb, .ref k_ls, .ref k_wc, .int (iI wd), .int (iI mg), .int (iI mw), .int (iI mc)])), (k_nd, .inl (cI, aI 13 gnd))]) rfl ?_
          refine g_sub (ws' := [(m0, .inr (5, [.int (iI 0), .int (iI steps), .ref k_ch, .ref k_co, .ref k_ua, .ref k_ub, .ref k_ba, .int (iI (fle 0)), .int (iI (fle 1)), .int (iI (fmo 0)), .int (iI (fmo 1)), .int (iI (bI HM)), .ref k_rt, .ref k_rf, .ref k_ct, .ref k_cf, .ref k_nd, .ref k_na, .ref k_no, .ref k_bt, .ref k_bc, .ref k_br, .int (iI bg), .int (iI pn), .ref k_pc, .ref k_pr, .ref k_la, .ref k_lb, .ref k_ha, .ref k_hb, .ref k_ls, .ref k_wc, .int (iI wd), .int (iI mg), .int (iI mw), .int (iI mc)])), (k_nd, .inl (cI, aI 13 gnd)), (k_na, .inl (cI, aI 5200 gna)), (k_ct, .inl (cI, aI 152971 gct)), (k_cf, .inl (cI, aI 152971 gcf)), (k_rf, .inl (cJ, aL 152971 grf))]) [4, 5, 0, 1, 2, 3] rfl rfl ?_
          refine g_wide (k := 0) (n := 0) (Nat.le_of_ble_eq_true rfl) (Nat.le_of_ble_eq_true rfl) ?_
          exact hret _ _ _ () (by rw [sel_t c1, sel_t (by omega), sel_f (by omega), sel_f (by omega), sel_t (by omega)]) std_M_node_97
        by_cases sw22 : k = 3
        · refine g_tin (tgt := 98) C std_M_node_51 ⟨by omega, by omega⟩ (by omega) (by omega) (by rw [sw22]; rfl) (by decide) ?_
          refine g_aload_n C 1 std_M_node_98 rfl ?_
          refine g_get C (st_sub sti_M) 4 rfl rfl 14 (by decide) (List.mem_cons_of_mem _ kw_3_80) rfl rfl std_M_node_99 ?_
          refine g_iload C 0 std_M_node_102 rfl ?_
          refine g_iald C 1 0 rfl rfl (by omega) (by omega) (by omega) std_M_node_104 ?_
          refine g_sub (ws' := [(m0, .inr (5, [.int (iI 0), .int (iI steps), .ref k_ch, .ref k_co, .ref k_ua, .ref k_ub, .ref k_ba, .int (iI (fle 0)), .int (iI (fle 1)), .int (iI (fmo 0)), .int (iI (fmo 1)), .int (iI (bI HM)), .ref k_rt, .ref k_rf, .ref k_ct, .ref k_cf, .ref k_nd, .ref k_na, .ref k_no, .ref k_bt, .ref k_bc, .ref k_br, .int (iI bg), .int (iI pn), .ref k_pc, .ref k_pr, .ref k_la, .ref k_lb, .ref k_ha, .ref k_hb, .ref k_ls, .ref k_wc, .int (iI wd), .int (iI mg), .int (iI mw), .int (iI mc)])), (k_nd, .inl (cI, aI 13 gnd)), (k_na, .inl (cI, aI 5200 gna)), (k_ct, .inl (cI, aI 152971 gct)), (k_cf, .inl (cI, aI 152971 gcf)), (k_rf, .inl (cJ, aL 152971 grf))]) [4, 5, 0, 1, 2, 3] rfl rfl ?_
          refine g_wide (k := 0) (n := 0) (Nat.le_of_ble_eq_true rfl) (Nat.le_of_ble_eq_true rfl) ?_
          exact hret _ _ _ () (by rw [sel_t c1, sel_t (by omega), sel_f (by omega), sel_f (by omega), sel_f (by omega), sel_t (by omega)]) std_M_node_105
        refine g_tout (tgt := 106) C std_M_node_51 ⟨by omega, by omega⟩ (by omega) (by decide) ?_
        refine g_aload_n C 1 std_M_node_106 rfl ?_
        refine g_get C (st_sub sti_M) 4 rfl rfl 13 (by decide) (List.mem_cons_of_mem _ kw_3_79) rfl rfl std_M_node_107 ?_
        refine g_iload C 0 std_M_node_110 rfl ?_
        refine g_lald C 3 1 rfl rfl (by omega) (by omega) (by omega) std_M_node_112 ?_
        refine g_lconst C (z := 0) std_M_node_113 (by decide) ?_
        refine g_lcmp_ne (tgt := 123) C std_M_node_114 std_M_node_115 (by decide) ⟨by omega, by omega⟩ ⟨by omega, by omega⟩ (fun c23 => ?_) (fun c23 => ?_)
        · refine g_aload_n C 1 std_M_node_123 rfl ?_
          refine g_get C (st_sub sti_M) 4 rfl rfl 15 (by decide) (List.mem_cons_of_mem _ kw_3_81) rfl rfl std_M_node_124 ?_
          refine g_iload C 0 std_M_node_127 rfl ?_
          refine g_iald C 2 0 rfl rfl (by omega) (by omega) (by omega) std_M_node_129 ?_
          refine g_sub (ws' := [(m0, .inr (5, [.int (iI 0), .int (iI steps), .ref k_ch, .ref k_co, .ref k_ua, .ref k_ub, .ref k_ba, .int (iI (fle 0)), .int (iI (fle 1)), .int (iI (fmo 0)), .int (iI (fmo 1)), .int (iI (bI HM)), .ref k_rt, .ref k_rf, .ref k_ct, .ref k_cf, .ref k_nd, .ref k_na, .ref k_no, .ref k_bt, .ref k_bc, .ref k_br, .int (iI bg), .int (iI pn), .ref k_pc, .ref k_pr, .ref k_la, .ref k_lb, .ref k_ha, .ref k_hb, .ref k_ls, .ref k_wc, .int (iI wd), .int (iI mg), .int (iI mw), .int (iI mc)])), (k_nd, .inl (cI, aI 13 gnd)), (k_na, .inl (cI, aI 5200 gna)), (k_ct, .inl (cI, aI 152971 gct)), (k_cf, .inl (cI, aI 152971 gcf)), (k_rf, .inl (cJ, aL 152971 grf))]) [4, 5, 0, 1, 2, 3] rfl rfl ?_
          refine g_wide (k := 0) (n := 0) (Nat.le_of_ble_eq_true rfl) (Nat.le_of_ble_eq_true rfl) ?_
          exact hret _ _ _ () (by rw [sel_t c1, sel_t (by omega), sel_f (by omega), sel_f (by omega), sel_f (by omega), sel_f (by omega), sel_f (by omega)]) std_M_node_130
        · refine g_ldc C (z := (-1000000)) (List.mem_cons_of_mem _ kw_3_234) (by decide) std_M_node_118 ?_
          refine g_goto (tgt := 130) C std_M_node_120 (by decide) ?_
          refine g_sub (ws' := [(m0, .inr (5, [.int (iI 0), .int (iI steps), .ref k_ch, .ref k_co, .ref k_ua, .ref k_ub, .ref k_ba, .int (iI (fle 0)), .int (iI (fle 1)), .int (iI (fmo 0)), .int (iI (fmo 1)), .int (iI (bI HM)), .ref k_rt, .ref k_rf, .ref k_ct, .ref k_cf, .ref k_nd, .ref k_na, .ref k_no, .ref k_bt, .ref k_bc, .ref k_br, .int (iI bg), .int (iI pn), .ref k_pc, .ref k_pr, .ref k_la, .ref k_lb, .ref k_ha, .ref k_hb, .ref k_ls, .ref k_wc, .int (iI wd), .int (iI mg), .int (iI mw), .int (iI mc)])), (k_nd, .inl (cI, aI 13 gnd)), (k_na, .inl (cI, aI 5200 gna)), (k_ct, .inl (cI, aI 152971 gct)), (k_cf, .inl (cI, aI 152971 gcf)), (k_rf, .inl (cJ, aL 152971 grf))]) [4, 5, 0, 1, 2, 3] rfl rfl ?_
          refine g_wide (k := 0) (n := 0) (Nat.le_of_ble_eq_true rfl) (Nat.le_of_ble_eq_true rfl) ?_
          exact hret _ _ _ () (by rw [sel_t c1, sel_t (by omega), sel_f (by omega), sel_f (by omega), sel_f (by omega), sel_f (by omega), sel_t (by omega)]) std_M_node_130
      · refine g_ldc C (z := (-2000000)) (List.mem_cons_of_mem _ kw_3_188) (by decide) std_M_node_33 ?_
        refine g_sub (ws' := [(m0, .inr (5, [.int (iI 0), .int (iI steps), .ref k_ch, .ref k_co, .ref k_ua, .ref k_ub, .ref k_ba, .int (iI (fle 0)), .int (iI (fle 1)), .int (iI (fmo 0)), .int (iI (fmo 1)), .int (iI (bI HM)), .ref k_rt, .ref k_rf, .ref k_ct, .ref k_cf, .ref k_nd, .ref k_na, .ref k_no, .ref k_bt, .ref k_bc, .ref k_br, .int (iI bg), .int (iI pn), .ref k_pc, .ref k_pr, .ref k_la, .ref k_lb, .ref k_ha, .ref k_hb, .ref k_ls, .ref k_wc, .int (iI wd), .int (iI mg), .int (iI mw), .int (iI mc)])), (k_nd, .inl (cI, aI 13 gnd)), (k_na, .inl (cI, aI 5200 gna)), (k_ct, .inl (cI, aI 152971 gct)), (k_cf, .inl (cI, aI 152971 gcf)), (k_rf, .inl (cJ, aL 152971 grf))]) [4, 5, 0, 1, 2, 3] rfl rfl ?_
        refine g_wide (k := 0) (n := 0) (Nat.le_of_ble_eq_true rfl) (Nat.le_of_ble_eq_true rfl) ?_
        exact hret _ _ _ () (by rw [sel_t c1, sel_f (by omega)]) std_M_node_35
  · refine g_ldc C (z := (-4000000)) (List.mem_cons_of_mem _ kw_4_15) (by decide) std_M_node_12 ?_
    exact hret _ _ _ () (by rw [sel_f c1]) std_M_node_14

abbrev sty_M_ways : MethodName := ⟨"StateTablesModel", "ways", "(IIZ)J"⟩
abbrev stc_M_ways : ByteArray := prog_7_method_29_code
theorem sth_M_ways : (sty_M_ways).cls ≠ "java/lang/invoke/MethodHandle" ∧ (sty_M_ways).cls ≠ "java/lang/invoke/VarHandle" ∧ (parseMethodDescriptor (sty_M_ways).desc).map (fun d => d.parameters.length) = some 3 := by decide +kernel
theorem std_M_ways_0 : decode stc_M_ways 0 = .ok (.aload_n 0, 1) := by decide +kernel
theorem std_M_ways_1 : decode stc_M_ways 1 = .ok (.iconst 0, 1) := by decide +kernel
theorem std_M_ways_2 : decode stc_M_ways 2 = .ok (.putfield 1, 3) := by decide +kernel
theorem std_M_ways_5 : decode stc_M_ways 5 = .ok (.aload_n 0, 1) := by decide +kernel
theorem std_M_ways_6 : decode stc_M_ways 6 = .ok (.getfield 96, 3) := by decide +kernel
theorem std_M_ways_9 : decode stc_M_ways 9 = .ok (.ifCond .ne 7, 3) := by decide +kernel
theorem std_M_ways_16 : decode stc_M_ways 16 = .ok (.aload_n 0, 1) := by decide +kernel
theorem std_M_ways_17 : decode stc_M_ways 17 = .ok (.iload_n 1, 1) := by decide +kernel
theorem std_M_ways_18 : decode stc_M_ways 18 = .ok (.iload_n 2, 1) := by decide +kernel
theorem std_M_ways_19 : decode stc_M_ways 19 = .ok (.invokevirtual 167, 3) := by decide +kernel
theorem std_M_ways_22 : decode stc_M_ways 22 = .ok (.ifCond .eq 7, 3) := by decide +kernel
theorem std_M_ways_29 : decode stc_M_ways 29 = .ok (.aload_n 0, 1) := by decide +kernel
theorem std_M_ways_30 : decode stc_M_ways 30 = .ok (.getfield 53, 3) := by decide +kernel
theorem std_M_ways_33 : decode stc_M_ways 33 = .ok (.sipush 400, 3) := by decide +kernel
theorem std_M_ways_36 : decode stc_M_ways 36 = .ok (.iload_n 1, 1) := by decide +kernel
theorem std_M_ways_37 : decode stc_M_ways 37 = .ok (.imul, 1) := by decide +kernel
theorem std_M_ways_38 : decode stc_M_ways 38 = .ok (.iload_n 2, 1) := by decide +kernel
theorem std_M_ways_39 : decode stc_M_ways 39 = .ok (.iadd, 1) := by decide +kernel
theorem std_M_ways_40 : decode stc_M_ways 40 = .ok (.iaload, 1) := by decide +kernel
theorem std_M_ways_41 : decode stc_M_ways 41 = .ok (.istore 4, 2) := by decide +kernel
theorem std_M_ways_43 : decode stc_M_ways 43 = .ok (.iload_n 3, 1) := by decide +kernel
theorem std_M_ways_44 : decode stc_M_ways 44 = .ok (.ifCond .eq 13, 3) := by decide +kernel
theorem std_M_ways_57 : decode stc_M_ways 57 = .ok (.aload_n 0, 1) := by decide +kernel
theorem std_M_ways_58 : decode stc_M_ways 58 = .ok (.getfield 41, 3) := by decide +kernel
theorem std_M_ways_61 : decode stc_M_ways 61 = .ok (.iload 4, 2) := by decide +kernel
theorem std_M_ways_63 : decode stc_M_ways 63 = .ok (.laload, 1) := by decide +kernel
theorem std_M_ways_64 : decode stc_M_ways 64 = .ok (.lreturn, 1) := by decide +kernel
theorem std_M_ways_47 : decode stc_M_ways 47 = .ok (.aload_n 0, 1) := by decide +kernel
theorem std_M_ways_48 : decode stc_M_ways 48 = .ok (.getfield 37, 3) := by decide +kernel
theorem std_M_ways_51 : decode stc_M_ways 51 = .ok (.iload 4, 2) := by decide +kernel
theorem std_M_ways_53 : decode stc_M_ways 53 = .ok (.laload, 1) := by decide +kernel
theorem std_M_ways_54 : decode stc_M_ways 54 = .ok (.goto 10, 3) := by decide +kernel
theorem std_M_ways_25 : decode stc_M_ways 25 = .ok (.ldc2_w 170, 3) := by decide +kernel
theorem kw_4_46 : Cond.constantLong "StateTablesModel" 170 (-2000000) ∈ stGW := st_t4 (List.mem_of_getElem? (i := 46) (by decide +kernel)) (by decide +kernel)
theorem std_M_ways_28 : decode stc_M_ways 28 = .ok (.lreturn, 1) := by decide +kernel
theorem std_M_ways_12 : decode stc_M_ways 12 = .ok (.ldc2_w 163, 3) := by decide +kernel
theorem std_M_ways_15 : decode stc_M_ways 15 = .ok (.lreturn, 1) := by decide +kernel
set_option maxHeartbeats 4000000 in
set_option maxRecDepth 100000 in
theorem c_m_ways (l : Launch) (dC : Nat → ClassId) (dI : Nat → Nat → Nat) (cI cJ cZ : ClassId) (m0 : Nat) (k_ch : Nat) (k_co : Nat) (k_ua : Nat) (k_ub : Nat) (k_ba : Nat) (k_rt : Nat) (k_rf : Nat) (k_ct : Nat) (k_cf : Nat) (k_nd : Nat) (k_na : Nat) (k_no : Nat) (k_bt : Nat) (k_bc : Nat) (k_br : Nat) (k_pc : Nat) (k_pr : Nat) (k_la : Nat) (k_lb : Nat) (k_ha : Nat) (k_hb : Nat) (k_ls : Nat) (k_wc : Nat) (HM : Prop) (bg : Int) (pn : Int) (wd : Int) (mg : Int) (mw : Int) (mc : Int) (steps : Int) (fle : Int → Int) (fmo : Int → Int) (gnd : Int → Int) (gna : Int → Int) (gct : Int → Int) (grt : Int → Int) (grf : Int → Int) (a : Int) (b : Int) (v : Prop) (kst : 0 ≤ steps ∧ steps ≤ 12) (kgH : HM → ∀ j, 0 ≤ j → j ≤ steps → 0 ≤ gnd j ∧ gnd j ≤ 400) (kN : HM → ∀ d i, 0 ≤ d → d ≤ steps → 0 ≤ i → i < gnd d → (0 ≤ gna (400 * d + i) ∧ gna (400 * d + i) < 152971) ∧ rL (grf (gna (400 * d + i))) ∧ (-100000 ≤ gct (gna (400 * d + i)) ∧ gct (gna (400 * d + i)) ≤ 100000)) (ka : rI a) (kb : rI b) : ∀ sz, Met l sty_M_ways (Cond.code sty_M_ways stc_M_ways 5 (some .long) :: stGW) ({ frames := 2, cells := 0, slots := 0, locals := 44 } : Room) (va_Pc [.ref m0, .int (iI a), .int (iI b), .int (iI (bI v))] (zPre (dC, dI) stCl [(cI, .int), (cJ, .long), (cZ, .boolean)] st_nw [(m0, .inr (5, [.int (iI 0), .int (iI steps), .ref k_ch, .ref k_co, .ref k_ua, .ref k_ub, .ref k_ba, .int (iI (fle 0)), .int (iI (fle 1)), .int (iI (fmo 0)), .int (iI (fmo 1)), .int (iI (bI HM)), .ref k_rt, .ref k_rf, .ref k_ct, .ref k_cf, .ref k_nd, .ref k_na, .ref k_no, .ref k_bt, .ref k_bc, .ref k_br, .int (iI bg), .int (iI pn), .ref k_pc, .ref k_pr, .ref k_la, .ref k_lb, .ref k_ha, .ref k_hb, .ref k_ls, .ref k_wc, .int (iI wd), .int (iI mg), .int (iI mw), .int (iI mc)])), (k_nd, .inl (cI, aI 13 gnd)), (k_na, .inl (cI, aI 5200 gna)), (k_rt, .inl (cJ, aL 152971 grt)), (k_rf, .inl (cJ, aL 152971 grf))] sz)) (va_Ql (fun (r : Int64) (_ : Unit) => r = lI (sel HM (sel ((0 ≤ a ∧ a ≤ steps) ∧ 0 ≤ b ∧ b ≤ (gnd a) - 1) (sel v (grt (gna ((400 * a) + b))) (grf (gna ((400 * a) + b)))) (-2000000)) (-4000000))) (zPost (dC, dI) stCl [(cI, .int), (cJ, .long), (cZ, .boolean)] [(m0, .inr (5, [.int (iI 0), .int (iI steps), .ref k_ch, .ref k_co, .ref k_ua, .ref k_ub, .ref k_ba, .int (iI (fle 0)), .int (iI (fle 1)), .int (iI (fmo 0)), .int (iI (fmo 1)), .int (iI (bI HM)), .ref k_rt, .ref k_rf, .ref k_ct, .ref k_cf, .ref k_nd, .ref k_na, .ref k_no, .ref k_bt, .ref k_bc, .ref k_br, .int (iI bg), .int (iI pn), .ref k_pc, .ref k_pr, .ref k_la, .ref k_lb, .ref k_ha, .ref k_hb, .ref k_ls, .ref k_wc, .int (iI wd), .int (iI mg), .int (iI mw), .int (iI mc)])), (k_nd, .inl (cI, aI 13 gnd)), (k_na, .inl (cI, aI 5200 gna)), (k_rt, .inl (cJ, aL 152971 grt)), (k_rf, .inl (cJ, aL 152971 grf))] sz (fun _ : Unit => [(m0, .inr (5, [.int (iI 0), .int (iI steps), .ref k_ch, .ref k_co, .ref k_ua, .ref k_ub, .ref k_ba, .int (iI (fle 0)), .int (iI (fle 1)), .int (iI (fmo 0)), .int (iI (fmo 1)), .int (iI (bI HM)), .ref k_rt, .ref k_rf, .ref k_ct, .ref k_cf, .ref k_nd, .ref k_na, .ref k_no, .ref k_bt, .ref k_bc, .ref k_br, .int (iI bg), .int (iI pn), .ref k_pc, .ref k_pr, .ref k_la, .ref k_lb, .ref k_ha, .ref k_hb, .ref k_ls, .ref k_wc, .int (iI wd), .int (iI mg), .int (iI mw), .int (iI mc)])), (k_nd, .inl (cI, aI 13 gnd)), (k_na, .inl (cI, aI 5200 gna)), (k_rt, .inl (cJ, aL 152971 grt)), (k_rf, .inl (cJ, aL 152971 grf))])) (va_A [(m0, .inr (5, [.int (iI 0), .int (iI steps), .ref k_ch, .ref k_co, .ref k_ua, .ref k_ub, .ref k_ba, .int (iI (fle 0)), .int (iI (fle 1)), .int (iI (fmo 0)), .int (iI (fmo 1)), .int (iI (bI HM)), .ref k_rt, .ref k_rf, .ref k_ct, .ref k_cf, .ref k_nd, .ref k_na, .ref k_no, .ref k_bt, .ref k_bc, .ref k_br, .int (iI bg), .int (iI pn), .ref k_pc, .ref k_pr, .ref k_la, .ref k_lb, .ref k_ha, .ref k_hb, .ref k_ls, .ref k_wc, .int (iI wd), .int (iI mg), .int (iI mw), .int (iI mc)])), (k_nd, .inl (cI, aI 13 gnd)), (k_na, .inl (cI, aI 5200 gna)), (k_rt, .inl (cJ, aL 152971 grt)), (k_rf, .inl (cJ, aL 152971 grf))] sz)) 0 0 (va_A [(m0, .inr (5, [.int (iI 0), .int (iI steps), .ref k_ch, .ref k_co, .ref k_ua, .ref k_ub, .ref k_ba, .int (iI (fle 0)), .int (iI (fle 1)), .int (iI (fmo 0)), .int (iI (fmo 1)), .int (iI (bI HM)), .ref k_rt, .ref k_rf, .ref k_ct, .ref k_cf, .ref k_nd, .ref k_na, .ref k_no, .ref k_bt, .ref k_bc, .ref k_br, .int (iI bg), .int (iI pn), .ref k_pc, .ref k_pr, .ref k_la, .ref k_lb, .ref k_ha, .ref k_hb, .ref k_ls, .ref k_wc, .int (iI wd), .int (iI mg), .int (iI mw), .int (iI mc)])), (k_nd, .inl (cI, aI 13 gnd)), (k_na, .inl (cI, aI 5200 gna)), (k_rt, .inl (cJ, aL 152971 grt)), (k_rf, .inl (cJ, aL 152971 grf))] sz) := by
  refine met_l (by decide) rfl (Nat.le_of_ble_eq_true rfl) ?_
  intro p e s m below meth c A Q C hmn hret
  refine g_aload_n C 0 std_M_ways_0 rfl ?_
  refine g_iconst C std_M_ways_1 ?_
  refine g_put C (ws' := [(m0, .inr (5, [.int (iI 0), .int (iI steps), .ref k_ch, .ref k_co, .ref k_ua, .ref k_ub, .ref k_ba, .int (iI (fle 0)), .int (iI (fle 1)), .int (iI (fmo 0)), .int (iI (fmo 1)), .int (iI (bI HM)), .ref k_rt, .ref k_rf, .ref k_ct, .ref k_cf, .ref k_nd, .ref k_na, .ref k_no, .ref k_bt, .ref k_bc, .ref k_br, .int (iI bg), .int (iI pn), .ref k_pc, .ref k_pr, .ref k_la, .ref k_lb, .ref k_ha, .ref k_hb, .ref k_ls, .ref k_wc, .int (iI wd), .int (iI mg), .int (iI mw), .int (iI mc)])), (k_nd, .inl (cI, aI 13 gnd)), (k_na, .inl (cI, aI 5200 gna)), (k_rt, .inl (cJ, aL 152971 grt)), (k_rf, .inl (cJ, aL 152971 grf))]) (st_sub sti_M) stt_M sto_M stn_M 0 rfl rfl 0 (by decide) (List.mem_cons_of_mem _ kw_3_66) rfl rfl rfl rfl (Nat.le_of_ble_eq_true rfl) std_M_ways_2 rfl ?_
  refine g_aload_n C 0 std_M_ways_5 rfl ?_
  refine g_get C (st_sub sti_M) 0 rfl rfl 11 (by decide) (List.mem_cons_of_mem _ kw_3_77) rfl rfl std_M_ways_6 ?_
  refine g_ifne_b (tgt := 16) C std_M_ways_9 (by decide) (fun c1 => ?_) (fun c1 => ?_)
  · refine g_aload_n C 0 std_M_ways_16 rfl ?_
    refine g_iload_n C 1 std_M_ways_17 rfl ?_
    refine g_iload_n C 2 std_M_ways_18 rfl ?_
    refine g_V_i (wc := [(m0, .inr (5, [.int (iI 0), .int (iI steps), .ref k_ch, .ref k_co, .ref k_ua, .ref k_ub, .ref k_ba, .int (iI (fle 0)), .int (iI (fle 1)), .int (iI (fmo 0)), .int (iI (fmo 1)), .int (iI (bI HM)), .ref k_rt, .ref k_rf, .ref k_ct, .ref k_cf, .ref k_nd, .ref k_na, .ref k_no, .ref k_bt, .ref k_bc, .ref k_br, .int (iI bg), .int (iI pn), .ref k_pc, .ref k_pr, .ref k_la, .ref k_lb, .ref k_ha, .ref k_hb, .ref k_ls, .ref k_wc, .int (iI wd), .int (iI mg), .int (iI mw), .int (iI mc)])), (k_nd, .inl (cI, aI 13 gnd))]) (wr := [(k_na, .inl (cI, aI 5200 gna)), (k_rt, .inl (cJ, aL 152971 grt)), (k_rf, .inl (cJ, aL 152971 grf))]) (rest := []) C (c_m_noNode l dC dI cI cJ cZ m0 k_ch k_co k_ua k_ub k_ba k_rt k_rf k_ct k_cf k_nd k_na k_no k_bt k_bc k_br k_pc k_pr k_la k_lb k_ha k_hb k_ls k_wc HM bg pn wd mg mw mc steps fle fmo gnd a b (kst) (kgH c1) (by unfold rI at *; omega) (by unfold rI at *; omega)) (st_cV C kw_4_41 kw_4_38 kw_1_6 kw_4_40 kw_0_26 sth_M_noNode ⟨Nat.le_of_ble_eq_true rfl, Nat.le_of_ble_eq_true rfl⟩) 0 rfl rfl rfl rfl (Nat.le_of_ble_eq_true rfl) std_M_ways_19 ⟨Nat.le_of_ble_eq_true rfl, Nat.le_of_ble_eq_true rfl⟩ [0, 1] [2, 3, 4] rfl rfl rfl rfl (by decide) (fun r2 u3 h4 => ?_)
    subst h4
    refine g_ws (ws' := [(k_na, .inl (cI, aI 5200 gna)), (k_rt, .inl (cJ, aL 152971 grt)), (k_rf, .inl (cJ, aL 152971 grf)), (m0, .inr (5, [.int (iI 0), .int (iI steps), .ref k_ch, .ref k_co, .ref k_ua, .ref k_ub, .ref k_ba, .int (iI (fle 0)), .int (iI (fle 1)), .int (iI (fmo 0)), .int (iI (fmo 1)), .int (iI (bI HM)), .ref k_rt, .ref k_rf, .ref k_ct, .ref k_cf, .ref k_nd, .ref k_na, .ref k_no, .ref k_bt, .ref k_bc, .ref k_br, .int (iI bg), .int (iI pn), .ref k_pc, .ref k_pr, .ref k_la, .ref k_lb, .ref k_ha, .ref k_hb, .ref k_ls, .ref k_wc, .int (iI wd), .int (iI mg), .int (iI mw), .int (iI mc)])), (k_nd, .inl (cI, aI 13 gnd))]) rfl ?_
    refine g_ifeq_b (tgt := 29) C std_M_ways_22 (by decide) (fun c5 => ?_) (fun c5 => ?_)
    · have hq := kN c1 a b (by omega) (by omega) (by omega) (by omega)
      have hgq := kgH c1 a (by omega) (by omega)
      refine g_aload_n C 0 std_M_ways_29 rfl ?_
      refine g_get C (st_sub sti_M) 3 rfl rfl 17 (by decide) (List.mem_cons_of_mem _ kw_3_83) rfl rfl std_M_ways_30 ?_
      refine g_sipush C std_M_ways_33 (by decide) ?_
      refine g_iload_n C 1 std_M_ways_36 rfl ?_
      refine g_imul C std_M_ways_37 ?_
      refine g_iload_n C 2 std_M_ways_38 rfl ?_
      refine g_iadd C std_M_ways_39 ?_
      refine g_iald C 0 0 rfl rfl (by omega) (by omega) (by omega) std_M_ways_40 ?_
      refine g_istore C (lv' := [(4, .int (iI (gna ((400 * a) + b)))), (0, .ref m0), (1, .int (iI a)), (2, .int (iI b)), (3, .int (iI (bI v)))]) std_M_ways_41 (by decide) rfl ?_
      refine g_iload_n C 4 std_M_ways_43 rfl ?_
      refine g_ifeq_b (tgt := 57) C std_M_ways_44 (by decide) (fun c6 => ?_) (fun c6 => ?_)
      · refine g_aload_n C 1 std_M_ways_57 rfl ?_
        refine g_get C (st_sub sti_M) 3 rfl rfl 13 (by decide) (List.mem_cons_of_mem _ kw_3_79) rfl rfl std_M_ways_58 ?_
        refine g_iload C 0 std_M_ways_61 rfl ?_
        refine g_lald C 2 1 rfl rfl (by omega) (by omega) (by omega) std_M_ways_63 ?_
        refine g_sub (ws' := [(m0, .inr (5, [.int (iI 0), .int (iI steps), .ref k_ch, .ref k_co, .ref k_ua, .ref k_ub, .ref k_ba, .int (iI (fle 0)), .int (iI (fle 1)), .int (iI (fmo 0)), .int (iI (fmo 1)), .int (iI (bI HM)), .ref k_rt, .ref k_rf, .ref k_ct, .ref k_cf, .ref k_nd, .ref k_na, .ref k_no, .ref k_bt, .ref k_bc, .ref k_br, .int (iI bg), .int (iI pn), .ref k_pc, .ref k_pr, .ref k_la, .ref k_lb, .ref k_ha, .ref k_hb, .ref k_ls, .ref k_wc, .int (iI wd), .int (iI mg), .int (iI mw), .int (iI mc)])), (k_nd, .inl (cI, aI 13 gnd)), (k_na, .inl (cI, aI 5200 gna)), (k_rt, .inl (cJ, aL 152971 grt)), (k_rf, .inl (cJ, aL 152971 grf))]) [3, 4, 0, 1, 2] rfl rfl ?_
        refine g_wide (k := 0) (n := 0) (Nat.le_of_ble_eq_true rfl) (Nat.le_of_ble_eq_true rfl) ?_
        exact hret _ _ _ () (by rw [sel_t c1, sel_t (by omega), sel_f c6]) std_M_ways_64
      · refine g_aload_n C 1 std_M_ways_47 rfl ?_
        refine g_get C (st_sub sti_M) 3 rfl rfl 12 (by decide) (List.mem_cons_of_mem _ kw_3_78) rfl rfl std_M_ways_48 ?_
        refine g_iload C 0 std_M_ways_51 rfl ?_
        refine g_lald C 1 1 rfl rfl (by omega) (by omega) (by omega) std_M_ways_53 ?_
        refine g_goto (tgt := 64) C std_M_ways_54 (by decide) ?_
        refine g_sub (ws' := [(m0, .inr (5, [.int (iI 0), .int (iI steps), .ref k_ch, .ref k_co, .ref k_ua, .ref k_ub, .ref k_ba, .int (iI (fle 0)), .int (iI (fle 1)), .int (iI (fmo 0)), .int (iI (fmo 1)), .int (iI (bI HM)), .ref k_rt, .ref k_rf, .ref k_ct, .ref k_cf, .ref k_nd, .ref k_na, .ref k_no, .ref k_bt, .ref k_bc, .ref k_br, .int (iI bg), .int (iI pn), .ref k_pc, .ref k_pr, .ref k_la, .ref k_lb, .ref k_ha, .ref k_hb, .ref k_ls, .ref k_wc, .int (iI wd), .int (iI mg), .int (iI mw), .int (iI mc)])), (k_nd, .inl (cI, aI 13 gnd)), (k_na, .inl (cI, aI 5200 gna)), (k_rt, .inl (cJ, aL 152971 grt)), (k_rf, .inl (cJ, aL 152971 grf))]) [3, 4, 0, 1, 2] rfl rfl ?_
        refine g_wide (k := 0) (n := 0) (Nat.le_of_ble_eq_true rfl) (Nat.le_of_ble_eq_true rfl) ?_
        exact hret _ _ _ () (by rw [sel_t c1, sel_t (by omega), sel_t c6]) std_M_ways_64
    · refine g_ldc2 C (z := (-2000000)) (List.mem_cons_of_mem _ kw_4_46) (by decide) std_M_ways_25 ?_
      refine g_sub (ws' := [(m0, .inr (5, [.int (iI 0), .int (iI steps), .ref k_ch, .ref k_co, .ref k_ua, .ref k_ub, .ref k_ba, .int (iI (fle 0)), .int (iI (fle 1)), .int (iI (fmo 0)), .int (iI (fmo 1)), .int (iI (bI HM)), .ref k_rt, .ref k_rf, .ref k_ct, .ref k_cf, .ref k_nd, .ref k_na, .ref k_no, .ref k_bt, .ref k_bc, .ref k_br, .int (iI bg), .int (iI pn), .ref k_pc, .ref k_pr, .ref k_la, .ref k_lb, .ref k_ha, .ref k_hb, .ref k_ls, .ref k_wc, .int (iI wd), .int (iI mg), .int (iI mw), .int (iI mc)])), (k_nd, .inl (cI, aI 13 gnd)), (k_na, .inl (cI, aI 5200 gna)), (k_rt, .inl (cJ, aL 152971 grt)), (k_rf, .inl (cJ, aL 152971 grf))]) [3, 4, 0, 1, 2] rfl rfl ?_
      refine g_wide (k := 0) (n := 0) (Nat.le_of_ble_eq_true rfl) (Nat.le_of_ble_eq_true rfl) ?_
      exact hret _ _ _ () (by rw [sel_t c1, sel_f (by omega)]) std_M_ways_28
  · refine g_ldc2 C (z := (-4000000)) (List.mem_cons_of_mem _ kw_4_20) (by decide) std_M_ways_12 ?_
    exact hret _ _ _ () (by rw [sel_f c1]) std_M_ways_15

abbrev sty_M_count : MethodName := ⟨"StateTablesModel", "count", "(I)I"⟩
abbrev stc_M_count : ByteArray := prog_7_method_42_code
theorem sth_M_count : (sty_M_count).cls ≠ "java/lang/invoke/MethodHandle" ∧ (sty_M_count).cls ≠ "java/lang/invoke/VarHandle" ∧ (parseMethodDescriptor (sty_M_count).desc).map (fun d => d.parameters.length) = some 1 := by decide +kernel
theorem std_M_count_0 : decode stc_M_count 0 = .ok (.aload_n 0, 1) := by decide +kernel
theorem std_M_count_1 : decode stc_M_count 1 = .ok (.iconst 0, 1) := by decide +kernel
theorem std_M_count_2 : decode stc_M_count 2 = .ok (.putfield 1, 3) := by decide +kernel
theorem std_M_count_5 : decode stc_M_count 5 = .ok (.iconst 0, 1) := by decide +kernel
theorem std_M_count_6 : decode stc_M_count 6 = .ok (.istore_n 2, 1) := by decide +kernel
theorem std_M_count_7 : decode stc_M_count 7 = .ok (.iload_n 1, 1) := by decide +kernel
theorem std_M_count_8 : decode stc_M_count 8 = .ok (.tableswitch 111 0 3 #[32, 37, 64, 98], 32) := by decide +kernel
theorem std_M_count_40 : decode stc_M_count 40 = .ok (.aload_n 0, 1) := by decide +kernel
theorem std_M_count_41 : decode stc_M_count 41 = .ok (.getfield 92, 3) := by decide +kernel
theorem std_M_count_44 : decode stc_M_count 44 = .ok (.ireturn, 1) := by decide +kernel
theorem std_M_count_45 : decode stc_M_count 45 = .ok (.iconst 0, 1) := by decide +kernel
theorem std_M_count_46 : decode stc_M_count 46 = .ok (.istore_n 3, 1) := by decide +kernel
theorem std_M_count_47 : decode stc_M_count 47 = .ok (.iload_n 3, 1) := by decide +kernel
theorem std_M_count_48 : decode stc_M_count 48 = .ok (.aload_n 0, 1) := by decide +kernel
theorem std_M_count_49 : decode stc_M_count 49 = .ok (.getfield 92, 3) := by decide +kernel
theorem std_M_count_52 : decode stc_M_count 52 = .ok (.if_icmp .ge 18, 3) := by decide +kernel
theorem std_M_count_70 : decode stc_M_count 70 = .ok (.iload_n 2, 1) := by decide +kernel
theorem std_M_count_71 : decode stc_M_count 71 = .ok (.ireturn, 1) := by decide +kernel
theorem std_M_count_55 : decode stc_M_count 55 = .ok (.iload_n 2, 1) := by decide +kernel
theorem std_M_count_56 : decode stc_M_count 56 = .ok (.aload_n 0, 1) := by decide +kernel
theorem std_M_count_57 : decode stc_M_count 57 = .ok (.getfield 13, 3) := by decide +kernel
theorem std_M_count_60 : decode stc_M_count 60 = .ok (.iload_n 3, 1) := by decide +kernel
theorem std_M_count_61 : decode stc_M_count 61 = .ok (.iaload, 1) := by decide +kernel
theorem std_M_count_62 : decode stc_M_count 62 = .ok (.iadd, 1) := by decide +kernel
theorem std_M_count_63 : decode stc_M_count 63 = .ok (.istore_n 2, 1) := by decide +kernel
theorem std_M_count_64 : decode stc_M_count 64 = .ok (.iinc 3 1, 3) := by decide +kernel
theorem std_M_count_67 : decode stc_M_count 67 = .ok (.goto (-20), 3) := by decide +kernel
theorem std_M_count_72 : decode stc_M_count 72 = .ok (.iconst 0, 1) := by decide +kernel
theorem std_M_count_73 : decode stc_M_count 73 = .ok (.istore_n 3, 1) := by decide +kernel
theorem std_M_count_74 : decode stc_M_count 74 = .ok (.iload_n 3, 1) := by decide +kernel
theorem std_M_count_75 : decode stc_M_count 75 = .ok (.sipush 468, 3) := by decide +kernel
theorem std_M_count_78 : decode stc_M_count 78 = .ok (.if_icmp .ge 26, 3) := by decide +kernel
theorem std_M_count_104 : decode stc_M_count 104 = .ok (.iload_n 2, 1) := by decide +kernel
theorem std_M_count_105 : decode stc_M_count 105 = .ok (.ireturn, 1) := by decide +kernel
theorem std_M_count_81 : decode stc_M_count 81 = .ok (.aload_n 0, 1) := by decide +kernel
theorem std_M_count_82 : decode stc_M_count 82 = .ok (.getfield 26, 3) := by decide +kernel
theorem std_M_count_85 : decode stc_M_count 85 = .ok (.iload_n 3, 1) := by decide +kernel
theorem std_M_count_86 : decode stc_M_count 86 = .ok (.baload, 1) := by decide +kernel
theorem std_M_count_87 : decode stc_M_count 87 = .ok (.ifCond .eq 9, 3) := by decide +kernel
theorem std_M_count_96 : decode stc_M_count 96 = .ok (.iload_n 2, 1) := by decide +kernel
theorem std_M_count_97 : decode stc_M_count 97 = .ok (.istore_n 2, 1) := by decide +kernel
theorem std_M_count_98 : decode stc_M_count 98 = .ok (.iinc 3 1, 3) := by decide +kernel
theorem std_M_count_101 : decode stc_M_count 101 = .ok (.goto (-27), 3) := by decide +kernel
theorem std_M_count_90 : decode stc_M_count 90 = .ok (.iload_n 2, 1) := by decide +kernel
theorem std_M_count_91 : decode stc_M_count 91 = .ok (.iconst 1, 1) := by decide +kernel
theorem std_M_count_92 : decode stc_M_count 92 = .ok (.iadd, 1) := by decide +kernel
theorem std_M_count_93 : decode stc_M_count 93 = .ok (.goto 4, 3) := by decide +kernel
theorem std_M_count_106 : decode stc_M_count 106 = .ok (.aload_n 0, 1) := by decide +kernel
theorem std_M_count_107 : decode stc_M_count 107 = .ok (.getfield 96, 3) := by decide +kernel
theorem std_M_count_110 : decode stc_M_count 110 = .ok (.ifCond .eq 7, 3) := by decide +kernel
theorem std_M_count_117 : decode stc_M_count 117 = .ok (.iconst 0, 1) := by decide +kernel
theorem std_M_count_118 : decode stc_M_count 118 = .ok (.ireturn, 1) := by decide +kernel
theorem std_M_count_113 : decode stc_M_count 113 = .ok (.iconst 1, 1) := by decide +kernel
theorem std_M_count_114 : decode stc_M_count 114 = .ok (.goto 4, 3) := by decide +kernel
theorem std_M_count_119 : decode stc_M_count 119 = .ok (.ldc 104, 2) := by decide +kernel
theorem std_M_count_121 : decode stc_M_count 121 = .ok (.ireturn, 1) := by decide +kernel
set_option maxHeartbeats 4000000 in
set_option maxRecDepth 100000 in
theorem c_m_count (l : Launch) (dC : Nat → ClassId) (dI : Nat → Nat → Nat) (cI cJ cZ : ClassId) (m0 : Nat) (k_ch : Nat) (k_co : Nat) (k_ua : Nat) (k_ub : Nat) (k_ba : Nat) (k_rt : Nat) (k_rf : Nat) (k_ct : Nat) (k_cf : Nat) (k_nd : Nat) (k_na : Nat) (k_no : Nat) (k_bt : Nat) (k_bc : Nat) (k_br : Nat) (k_pc : Nat) (k_pr : Nat) (k_la : Nat) (k_lb : Nat) (k_ha : Nat) (k_hb : Nat) (k_ls : Nat) (k_wc : Nat) (HM : Prop) (bg : Int) (pn : Int) (wd : Int) (mg : Int) (mw : Int) (mc : Int) (steps : Int) (fle : Int → Int) (fmo : Int → Int) (fsz : Int → Int) (fba : Int → Int) (k : Int) (kk : rI k) (kst : 0 ≤ steps ∧ steps ≤ 12) (kba : ∀ j, fba j = 0 ∨ fba j = 1) : ∀ sz, Met l sty_M_count (Cond.code sty_M_count stc_M_count 4 (some .int) :: stGW) ({ frames := 0, cells := 0, slots := 0, locals := 0 } : Room) (va_Pc [.ref m0, .int (iI k)] (zPre (dC, dI) stCl [(cI, .int), (cJ, .long), (cZ, .boolean)] st_nw [(m0, .inr (5, [.int (iI 0), .int (iI steps), .ref k_ch, .ref k_co, .ref k_ua, .ref k_ub, .ref k_ba, .int (iI (fle 0)), .int (iI (fle 1)), .int (iI (fmo 0)), .int (iI (fmo 1)), .int (iI (bI HM)), .ref k_rt, .ref k_rf, .ref k_ct, .ref k_cf, .ref k_nd, .ref k_na, .ref k_no, .ref k_bt, .ref k_bc, .ref k_br, .int (iI bg), .int (iI pn), .ref k_pc, .ref k_pr, .ref k_la, .ref k_lb, .ref k_ha, .ref k_hb, .ref k_ls, .ref k_wc, .int (iI wd), .int (iI mg), .int (iI mw), .int (iI mc)])), (k_ch, .inl (cI, aI 13 fsz)), (k_ba, .inl (cZ, aI 468 fba))] sz)) (va_Qi (fun (r : Int32) (_ : Unit) => r = iI (sel (k = 0) steps (sel (k = 1) (sumR fsz 0 steps.toNat) (sel (k = 2) (sumR fba 0 468) (sel (k = 3) (bI HM) (-2000000)))))) (zPost (dC, dI) stCl [(cI, .int), (cJ, .long), (cZ, .boolean)] [(m0, .inr (5, [.int (iI 0), .int (iI steps), .ref k_ch, .ref k_co, .ref k_ua, .ref k_ub, .ref k_ba, .int (iI (fle 0)), .int (iI (fle 1)), .int (iI (fmo 0)), .int (iI (fmo 1)), .int (iI (bI HM)), .ref k_rt, .ref k_rf, .ref k_ct, .ref k_cf, .ref k_nd, .ref k_na, .ref k_no, .ref k_bt, .ref k_bc, .ref k_br, .int (iI bg), .int (iI pn), .ref k_pc, .ref k_pr, .ref k_la, .ref k_lb, .ref k_ha, .ref k_hb, .ref k_ls, .ref k_wc, .int (iI wd), .int (iI mg), .int (iI mw), .int (iI mc)])), (k_ch, .inl (cI, aI 13 fsz)), (k_ba, .inl (cZ, aI 468 fba))] sz (fun _ : Unit => [(m0, .inr (5, [.int (iI 0), .int (iI steps), .ref k_ch, .ref k_co, .ref k_ua, .ref k_ub, .ref k_ba, .int (iI (fle 0)), .int (iI (fle 1)), .int (iI (fmo 0)), .int (iI (fmo 1)), .int (iI (bI HM)), .ref k_rt, .ref k_rf, .ref k_ct, .ref k_cf, .ref k_nd, .ref k_na, .ref k_no, .ref k_bt, .ref k_bc, .ref k_br, .int (iI bg), .int (iI pn), .ref k_pc, .ref k_pr, .ref k_la, .ref k_lb, .ref k_ha, .ref k_hb, .ref k_ls, .ref k_wc, .int (iI wd), .int (iI mg), .int (iI mw), .int (iI mc)])), (k_ch, .inl (cI, aI 13 fsz)), (k_ba, .inl (cZ, aI 468 fba))])) (va_A [(m0, .inr (5, [.int (iI 0), .int (iI steps), .ref k_ch, .ref k_co, .ref k_ua, .ref k_ub, .ref k_ba, .int (iI (fle 0)), .int (iI (fle 1)), .int (iI (fmo 0)), .int (iI (fmo 1)), .int (iI (bI HM)), .ref k_rt, .ref k_rf, .ref k_ct, .ref k_cf, .ref k_nd, .ref k_na, .ref k_no, .ref k_bt, .ref k_bc, .ref k_br, .int (iI bg), .int (iI pn), .ref k_pc, .ref k_pr, .ref k_la, .ref k_lb, .ref k_ha, .ref k_hb, .ref k_ls, .ref k_wc, .int (iI wd), .int (iI mg), .int (iI mw), .int (iI mc)])), (k_ch, .inl (cI, aI 13 fsz)), (k_ba, .inl (cZ, aI 468 fba))] sz)) 0 0 (va_A [(m0, .inr (5, [.int (iI 0), .int (iI steps), .ref k_ch, .ref k_co, .ref k_ua, .ref k_ub, .ref k_ba, .int (iI (fle 0)), .int (iI (fle 1)), .int (iI (fmo 0)), .int (iI (fmo 1)), .int (iI (bI HM)), .ref k_rt, .ref k_rf, .ref k_ct, .ref k_cf, .ref k_nd, .ref k_na, .ref k_no, .ref k_bt, .ref k_bc, .ref k_br, .int (iI bg), .int (iI pn), .ref k_pc, .ref k_pr, .ref k_la, .ref k_lb, .ref k_ha, .ref k_hb, .ref k_ls, .ref k_wc, .int (iI wd), .int (iI mg), .int (iI mw), .int (iI mc)])), (k_ch, .inl (cI, aI 13 fsz)), (k_ba, .inl (cZ, aI 468 fba))] sz) := by
  refine met_i (by decide) rfl (Nat.le_of_ble_eq_true rfl) ?_
  intro p e s m below meth c A Q C hmn hret
  refine g_aload_n C 0 std_M_count_0 rfl ?_
  refine g_iconst C std_M_count_1 ?_
  refine g_put C (ws' := [(m0, .inr (5, [.int (iI 0), .int (iI steps), .ref k_ch, .ref k_co, .ref k_ua, .ref k_ub, .ref k_ba, .int (iI (fle 0)), .int (iI (fle 1)), .int (iI (fmo 0)), .int (iI (fmo 1)), .int (iI (bI HM)), .ref k_rt, .ref k_rf, .ref k_ct, .ref k_cf, .ref k_nd, .ref k_na, .ref k_no, .ref k_bt, .ref k_bc, .ref k_br, .int (iI bg), .int (iI pn), .ref k_pc, .ref k_pr, .ref k_la, .ref k_lb, .ref k_ha, .ref k_hb, .ref k_ls, .ref k_wc, .int (iI wd), .int (iI mg), .int (iI mw), .int (iI mc)])), (k_ch, .inl (cI, aI 13 fsz)), (k_ba, .inl (cZ, aI 468 fba))]) (st_sub sti_M) stt_M sto_M stn_M 0 rfl rfl 0 (by decide) (List.mem_cons_of_mem _ kw_3_66) rfl rfl rfl rfl (Nat.le_of_ble_eq_true rfl) std_M_count_2 rfl ?_
  refine g_iconst C std_M_count_5 ?_
  refine g_istore_n C (lv' := [(2, .int (iI 0)), (0, .ref m0), (1, .int (iI k))]) std_M_count_6 (by decide) rfl ?_
  refine g_iload_n C 2 std_M_count_7 rfl ?_
  by_cases sw1 : k = 0
  · refine g_tin (tgt := 40) C std_M_count_8 ⟨by omega, by omega⟩ (by omega) (by omega) (by rw [sw1]; rfl) (by decide) ?_
    refine g_aload_n C 1 std_M_count_40 rfl ?_
    refine g_get C (st_sub sti_M) 0 rfl rfl 1 (by decide) (List.mem_cons_of_mem _ kw_3_67) rfl rfl std_M_count_41 ?_
    exact hret _ _ _ () (by rw [sel_t (by omega)]) std_M_count_44
  by_cases sw2 : k = 1
  · refine g_tin (tgt := 45) C std_M_count_8 ⟨by omega, by omega⟩ (by omega) (by omega) (by rw [sw2]; rfl) (by decide) ?_
    refine g_iconst C std_M_count_45 ?_
    refine g_istore_n C (lv' := [(3, .int (iI 0)), (2, .int (iI 0)), (0, .ref m0), (1, .int (iI k))]) std_M_count_46 (by decide) rfl ?_
    have L47 : ∀ (nn47 : Nat) (x : Int) (z : Int), (0 ≤ x ∧ x ≤ steps) → (z = sumR fsz 0 x.toNat) → (steps - x) < (nn47 : Int) → G p l e ({ frames := 0, cells := 0, slots := 0, locals := 0 } : Room) s m ([.ref m0, .int (iI k)] : List Value).toArray below meth c (dC, dI) stCl 4 A 0 0 Q [(m0, .inr (5, [.int (iI 0), .int (iI steps), .ref k_ch, .ref k_co, .ref k_ua, .ref k_ub, .ref k_ba, .int (iI (fle 0)), .int (iI (fle 1)), .int (iI (fmo 0)), .int (iI (fmo 1)), .int (iI (bI HM)), .ref k_rt, .ref k_rf, .ref k_ct, .ref k_cf, .ref k_nd, .ref k_na, .ref k_no, .ref k_bt, .ref k_bc, .ref k_br, .int (iI bg), .int (iI pn), .ref k_pc, .ref k_pr, .ref k_la, .ref k_lb, .ref k_ha, .ref k_hb, .ref k_ls, .ref k_wc, .int (iI wd), .int (iI mg), .int (iI mw), .int (iI mc)])), (k_ch, .inl (cI, aI 13 fsz)), (k_ba, .inl (cZ, aI 468 fba))] 47 [(3, .int (iI x)), (2, .int (iI z)), (1, .int (iI k)), (0, .ref m0)] [] := by
      intro nn47
      induction nn47 with
      | zero =>
        intro x z kx kz hnn47
        exact absurd hnn47 (by omega)
      | succ nn47 ih47 =>
        intro x z kx kz hnn47
        refine g_iload_n C 0 std_M_count_47 rfl ?_
        refine g_aload_n C 3 std_M_count_48 rfl ?_
        refine g_get C (st_sub sti_M) 0 rfl rfl 1 (by decide) (List.mem_cons_of_mem _ kw_3_67) rfl rfl std_M_count_49 ?_
        refine g_icmp_ge (tgt := 70) C std_M_count_52 (by decide) ⟨by omega, by omega⟩ ⟨by omega, by omega⟩ (fun c3 => ?_) (fun c3 => ?_)
        · refine g_iload_n C 1 std_M_count_70 rfl ?_
          exact hret _ _ _ () (by rw [sel_f (by omega), sel_t (by omega), kz, show x = steps by omega]) std_M_count_71
        · refine g_iload_n C 1 std_M_count_55 rfl ?_
          refine g_aload_n C 3 std_M_count_56 rfl ?_
          refine g_get C (st_sub sti_M) 0 rfl rfl 2 (by decide) (List.mem_cons_of_mem _ kw_3_68) rfl rfl std_M_count_57 ?_
          refine g_iload_n C 0 std_M_count_60 rfl ?_
          refine g_iald C 1 0 rfl rfl (by omega) (by omega) (by omega) std_M_count_61 ?_
          refine g_iadd C std_M_count_62 ?_
          refine g_istore_n C (lv' := [(2, .int (iI (z + (fsz x)))), (3, .int (iI x)), (1, .int (iI k)), (0, .ref m0)]) std_M_count_63 (by decide) rfl ?_
          refine g_iinc C (lv' := [(3, .int (iI (x + 1))), (2, .int (iI (z + (fsz x)))), (1, .int (iI k)), (0, .ref m0)]) 1 std_M_count_64 rfl (by decide) rfl ?_
          refine g_goto (tgt := 47) C std_M_count_67 (by decide) ?_
          exact ih47 (x + 1) (z + (fsz x)) (by omega) (by rw [sum_s (by omega), kz]) (by omega)
    refine g_lv (lv' := [(3, .int (iI 0)), (2, .int (iI 0)), (1, .int (iI k)), (0, .ref m0)]) [0, 1, 3, 2] rfl ?_
    obtain ⟨nn0, hnn0⟩ : ∃ nn0 : Nat, (steps - 0) < (nn0 : Int) := z_nat _
    exact L47 nn0 0 0 (by omega) (rfl) hnn0
  by_cases sw4 : k = 2
  · refine g_tin (tgt := 72) C std_M_count_8 ⟨by omega, by omega⟩ (by omega) (by omega) (by rw [sw4]; rfl) (by decide) ?_
    refine g_iconst C std_M_count_72 ?_
    refine g_istore_n C (lv' := [(3, .int (iI 0)), (2, .int (iI 0)), (0, .ref m0), (1, .int (iI k))]) std_M_count_73 (by decide) rfl ?_
    have L74 : ∀ (nn74 : Nat) (x : Int) (z : Int), (0 ≤ x ∧ x ≤ 468) → (z = sumR fba 0 x.toNat) → (468 - x) < (nn74 : Int) → G p l e ({ frames := 0, cells := 0, slots := 0, locals := 0 } : Room) s m ([.ref m0, .int (iI k)] : List Value).toArray below meth c (dC, dI) stCl 4 A 0 0 Q [(m0, .inr (5, [.int (iI 0), .int (iI steps), .ref k_ch, .ref k_co, .ref k_ua, .ref k_ub, .ref k_ba, .int (iI (fle 0)), .int (iI (fle 1)), .int (iI (fmo 0)), .int (iI (fmo 1)), .int (iI (bI HM)), .ref k_rt, .ref k_rf, .ref k_ct, .ref k_cf, .ref k_nd, .ref k_na, .ref k_no, .ref k_bt, .ref k_bc, .ref k_br, .int (iI bg), .int (iI pn), .ref k_pc, .ref k_pr, .ref k_la, .ref k_lb, .ref k_ha, .ref k_hb, .ref k_ls, .ref k_wc, .int (iI wd), .int (iI mg), .int (iI mw), .int (iI mc)])), (k_ch, .inl (cI, aI 13 fsz)), (k_ba, .inl (cZ, aI 468 fba))] 74 [(3, .int (iI x)), (2, .int (iI z)), (1, .int (iI k)), (0, .ref m0)] [] := by
      intro nn74
      induction nn74 with
      | zero =>
        intro x z kx kz hnn74
        exact absurd hnn74 (by omega)
      | succ nn74 ih74 =>
        intro x z kx kz hnn74
        refine g_iload_n C 0 std_M_count_74 rfl ?_
        refine g_sipush C std_M_count_75 (by decide) ?_
        refine g_icmp_ge (tgt := 104) C std_M_count_78 (by decide) ⟨by omega, by omega⟩ ⟨by omega, by omega⟩ (fun c5 => ?_) (fun c5 => ?_)
        · refine g_iload_n C 1 std_M_count_104 rfl ?_
          exact hret _ _ _ () (by rw [sel_f (by omega), sel_f (by omega), sel_t (by omega), kz, show x = 468 by omega]; rfl) std_M_count_105
        · have hb01 := kba x
          refine g_aload_n C 3 std_M_count_81 rfl ?_
          refine g_get C (st_sub sti_M) 0 rfl rfl 6 (by decide) (List.mem_cons_of_mem _ kw_3_72) rfl rfl std_M_count_82 ?_
          refine g_iload_n C 0 std_M_count_85 rfl ?_
          refine g_zald C 2 2 rfl rfl (by omega) (by omega) (by omega) std_M_count_86 ?_
          refine g_if_eq (tgt := 96) C std_M_count_87 (by decide) ⟨by omega, by omega⟩ (fun c6 => ?_) (fun c6 => ?_)
          · refine g_iload_n C 1 std_M_count_96 rfl ?_
            refine g_istore_n C (lv' := [(2, .int (iI z)), (3, .int (iI x)), (1, .int (iI k)), (0, .ref m0)]) std_M_count_97 (by decide) rfl ?_
            refine g_iinc C (lv' := [(3, .int (iI (x + 1))), (2, .int (iI z)), (1, .int (iI k)), (0, .ref m0)]) 1 std_M_count_98 rfl (by decide) rfl ?_
            refine g_goto (tgt := 74) C std_M_count_101 (by decide) ?_
            exact ih74 (x + 1) z (by omega) (by rw [sum_s (by omega), kz]; omega) (by omega)
          · refine g_iload_n C 1 std_M_count_90 rfl ?_
            refine g_iconst C std_M_count_91 ?_
            refine g_iadd C std_M_count_92 ?_
            refine g_goto (tgt := 97) C std_M_count_93 (by decide) ?_
            refine g_istore_n C (lv' := [(2, .int (iI (z + 1))), (3, .int (iI x)), (1, .int (iI k)), (0, .ref m0)]) std_M_count_97 (by decide) rfl ?_
            refine g_iinc C (lv' := [(3, .int (iI (x + 1))), (2, .int (iI (z + 1))), (1, .int (iI k)), (0, .ref m0)]) 1 std_M_count_98 rfl (by decide) rfl ?_
            refine g_goto (tgt := 74) C std_M_count_101 (by decide) ?_
            exact ih74 (x + 1) (z + 1) (by omega) (by rw [sum_s (by omega), kz]; omega) (by omega)
    refine g_lv (lv' := [(3, .int (iI 0)), (2, .int (iI 0)), (1, .int (iI k)), (0, .ref m0)]) [0, 1, 3, 2] rfl ?_
    obtain ⟨nn0, hnn0⟩ : ∃ nn0 : Nat, (468 - 0) < (nn0 : Int) := z_nat _
    exact L74 nn0 0 0 (by omega) (rfl) hnn0
  by_cases sw7 : k = 3
  · refine g_tin (tgt := 106) C std_M_count_8 ⟨by omega, by omega⟩ (by omega) (by omega) (by rw [sw7]; rfl) (by decide) ?_
    refine g_aload_n C 1 std_M_count_106 rfl ?_
    refine g_get C (st_sub sti_M) 0 rfl rfl 11 (by decide) (List.mem_cons_of_mem _ kw_3_77) rfl rfl std_M_count_107 ?_
    refine g_ifeq_b (tgt := 117) C std_M_count_110 (by decide) (fun c8 => ?_) (fun c8 => ?_)
    · refine g_iconst C std_M_count_117 ?_
      exact hret _ _ _ () (by rw [sel_f (by omega), sel_f (by omega), sel_f (by omega), sel_t (by omega), bI_f c8]) std_M_count_118
    · refine g_iconst C std_M_count_113 ?_
      refine g_goto (tgt := 118) C std_M_count_114 (by decide) ?_
      exact hret _ _ _ () (by rw [sel_f (by omega), sel_f (by omega), sel_f (by omega), sel_t (by omega), bI_t c8]) std_M_count_118
  refine g_tout (tgt := 119) C std_M_count_8 ⟨by omega, by omega⟩ (by omega) (by decide) ?_
  refine g_ldc C (z := (-2000000)) (List.mem_cons_of_mem _ kw_3_188) (by decide) std_M_count_119 ?_
  exact hret _ _ _ () (by rw [sel_f (by omega), sel_f (by omega), sel_f (by omega), sel_f (by omega)]) std_M_count_121

abbrev sty_M_narrowed : MethodName := ⟨"StateTablesModel", "narrowed", "(I)I"⟩
abbrev stc_M_narrowed : ByteArray := prog_7_method_41_code
theorem sth_M_narrowed : (sty_M_narrowed).cls ≠ "java/lang/invoke/MethodHandle" ∧ (sty_M_narrowed).cls ≠ "java/lang/invoke/VarHandle" ∧ (parseMethodDescriptor (sty_M_narrowed).desc).map (fun d => d.parameters.length) = some 1 := by decide +kernel
theorem std_M_narrowed_0 : decode stc_M_narrowed 0 = .ok (.aload_n 0, 1) := by decide +kernel
theorem std_M_narrowed_1 : decode stc_M_narrowed 1 = .ok (.iconst 0, 1) := by decide +kernel
theorem std_M_narrowed_2 : decode stc_M_narrowed 2 = .ok (.putfield 1, 3) := by decide +kernel
theorem std_M_narrowed_5 : decode stc_M_narrowed 5 = .ok (.iload_n 1, 1) := by decide +kernel
theorem std_M_narrowed_6 : decode stc_M_narrowed 6 = .ok (.ifCond .ne 10, 3) := by decide +kernel
theorem std_M_narrowed_16 : decode stc_M_narrowed 16 = .ok (.iload_n 1, 1) := by decide +kernel
theorem std_M_narrowed_17 : decode stc_M_narrowed 17 = .ok (.iconst 1, 1) := by decide +kernel
theorem std_M_narrowed_18 : decode stc_M_narrowed 18 = .ok (.if_icmp .ne 10, 3) := by decide +kernel
theorem std_M_narrowed_28 : decode stc_M_narrowed 28 = .ok (.iload_n 1, 1) := by decide +kernel
theorem std_M_narrowed_29 : decode stc_M_narrowed 29 = .ok (.iconst 2, 1) := by decide +kernel
theorem std_M_narrowed_30 : decode stc_M_narrowed 30 = .ok (.if_icmp .ne 10, 3) := by decide +kernel
theorem std_M_narrowed_40 : decode stc_M_narrowed 40 = .ok (.ldc 104, 2) := by decide +kernel
theorem std_M_narrowed_42 : decode stc_M_narrowed 42 = .ok (.ireturn, 1) := by decide +kernel
theorem std_M_narrowed_33 : decode stc_M_narrowed 33 = .ok (.aload_n 0, 1) := by decide +kernel
theorem std_M_narrowed_34 : decode stc_M_narrowed 34 = .ok (.getfield 191, 3) := by decide +kernel
theorem kw_3_101 : Cond.fieldLink "StateTablesModel" 191 "StateTablesModel" "wideLayers" "I" ∈ stGW := st_t3 (List.mem_of_getElem? (i := 101) (by decide +kernel)) (by decide +kernel)
theorem std_M_narrowed_37 : decode stc_M_narrowed 37 = .ok (.goto 5, 3) := by decide +kernel
theorem std_M_narrowed_21 : decode stc_M_narrowed 21 = .ok (.aload_n 0, 1) := by decide +kernel
theorem std_M_narrowed_22 : decode stc_M_narrowed 22 = .ok (.getfield 194, 3) := by decide +kernel
theorem kw_3_100 : Cond.fieldLink "StateTablesModel" 194 "StateTablesModel" "widest" "I" ∈ stGW := st_t3 (List.mem_of_getElem? (i := 100) (by decide +kernel)) (by decide +kernel)
theorem std_M_narrowed_25 : decode stc_M_narrowed 25 = .ok (.goto 17, 3) := by decide +kernel
theorem std_M_narrowed_9 : decode stc_M_narrowed 9 = .ok (.aload_n 0, 1) := by decide +kernel
theorem std_M_narrowed_10 : decode stc_M_narrowed 10 = .ok (.getfield 188, 3) := by decide +kernel
theorem kw_3_99 : Cond.fieldLink "StateTablesModel" 188 "StateTablesModel" "merged" "I" ∈ stGW := st_t3 (List.mem_of_getElem? (i := 99) (by decide +kernel)) (by decide +kernel)
theorem std_M_narrowed_13 : decode stc_M_narrowed 13 = .ok (.goto 29, 3) := by decide +kernel
set_option maxHeartbeats 4000000 in
set_option maxRecDepth 100000 in
theorem c_m_narrowed (l : Launch) (dC : Nat → ClassId) (dI : Nat → Nat → Nat) (cI cJ cZ : ClassId) (m0 : Nat) (k_ch : Nat) (k_co : Nat) (k_ua : Nat) (k_ub : Nat) (k_ba : Nat) (k_rt : Nat) (k_rf : Nat) (k_ct : Nat) (k_cf : Nat) (k_nd : Nat) (k_na : Nat) (k_no : Nat) (k_bt : Nat) (k_bc : Nat) (k_br : Nat) (k_pc : Nat) (k_pr : Nat) (k_la : Nat) (k_lb : Nat) (k_ha : Nat) (k_hb : Nat) (k_ls : Nat) (k_wc : Nat) (HM : Prop) (bg : Int) (pn : Int) (wd : Int) (mg : Int) (mw : Int) (mc : Int) (steps : Int) (fle : Int → Int) (fmo : Int → Int) (k : Int) (kk : rI k) : ∀ sz, Met l sty_M_narrowed (Cond.code sty_M_narrowed stc_M_narrowed 2 (some .int) :: stGW) ({ frames := 0, cells := 0, slots := 0, locals := 0 } : Room) (va_Pc [.ref m0, .int (iI k)] (zPre (dC, dI) stCl [(cI, .int), (cJ, .long), (cZ, .boolean)] st_nw [(m0, .inr (5, [.int (iI 0), .int (iI steps), .ref k_ch, .ref k_co, .ref k_ua, .ref k_ub, .ref k_ba, .int (iI (fle 0)), .int (iI (fle 1)), .int (iI (fmo 0)), .int (iI (fmo 1)), .int (iI (bI HM)), .ref k_rt, .ref k_rf, .ref k_ct, .ref k_cf, .ref k_nd, .ref k_na, .ref k_no, .ref k_bt, .ref k_bc, .ref k_br, .int (iI bg), .int (iI pn), .ref k_pc, .ref k_pr, .ref k_la, .ref k_lb, .ref k_ha, .ref k_hb, .ref k_ls, .ref k_wc, .int (iI wd), .int (iI mg), .int (iI mw), .int (iI mc)]))] sz)) (va_Qi (fun (r : Int32) (_ : Unit) => r = iI (sel (k = 0) mg (sel (k = 1) mw (sel (k = 2) mc (-2000000))))) (zPost (dC, dI) stCl [(cI, .int), (cJ, .long), (cZ, .boolean)] [(m0, .inr (5, [.int (iI 0), .int (iI steps), .ref k_ch, .ref k_co, .ref k_ua, .ref k_ub, .ref k_ba, .int (iI (fle 0)), .int (iI (fle 1)), .int (iI (fmo 0)), .int (iI (fmo 1)), .int (iI (bI HM)), .ref k_rt, .ref k_rf, .ref k_ct, .ref k_cf, .ref k_nd, .ref k_na, .ref k_no, .ref k_bt, .ref k_bc, .ref k_br, .int (iI bg), .int (iI pn), .ref k_pc, .ref k_pr, .ref k_la, .ref k_lb, .ref k_ha, .ref k_hb, .ref k_ls, .ref k_wc, .int (iI wd), .int (iI mg), .int (iI mw), .int (iI mc)]))] sz (fun _ : Unit => [(m0, .inr (5, [.int (iI 0), .int (iI steps), .ref k_ch, .ref k_co, .ref k_ua, .ref k_ub, .ref k_ba, .int (iI (fle 0)), .int (iI (fle 1)), .int (iI (fmo 0)), .int (iI (fmo 1)), .int (iI (bI HM)), .ref k_rt, .ref k_rf, .ref k_ct, .ref k_cf, .ref k_nd, .ref k_na, .ref k_no, .ref k_bt, .ref k_bc, .ref k_br, .int (iI bg), .int (iI pn), .ref k_pc, .ref k_pr, .ref k_la, .ref k_lb, .ref k_ha, .ref k_hb, .ref k_ls, .ref k_wc, .int (iI wd), .int (iI mg), .int (iI mw), .int (iI mc)]))])) (va_A [(m0, .inr (5, [.int (iI 0), .int (iI steps), .ref k_ch, .ref k_co, .ref k_ua, .ref k_ub, .ref k_ba, .int (iI (fle 0)), .int (iI (fle 1)), .int (iI (fmo 0)), .int (iI (fmo 1)), .int (iI (bI HM)), .ref k_rt, .ref k_rf, .ref k_ct, .ref k_cf, .ref k_nd, .ref k_na, .ref k_no, .ref k_bt, .ref k_bc, .ref k_br, .int (iI bg), .int (iI pn), .ref k_pc, .ref k_pr, .ref k_la, .ref k_lb, .ref k_ha, .ref k_hb, .ref k_ls, .ref k_wc, .int (iI wd), .int (iI mg), .int (iI mw), .int (iI mc)]))] sz)) 0 0 (va_A [(m0, .inr (5, [.int (iI 0), .int (iI steps), .ref k_ch, .ref k_co, .ref k_ua, .ref k_ub, .ref k_ba, .int (iI (fle 0)), .int (iI (fle 1)), .int (iI (fmo 0)), .int (iI (fmo 1)), .int (iI (bI HM)), .ref k_rt, .ref k_rf, .ref k_ct, .ref k_cf, .ref k_nd, .ref k_na, .ref k_no, .ref k_bt, .ref k_bc, .ref k_br, .int (iI bg), .int (iI pn), .ref k_pc, .ref k_pr, .ref k_la, .ref k_lb, .ref k_ha, .ref k_hb, .ref k_ls, .ref k_wc, .int (iI wd), .int (iI mg), .int (iI mw), .int (iI mc)]))] sz) := by
  refine met_i (by decide) rfl (Nat.le_of_ble_eq_true rfl) ?_
  intro p e s m below meth c A Q C hmn hret
  refine g_aload_n C 0 std_M_narrowed_0 rfl ?_
  refine g_iconst C std_M_narrowed_1 ?_
  refine g_put C (ws' := [(m0, .inr (5, [.int (iI 0), .int (iI steps), .ref k_ch, .ref k_co, .ref k_ua, .ref k_ub, .ref k_ba, .int (iI (fle 0)), .int (iI (fle 1)), .int (iI (fmo 0)), .int (iI (fmo 1)), .int (iI (bI HM)), .ref k_rt, .ref k_rf, .ref k_ct, .ref k_cf, .ref k_nd, .ref k_na, .ref k_no, .ref k_bt, .ref k_bc, .ref k_br, .int (iI bg), .int (iI pn), .ref k_pc, .ref k_pr, .ref k_la, .ref k_lb, .ref k_ha, .ref k_hb, .ref k_ls, .ref k_wc, .int (iI wd), .int (iI mg), .int (iI mw), .int (iI mc)]))]) (st_sub sti_M) stt_M sto_M stn_M 0 rfl rfl 0 (by decide) (List.mem_cons_of_mem _ kw_3_66) rfl rfl rfl rfl (Nat.le_of_ble_eq_true rfl) std_M_narrowed_2 rfl ?_
  refine g_iload_n C 1 std_M_narrowed_5 rfl ?_
  refine g_if_ne (tgt := 16) C std_M_narrowed_6 (by decide) ⟨by omega, by omega⟩ (fun c1 => ?_) (fun c1 => ?_)
  · refine g_iload_n C 1 std_M_narrowed_16 rfl ?_
    refine g_iconst C std_M_narrowed_17 ?_
    refine g_icmp_ne (tgt := 28) C std_M_narrowed_18 (by decide) ⟨by omega, by omega⟩ ⟨by omega, by omega⟩ (fun c2 => ?_) (fun c2 => ?_)
    · refine g_iload_n C 1 std_M_narrowed_28 rfl ?_
      refine g_iconst C std_M_narrowed_29 ?_
      refine g_icmp_ne (tgt := 40) C std_M_narrowed_30 (by decide) ⟨by omega, by omega⟩ ⟨by omega, by omega⟩ (fun c3 => ?_) (fun c3 => ?_)
      · refine g_ldc C (z := (-2000000)) (List.mem_cons_of_mem _ kw_3_188) (by decide) std_M_narrowed_40 ?_
        exact hret _ _ _ () (by rw [sel_f (by omega), sel_f (by omega), sel_f (by omega)]) std_M_narrowed_42
      · refine g_aload_n C 0 std_M_narrowed_33 rfl ?_
        refine g_get C (st_sub sti_M) 0 rfl rfl 35 (by decide) (List.mem_cons_of_mem _ kw_3_101) rfl rfl std_M_narrowed_34 ?_
        refine g_goto (tgt := 42) C std_M_narrowed_37 (by decide) ?_
        exact hret _ _ _ () (by rw [sel_f (by omega), sel_f (by omega), sel_t (by omega)]) std_M_narrowed_42
    · refine g_aload_n C 0 std_M_narrowed_21 rfl ?_
      refine g_get C (st_sub sti_M) 0 rfl rfl 34 (by decide) (List.mem_cons_of_mem _ kw_3_100) rfl rfl std_M_narrowed_22 ?_
      refine g_goto (tgt := 42) C std_M_narrowed_25 (by decide) ?_
      exact hret _ _ _ () (by rw [sel_f (by omega), sel_t (by omega)]) std_M_narrowed_42
  · refine g_aload_n C 0 std_M_narrowed_9 rfl ?_
    refine g_get C (st_sub sti_M) 0 rfl rfl 33 (by decide) (List.mem_cons_of_mem _ kw_3_99) rfl rfl std_M_narrowed_10 ?_
    refine g_goto (tgt := 42) C std_M_narrowed_13 (by decide) ?_
    exact hret _ _ _ () (by rw [sel_t (by omega)]) std_M_narrowed_42

