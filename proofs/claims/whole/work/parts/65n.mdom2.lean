/-! the model: dominated, leads -/
abbrev sty_M_dominated : MethodName := ⟨"StateTablesModel", "dominated", "(II)I"⟩
abbrev stc_M_dominated : ByteArray := prog_7_method_31_code
theorem sth_M_dominated : (sty_M_dominated).cls ≠ "java/lang/invoke/MethodHandle" ∧ (sty_M_dominated).cls ≠ "java/lang/invoke/VarHandle" ∧ (parseMethodDescriptor (sty_M_dominated).desc).map (fun d => d.parameters.length) = some 2 := by decide +kernel
theorem std_M_dominated_0 : decode stc_M_dominated 0 = .ok (.aload_n 0, 1) := by decide +kernel
theorem std_M_dominated_1 : decode stc_M_dominated 1 = .ok (.iconst 0, 1) := by decide +kernel
theorem std_M_dominated_2 : decode stc_M_dominated 2 = .ok (.putfield 1, 3) := by decide +kernel
theorem std_M_dominated_5 : decode stc_M_dominated 5 = .ok (.aload_n 0, 1) := by decide +kernel
theorem std_M_dominated_6 : decode stc_M_dominated 6 = .ok (.getfield 96, 3) := by decide +kernel
theorem std_M_dominated_9 : decode stc_M_dominated 9 = .ok (.ifCond .ne 6, 3) := by decide +kernel
theorem std_M_dominated_15 : decode stc_M_dominated 15 = .ok (.aload_n 0, 1) := by decide +kernel
theorem std_M_dominated_16 : decode stc_M_dominated 16 = .ok (.iload_n 1, 1) := by decide +kernel
theorem std_M_dominated_17 : decode stc_M_dominated 17 = .ok (.iload_n 2, 1) := by decide +kernel
theorem std_M_dominated_18 : decode stc_M_dominated 18 = .ok (.invokevirtual 167, 3) := by decide +kernel
theorem std_M_dominated_21 : decode stc_M_dominated 21 = .ok (.ifCond .eq 6, 3) := by decide +kernel
theorem std_M_dominated_27 : decode stc_M_dominated 27 = .ok (.iconst 0, 1) := by decide +kernel
theorem std_M_dominated_28 : decode stc_M_dominated 28 = .ok (.istore_n 3, 1) := by decide +kernel
theorem std_M_dominated_29 : decode stc_M_dominated 29 = .ok (.iload_n 3, 1) := by decide +kernel
theorem std_M_dominated_30 : decode stc_M_dominated 30 = .ok (.aload_n 0, 1) := by decide +kernel
theorem std_M_dominated_31 : decode stc_M_dominated 31 = .ok (.getfield 50, 3) := by decide +kernel
theorem std_M_dominated_34 : decode stc_M_dominated 34 = .ok (.iload_n 1, 1) := by decide +kernel
theorem std_M_dominated_35 : decode stc_M_dominated 35 = .ok (.iaload, 1) := by decide +kernel
theorem std_M_dominated_36 : decode stc_M_dominated 36 = .ok (.if_icmp .ge 42, 3) := by decide +kernel
theorem std_M_dominated_78 : decode stc_M_dominated 78 = .ok (.ldc 129, 2) := by decide +kernel
theorem std_M_dominated_80 : decode stc_M_dominated 80 = .ok (.ireturn, 1) := by decide +kernel
theorem std_M_dominated_39 : decode stc_M_dominated 39 = .ok (.aload_n 0, 1) := by decide +kernel
theorem std_M_dominated_40 : decode stc_M_dominated 40 = .ok (.aload_n 0, 1) := by decide +kernel
theorem std_M_dominated_41 : decode stc_M_dominated 41 = .ok (.getfield 53, 3) := by decide +kernel
theorem std_M_dominated_44 : decode stc_M_dominated 44 = .ok (.sipush 400, 3) := by decide +kernel
theorem std_M_dominated_47 : decode stc_M_dominated 47 = .ok (.iload_n 1, 1) := by decide +kernel
theorem std_M_dominated_48 : decode stc_M_dominated 48 = .ok (.imul, 1) := by decide +kernel
theorem std_M_dominated_49 : decode stc_M_dominated 49 = .ok (.iload_n 3, 1) := by decide +kernel
theorem std_M_dominated_50 : decode stc_M_dominated 50 = .ok (.iadd, 1) := by decide +kernel
theorem std_M_dominated_51 : decode stc_M_dominated 51 = .ok (.iaload, 1) := by decide +kernel
theorem std_M_dominated_52 : decode stc_M_dominated 52 = .ok (.aload_n 0, 1) := by decide +kernel
theorem std_M_dominated_53 : decode stc_M_dominated 53 = .ok (.getfield 53, 3) := by decide +kernel
theorem std_M_dominated_56 : decode stc_M_dominated 56 = .ok (.sipush 400, 3) := by decide +kernel
theorem std_M_dominated_59 : decode stc_M_dominated 59 = .ok (.iload_n 1, 1) := by decide +kernel
theorem std_M_dominated_60 : decode stc_M_dominated 60 = .ok (.imul, 1) := by decide +kernel
theorem std_M_dominated_61 : decode stc_M_dominated 61 = .ok (.iload_n 2, 1) := by decide +kernel
theorem std_M_dominated_62 : decode stc_M_dominated 62 = .ok (.iadd, 1) := by decide +kernel
theorem std_M_dominated_63 : decode stc_M_dominated 63 = .ok (.iaload, 1) := by decide +kernel
theorem std_M_dominated_64 : decode stc_M_dominated 64 = .ok (.invokevirtual 172, 3) := by decide +kernel
theorem kw_4_54 : Cond.code sty_M_dominates stc_M_dominates 5 (some .boolean) ∈ stGW := st_t4 (List.mem_of_getElem? (i := 54) (by decide +kernel)) (by decide +kernel)
theorem kw_4_51 : Cond.methodLink "StateTablesModel" 172 (sty_M_dominates) ∈ stGW := st_t4 (List.mem_of_getElem? (i := 51) (by decide +kernel)) (by decide +kernel)
theorem kw_4_53 : Cond.instanceMethod (sty_M_dominates) ∈ stGW := st_t4 (List.mem_of_getElem? (i := 53) (by decide +kernel)) (by decide +kernel)
theorem kw_0_27 : Cond.selects "StateTablesModel" (sty_M_dominates) (sty_M_dominates) ∈ stGW := st_t0 (List.mem_of_getElem? (i := 27) (by decide +kernel)) (by decide +kernel)
theorem std_M_dominated_67 : decode stc_M_dominated 67 = .ok (.ifCond .eq 5, 3) := by decide +kernel
theorem std_M_dominated_72 : decode stc_M_dominated 72 = .ok (.iinc 3 1, 3) := by decide +kernel
theorem std_M_dominated_75 : decode stc_M_dominated 75 = .ok (.goto (-46), 3) := by decide +kernel
theorem std_M_dominated_70 : decode stc_M_dominated 70 = .ok (.iload_n 3, 1) := by decide +kernel
theorem std_M_dominated_71 : decode stc_M_dominated 71 = .ok (.ireturn, 1) := by decide +kernel
theorem std_M_dominated_24 : decode stc_M_dominated 24 = .ok (.ldc 104, 2) := by decide +kernel
theorem std_M_dominated_26 : decode stc_M_dominated 26 = .ok (.ireturn, 1) := by decide +kernel
theorem std_M_dominated_12 : decode stc_M_dominated 12 = .ok (.ldc 162, 2) := by decide +kernel
theorem std_M_dominated_14 : decode stc_M_dominated 14 = .ok (.ireturn, 1) := by decide +kernel
set_option maxHeartbeats 4000000 in
set_option maxRecDepth 100000 in
theorem c_m_dominated (l : Launch) (dC : Nat → ClassId) (dI : Nat → Nat → Nat) (cI cJ cZ : ClassId) (m0 : Nat) (k_ch : Nat) (k_co : Nat) (k_ua : Nat) (k_ub : Nat) (k_ba : Nat) (k_rt : Nat) (k_rf : Nat) (k_ct : Nat) (k_cf : Nat) (k_nd : Nat) (k_na : Nat) (k_no : Nat) (k_bt : Nat) (k_bc : Nat) (k_br : Nat) (k_pc : Nat) (k_pr : Nat) (k_la : Nat) (k_lb : Nat) (k_ha : Nat) (k_hb : Nat) (k_ls : Nat) (k_wc : Nat) (HM : Prop) (bg : Int) (pn : Int) (wd : Int) (mg : Int) (mw : Int) (mc : Int) (steps : Int) (fle : Int → Int) (fmo : Int → Int) (gnd : Int → Int) (gna : Int → Int) (gct : Int → Int) (grf : Int → Int) (a : Int) (b : Int) (kst : 0 ≤ steps ∧ steps ≤ 12) (kgH : HM → ∀ j, 0 ≤ j → j ≤ steps → 0 ≤ gnd j ∧ gnd j ≤ 400) (kN : HM → ∀ d i, 0 ≤ d → d ≤ steps → 0 ≤ i → i < gnd d → (0 ≤ gna (400 * d + i) ∧ gna (400 * d + i) < 152971) ∧ rL (grf (gna (400 * d + i))) ∧ (-100000 ≤ gct (gna (400 * d + i)) ∧ gct (gna (400 * d + i)) ≤ 100000)) (ka : rI a) (kb : rI b) (kle : ∀ j, 0 ≤ j → j < 2 → 0 ≤ fle j ∧ fle j ≤ 40) : ∀ sz, Met l sty_M_dominated (Cond.code sty_M_dominated stc_M_dominated 4 (some .int) :: stGW) ({ frames := 2, cells := 0, slots := 0, locals := 44 } : Room) (va_Pc [.ref m0, .int (iI a), .int (iI b)] (zPre (dC, dI) stCl [(cI, .int), (cJ, .long), (cZ, .boolean)] st_nw [(m0, .inr (5, [.int (iI 0), .int (iI steps), .ref k_ch, .ref k_co, .ref k_ua, .ref k_ub, .ref k_ba, .int (iI (fle 0)), .int (iI (fle 1)), .int (iI (fmo 0)), .int (iI (fmo 1)), .int (iI (bI HM)), .ref k_rt, .ref k_rf, .ref k_ct, .ref k_cf, .ref k_nd, .ref k_na, .ref k_no, .ref k_bt, .ref k_bc, .ref k_br, .int (iI bg), .int (iI pn), .ref k_pc, .ref k_pr, .ref k_la, .ref k_lb, .ref k_ha, .ref k_hb, .ref k_ls, .ref k_wc, .int (iI wd), .int (iI mg), .int (iI mw), .int (iI mc)])), (k_nd, .inl (cI, aI 13 gnd)), (k_na, .inl (cI, aI 5200 gna)), (k_ct, .inl (cI, aI 152971 gct))] sz)) (va_Qi (fun (r : Int32) (z : Int) => r = iI (sel HM (sel ((0 ≤ a ∧ a ≤ steps) ∧ 0 ≤ b ∧ b ≤ (gnd a) - 1) z (-2000000)) (-4000000)) ∧ (HM → ((0 ≤ a ∧ a ≤ steps) ∧ 0 ≤ b ∧ b ≤ (gnd a) - 1) → MDp fle gct (fun i => gna (400 * a + i)) (gnd a) b z)) (zPost (dC, dI) stCl [(cI, .int), (cJ, .long), (cZ, .boolean)] [(m0, .inr (5, [.int (iI 0), .int (iI steps), .ref k_ch, .ref k_co, .ref k_ua, .ref k_ub, .ref k_ba, .int (iI (fle 0)), .int (iI (fle 1)), .int (iI (fmo 0)), .int (iI (fmo 1)), .int (iI (bI HM)), .ref k_rt, .ref k_rf, .ref k_ct, .ref k_cf, .ref k_nd, .ref k_na, .ref k_no, .ref k_bt, .ref k_bc, .ref k_br, .int (iI bg), .int (iI pn), .ref k_pc, .ref k_pr, .ref k_la, .ref k_lb, .ref k_ha, .ref k_hb, .ref k_ls, .ref k_wc, .int (iI wd), .int (iI mg), .int (iI mw), .int (iI mc)])), (k_nd, .inl (cI, aI 13 gnd)), (k_na, .inl (cI, aI 5200 gna)), (k_ct, .inl (cI, aI 152971 gct))] sz (fun _ : Int => [(m0, .inr (5, [.int (iI 0), .int (iI steps), .ref k_ch, .ref k_co, .ref k_ua, .ref k_ub, .ref k_ba, .int (iI (fle 0)), .int (iI (fle 1)), .int (iI (fmo 0)), .int (iI (fmo 1)), .int (iI (bI HM)), .ref k_rt, .ref k_rf, .ref k_ct, .ref k_cf, .ref k_nd, .ref k_na, .ref k_no, .ref k_bt, .ref k_bc, .ref k_br, .int (iI bg), .int (iI pn), .ref k_pc, .ref k_pr, .ref k_la, .ref k_lb, .ref k_ha, .ref k_hb, .ref k_ls, .ref k_wc, .int (iI wd), .int (iI mg), .int (iI mw), .int (iI mc)])), (k_nd, .inl (cI, aI 13 gnd)), (k_na, .inl (cI, aI 5200 gna)), (k_ct, .inl (cI, aI 152971 gct))])) (va_A [(m0, .inr (5, [.int (iI 0), .int (iI steps), .ref k_ch, .ref k_co, .ref k_ua, .ref k_ub, .ref k_ba, .int (iI (fle 0)), .int (iI (fle 1)), .int (iI (fmo 0)), .int (iI (fmo 1)), .int (iI (bI HM)), .ref k_rt, .ref k_rf, .ref k_ct, .ref k_cf, .ref k_nd, .ref k_na, .ref k_no, .ref k_bt, .ref k_bc, .ref k_br, .int (iI bg), .int (iI pn), .ref k_pc, .ref k_pr, .ref k_la, .ref k_lb, .ref k_ha, .ref k_hb, .ref k_ls, .ref k_wc, .int (iI wd), .int (iI mg), .int (iI mw), .int (iI mc)])), (k_nd, .inl (cI, aI 13 gnd)), (k_na, .inl (cI, aI 5200 gna)), (k_ct, .inl (cI, aI 152971 gct))] sz)) 0 0 (va_A [(m0, .inr (5, [.int (iI 0), .int (iI steps), .ref k_ch, .ref k_co, .ref k_ua, .ref k_ub, .ref k_ba, .int (iI (fle 0)), .int (iI (fle 1)), .int (iI (fmo 0)), .int (iI (fmo 1)), .int (iI (bI HM)), .ref k_rt, .ref k_rf, .ref k_ct, .ref k_cf, .ref k_nd, .ref k_na, .ref k_no, .ref k_bt, .ref k_bc, .ref k_br, .int (iI bg), .int (iI pn), .ref k_pc, .ref k_pr, .ref k_la, .ref k_lb, .ref k_ha, .ref k_hb, .ref k_ls, .ref k_wc, .int (iI wd), .int (iI mg), .int (iI mw), .int (iI mc)])), (k_nd, .inl (cI, aI 13 gnd)), (k_na, .inl (cI, aI 5200 gna)), (k_ct, .inl (cI, aI 152971 gct))] sz) := by
  refine met_i (by decide) rfl (Nat.le_of_ble_eq_true rfl) ?_
  intro p e s m below meth c A Q C hmn hret
  refine g_aload_n C 0 std_M_dominated_0 rfl ?_
  refine g_iconst C std_M_dominated_1 ?_
  refine g_put C (ws' := [(m0, .inr (5, [.int (iI 0), .int (iI steps), .ref k_ch, .ref k_co, .ref k_ua, .ref k_ub, .ref k_ba, .int (iI (fle 0)), .int (iI (fle 1)), .int (iI (fmo 0)), .int (iI (fmo 1)), .int (iI (bI HM)), .ref k_rt, .ref k_rf, .ref k_ct, .ref k_cf, .ref k_nd, .ref k_na, .ref k_no, .ref k_bt, .ref k_bc, .ref k_br, .int (iI bg), .int (iI pn), .ref k_pc, .ref k_pr, .ref k_la, .ref k_lb, .ref k_ha, .ref k_hb, .ref k_ls, .ref k_wc, .int (iI wd), .int (iI mg), .int (iI mw), .int (iI mc)])), (k_nd, .inl (cI, aI 13 gnd)), (k_na, .inl (cI, aI 5200 gna)), (k_ct, .inl (cI, aI 152971 gct))]) (st_sub sti_M) stt_M sto_M stn_M 0 rfl rfl 0 (by decide) (List.mem_cons_of_mem _ kw_3_66) rfl rfl rfl rfl (Nat.le_of_ble_eq_true rfl) std_M_dominated_2 rfl ?_
  refine g_aload_n C 0 std_M_dominated_5 rfl ?_
  refine g_get C (st_sub sti_M) 0 rfl rfl 11 (by decide) (List.mem_cons_of_mem _ kw_3_77) rfl rfl std_M_dominated_6 ?_
  refine g_ifne_b (tgt := 15) C std_M_dominated_9 (by decide) (fun c1 => ?_) (fun c1 => ?_)
  · refine g_aload_n C 0 std_M_dominated_15 rfl ?_
    refine g_iload_n C 1 std_M_dominated_16 rfl ?_
    refine g_iload_n C 2 std_M_dominated_17 rfl ?_
    refine g_V_i (wc := [(m0, .inr (5, [.int (iI 0), .int (iI steps), .ref k_ch, .ref k_co, .ref k_ua, .ref k_ub, .ref k_ba, .int (iI (fle 0)), .int (iI (fle 1)), .int (iI (fmo 0)), .int (iI (fmo 1)), .int (iI (bI HM)), .ref k_rt, .ref k_rf, .ref k_ct, .ref k_cf, .ref k_nd, .ref k_na, .ref k_no, .ref k_bt, .ref k_bc, .ref k_br, .int (iI bg), .int (iI pn), .ref k_pc, .ref k_pr, .ref k_la, .ref k_lb, .ref k_ha, .ref k_hb, .ref k_ls, .ref k_wc, .int (iI wd), .int (iI mg), .int (iI mw), .int (iI mc)])), (k_nd, .inl (cI, aI 13 gnd))]) (wr := [(k_na, .inl (cI, aI 5200 gna)), (k_ct, .inl (cI, aI 152971 gct))]) (rest := []) C (c_m_noNode l dC dI cI cJ cZ m0 k_ch k_co k_ua k_ub k_ba k_rt k_rf k_ct k_cf k_nd k_na k_no k_bt k_bc k_br k_pc k_pr k_la k_lb k_ha k_hb k_ls k_wc HM bg pn wd mg mw mc steps fle fmo gnd a b (kst) (kgH c1) (by unfold rI at *; omega) (by unfold rI at *; omega)) (st_cV C kw_4_41 kw_4_38 kw_1_6 kw_4_40 kw_0_26 sth_M_noNode ⟨Nat.le_of_ble_eq_true rfl, Nat.le_of_ble_eq_true rfl⟩) 0 rfl rfl rfl rfl (Nat.le_of_ble_eq_true rfl) std_M_dominated_18 ⟨Nat.le_of_ble_eq_true rfl, Nat.le_of_ble_eq_true rfl⟩ [0, 1] [2, 3] rfl rfl rfl rfl (by decide) (fun r2 u3 h4 => ?_)
    subst h4
    refine g_ws (ws' := [(k_na, .inl (cI, aI 5200 gna)), (k_ct, .inl (cI, aI 152971 gct)), (m0, .inr (5, [.int (iI 0), .int (iI steps), .ref k_ch, .ref k_co, .ref k_ua, .ref k_ub, .ref k_ba, .int (iI (fle 0)), .int (iI (fle 1)), .int (iI (fmo 0)), .int (iI (fmo 1)), .int (iI (bI HM)), .ref k_rt, .ref k_rf, .ref k_ct, .ref k_cf, .ref k_nd, .ref k_na, .ref k_no, .ref k_bt, .ref k_bc, .ref k_br, .int (iI bg), .int (iI pn), .ref k_pc, .ref k_pr, .ref k_la, .ref k_lb, .ref k_ha, .ref k_hb, .ref k_ls, .ref k_wc, .int (iI wd), .int (iI mg), .int (iI mw), .int (iI mc)])), (k_nd, .inl (cI, aI 13 gnd))]) rfl ?_
    refine g_ifeq_b (tgt := 27) C std_M_dominated_21 (by decide) (fun c5 => ?_) (fun c5 => ?_)
    · have hq := kN c1 a b (by omega) (by omega) (by omega) (by omega)
      have hgq := kgH c1 a (by omega) (by omega)
      refine g_iconst C std_M_dominated_27 ?_
      refine g_istore_n C (lv' := [(3, .int (iI 0)), (0, .ref m0), (1, .int (iI a)), (2, .int (iI b))]) std_M_dominated_28 (by decide) rfl ?_
      have L29 : ∀ (nn29 : Nat) (x : Int), (0 ≤ x ∧ x ≤ gnd a) → (∀ j, 0 ≤ j → j < x → ¬ DMp fle gct (gna (400 * a + j)) (gna (400 * a + b))) → (gnd a - x) < (nn29 : Int) → G p l e ({ frames := 2, cells := 0, slots := 0, locals := 44 } : Room) s m ([.ref m0, .int (iI a), .int (iI b)] : List Value).toArray below meth c (dC, dI) stCl 4 A 0 0 Q [(m0, .inr (5, [.int (iI 0), .int (iI steps), .ref k_ch, .ref k_co, .ref k_ua, .ref k_ub, .ref k_ba, .int (iI (fle 0)), .int (iI (fle 1)), .int (iI (fmo 0)), .int (iI (fmo 1)), .int (iI (bI HM)), .ref k_rt, .ref k_rf, .ref k_ct, .ref k_cf, .ref k_nd, .ref k_na, .ref k_no, .ref k_bt, .ref k_bc, .ref k_br, .int (iI bg), .int (iI pn), .ref k_pc, .ref k_pr, .ref k_la, .ref k_lb, .ref k_ha, .ref k_hb, .ref k_ls, .ref k_wc, .int (iI wd), .int (iI mg), .int (iI mw), .int (iI mc)])), (k_nd, .inl (cI, aI 13 gnd)), (k_na, .inl (cI, aI 5200 gna)), (k_ct, .inl (cI, aI 152971 gct))] 29 [(3, .int (iI x)), (2, .int (iI b)), (1, .int (iI a)), (0, .ref m0)] [] := by
        intro nn29
        induction nn29 with
        | zero =>
          intro x kx kJ hnn29
          exact absurd hnn29 (by omega)
        | succ nn29 ih29 =>
          intro x kx kJ hnn29
          refine g_iload_n C 0 std_M_dominated_29 rfl ?_
          refine g_aload_n C 3 std_M_dominated_30 rfl ?_
          refine g_get C (st_sub sti_M) 0 rfl rfl 16 (by decide) (List.mem_cons_of_mem _ kw_3_82) rfl rfl std_M_dominated_31 ?_
          refine g_iload_n C 2 std_M_dominated_34 rfl ?_
          refine g_iald C 1 0 rfl rfl (by omega) (by omega) (by omega) std_M_dominated_35 ?_
          refine g_icmp_ge (tgt := 78) C std_M_dominated_36 (by decide) ⟨by omega, by omega⟩ ⟨by omega, by omega⟩ (fun c6 => ?_) (fun c6 => ?_)
          · refine g_ldc C (z := (-1000000)) (List.mem_cons_of_mem _ kw_3_234) (by decide) std_M_dominated_78 ?_
            exact hret _ _ _ (-1000000) (⟨by rw [sel_t c1, sel_t (by omega)], fun _ _ => Or.inr ⟨fun j h1 h2 => kJ j h1 (by omega), rfl⟩⟩) std_M_dominated_80
          · have hx := kN c1 a x (by omega) (by omega) (by omega) (by omega)
            refine g_aload_n C 3 std_M_dominated_39 rfl ?_
            refine g_aload_n C 3 std_M_dominated_40 rfl ?_
            refine g_get C (st_sub sti_M) 0 rfl rfl 17 (by decide) (List.mem_cons_of_mem _ kw_3_83) rfl rfl std_M_dominated_41 ?_
            refine g_sipush C std_M_dominated_44 (by decide) ?_
            refine g_iload_n C 2 std_M_dominated_47 rfl ?_
            refine g_imul C std_M_dominated_48 ?_
            refine g_iload_n C 0 std_M_dominated_49 rfl ?_
            refine g_iadd C std_M_dominated_50 ?_
            refine g_iald C 2 0 rfl rfl (by omega) (by omega) (by omega) std_M_dominated_51 ?_
            refine g_aload_n C 3 std_M_dominated_52 rfl ?_
            refine g_get C (st_sub sti_M) 0 rfl rfl 17 (by decide) (List.mem_cons_of_mem _ kw_3_83) rfl rfl std_M_dominated_53 ?_
            refine g_sipush C std_M_dominated_56 (by decide) ?_
            refine g_iload_n C 2 std_M_dominated_59 rfl ?_
            refine g_imul C std_M_dominated_60 ?_
            refine g_iload_n C 1 std_M_dominated_61 rfl ?_
            refine g_iadd C std_M_dominated_62 ?_
            refine g_iald C 2 0 rfl rfl (by omega) (by omega) (by omega) std_M_dominated_63 ?_
            refine g_V_i (wc := [(m0, .inr (5, [.int (iI 0), .int (iI steps), .ref k_ch, .ref k_co, .ref k_ua, .ref k_ub, .ref k_ba, .int (iI (fle 0)), .int (iI (fle 1)), .int (iI (fmo 0)), .int (iI (fmo 1)), .int (iI (bI HM)), .ref k_rt, .ref k_rf, .ref k_ct, .ref k_cf, .ref k_nd, .ref k_na, .ref k_no, .ref k_bt, .ref k_bc, .ref k_br, .int (iI bg), .int (iI pn), .ref k_pc, .ref k_pr, .ref k_la, .ref k_lb, .ref k_ha, .ref k_hb, .ref k_ls, .ref k_wc, .int (iI wd), .int (iI mg), .int (iI mw), .int (iI mc)])), (k_ct, .inl (cI, aI 152971 gct))]) (wr := [(k_nd, .inl (cI, aI 13 gnd)), (k_na, .inl (cI, aI 5200 gna))]) (rest := []) C (c_m_dominates l dC dI cI cJ cZ m0 k_ch k_co k_ua k_ub k_ba k_rt k_rf k_ct k_cf k_nd k_na k_no k_bt k_bc k_br k_pc k_pr k_la k_lb k_ha k_hb k_ls k_wc HM bg pn wd mg mw mc steps fle fmo gct (gna ((400 * a) + x)) (gna ((400 * a) + b)) (kle) (⟨hx.1.1, hx.1.2, hx.2.2⟩) (⟨hq.1.1, hq.1.2, hq.2.2⟩)) (st_cV C kw_4_54 kw_4_51 kw_1_6 kw_4_53 kw_0_27 sth_M_dominates ⟨Nat.le_of_ble_eq_true rfl, Nat.le_of_ble_eq_true rfl⟩) 0 rfl rfl rfl rfl (Nat.le_of_ble_eq_true rfl) std_M_dominated_64 ⟨Nat.le_of_ble_eq_true rfl, Nat.le_of_ble_eq_true rfl⟩ [0, 3] [1, 2] rfl rfl rfl rfl (by decide) (fun r7 u8 h9 => ?_)
            subst h9
            refine g_ws (ws' := [(k_nd, .inl (cI, aI 13 gnd)), (k_na, .inl (cI, aI 5200 gna)), (m0, .inr (5, [.int (iI 0), .int (iI steps), .ref k_ch, .ref k_co, .ref k_ua, .ref k_ub, .ref k_ba, .int (iI (fle 0)), .int (iI (fle 1)), .int (iI (fmo 0)), .int (iI (fmo 1)), .int (iI (bI HM)), .ref k_rt, .ref k_rf, .ref k_ct, .ref k_cf, .ref k_nd, .ref k_na, .ref k_no, .ref k_bt, .ref k_bc, .ref k_br, .int (iI bg), .int (iI pn), .ref k_pc, .ref k_pr, .ref k_la, .ref k_lb, .ref k_ha, .ref k_hb, .ref k_ls, .ref k_wc, .int (iI wd), .int (iI mg), .int (iI mw), .int (iI mc)])), (k_ct, .inl (cI, aI 152971 gct))]) rfl ?_
            refine g_ifeq_b (tgt := 72) C std_M_dominated_67 (by decide) (fun c10 => ?_) (fun c10 => ?_)
            · refine g_iinc C (lv' := [(3, .int (iI (x + 1))), (2, .int (iI b)), (1, .int (iI a)), (0, .ref m0)]) 0 std_M_dominated_72 rfl (by decide) rfl ?_
              refine g_goto (tgt := 29) C std_M_dominated_75 (by decide) ?_
              refine g_sub (ws' := [(m0, .inr (5, [.int (iI 0), .int (iI steps), .ref k_ch, .ref k_co, .ref k_ua, .ref k_ub, .ref k_ba, .int (iI (fle 0)), .int (iI (fle 1)), .int (iI (fmo 0)), .int (iI (fmo 1)), .int (iI (bI HM)), .ref k_rt, .ref k_rf, .ref k_ct, .ref k_cf, .ref k_nd, .ref k_na, .ref k_no, .ref k_bt, .ref k_bc, .ref k_br, .int (iI bg), .int (iI pn), .ref k_pc, .ref k_pr, .ref k_la, .ref k_lb, .ref k_ha, .ref k_hb, .ref k_ls, .ref k_wc, .int (iI wd), .int (iI mg), .int (iI mw), .int (iI mc)])), (k_nd, .inl (cI, aI 13 gnd)), (k_na, .inl (cI, aI 5200 gna)), (k_ct, .inl (cI, aI 152971 gct))]) [2, 0, 1, 3] rfl rfl ?_
              refine g_wide (k := 0) (n := 0) (Nat.le_of_ble_eq_true rfl) (Nat.le_of_ble_eq_true rfl) ?_
              exact ih29 (x + 1) (by omega) (dj_n (X := fun j => DMp fle gct (gna (400 * a + j)) (gna (400 * a + b))) kJ c10) (by omega)
            · refine g_iload_n C 0 std_M_dominated_70 rfl ?_
              refine g_sub (ws' := [(m0, .inr (5, [.int (iI 0), .int (iI steps), .ref k_ch, .ref k_co, .ref k_ua, .ref k_ub, .ref k_ba, .int (iI (fle 0)), .int (iI (fle 1)), .int (iI (fmo 0)), .int (iI (fmo 1)), .int (iI (bI HM)), .ref k_rt, .ref k_rf, .ref k_ct, .ref k_cf, .ref k_nd, .ref k_na, .ref k_no, .ref k_bt, .ref k_bc, .ref k_br, .int (iI bg), .int (iI pn), .ref k_pc, .ref k_pr, .ref k_la, .ref k_lb, .ref k_ha, .ref k_hb, .ref k_ls, .ref k_wc, .int (iI wd), .int (iI mg), .int (iI mw), .int (iI mc)])), (k_nd, .inl (cI, aI 13 gnd)), (k_na, .inl (cI, aI 5200 gna)), (k_ct, .inl (cI, aI 152971 gct))]) [2, 0, 1, 3] rfl rfl ?_
              refine g_wide (k := 0) (n := 0) (Nat.le_of_ble_eq_true rfl) (Nat.le_of_ble_eq_true rfl) ?_
              exact hret _ _ _ x (⟨by rw [sel_t c1, sel_t (by omega)], fun _ _ => Or.inl ⟨x, ⟨by omega, by omega⟩, c10, kJ, rfl⟩⟩) std_M_dominated_71
      refine g_sub (ws' := [(m0, .inr (5, [.int (iI 0), .int (iI steps), .ref k_ch, .ref k_co, .ref k_ua, .ref k_ub, .ref k_ba, .int (iI (fle 0)), .int (iI (fle 1)), .int (iI (fmo 0)), .int (iI (fmo 1)), .int (iI (bI HM)), .ref k_rt, .ref k_rf, .ref k_ct, .ref k_cf, .ref k_nd, .ref k_na, .ref k_no, .ref k_bt, .ref k_bc, .ref k_br, .int (iI bg), .int (iI pn), .ref k_pc, .ref k_pr, .ref k_la, .ref k_lb, .ref k_ha, .ref k_hb, .ref k_ls, .ref k_wc, .int (iI wd), .int (iI mg), .int (iI mw), .int (iI mc)])), (k_nd, .inl (cI, aI 13 gnd)), (k_na, .inl (cI, aI 5200 gna)), (k_ct, .inl (cI, aI 152971 gct))]) [2, 3, 0, 1] rfl rfl ?_
      refine g_lv (lv' := [(3, .int (iI 0)), (2, .int (iI b)), (1, .int (iI a)), (0, .ref m0)]) [0, 3, 2, 1] rfl ?_
      refine g_wide (k := 0) (n := 0) (Nat.le_of_ble_eq_true rfl) (Nat.le_of_ble_eq_true rfl) ?_
      obtain ⟨nn0, hnn0⟩ : ∃ nn0 : Nat, (gnd a - 0) < (nn0 : Int) := z_nat _
      exact L29 nn0 0 (by omega) (fun j h1 h2 => by omega) hnn0
    · refine g_ldc C (z := (-2000000)) (List.mem_cons_of_mem _ kw_3_188) (by decide) std_M_dominated_24 ?_
      refine g_sub (ws' := [(m0, .inr (5, [.int (iI 0), .int (iI steps), .ref k_ch, .ref k_co, .ref k_ua, .ref k_ub, .ref k_ba, .int (iI (fle 0)), .int (iI (fle 1)), .int (iI (fmo 0)), .int (iI (fmo 1)), .int (iI (bI HM)), .ref k_rt, .ref k_rf, .ref k_ct, .ref k_cf, .ref k_nd, .ref k_na, .ref k_no, .ref k_bt, .ref k_bc, .ref k_br, .int (iI bg), .int (iI pn), .ref k_pc, .ref k_pr, .ref k_la, .ref k_lb, .ref k_ha, .ref k_hb, .ref k_ls, .ref k_wc, .int (iI wd), .int (iI mg), .int (iI mw), .int (iI mc)])), (k_nd, .inl (cI, aI 13 gnd)), (k_na, .inl (cI, aI 5200 gna)), (k_ct, .inl (cI, aI 152971 gct))]) [2, 3, 0, 1] rfl rfl ?_
      refine g_wide (k := 0) (n := 0) (Nat.le_of_ble_eq_true rfl) (Nat.le_of_ble_eq_true rfl) ?_
      exact hret _ _ _ 0 (⟨by rw [sel_t c1, sel_f (by omega)], fun _ z0 => absurd z0 (by omega)⟩) std_M_dominated_26
  · refine g_ldc C (z := (-4000000)) (List.mem_cons_of_mem _ kw_4_15) (by decide) std_M_dominated_12 ?_
    exact hret _ _ _ 0 (⟨by rw [sel_f c1], fun z0 => absurd z0 c1⟩) std_M_dominated_14

abbrev sty_M_leads : MethodName := ⟨"StateTablesModel", "leads", "(III)I"⟩
abbrev stc_M_leads : ByteArray := prog_7_method_32_code
theorem sth_M_leads : (sty_M_leads).cls ≠ "java/lang/invoke/MethodHandle" ∧ (sty_M_leads).cls ≠ "java/lang/invoke/VarHandle" ∧ (parseMethodDescriptor (sty_M_leads).desc).map (fun d => d.parameters.length) = some 3 := by decide +kernel
theorem std_M_leads_0 : decode stc_M_leads 0 = .ok (.aload_n 0, 1) := by decide +kernel
theorem std_M_leads_1 : decode stc_M_leads 1 = .ok (.iconst 0, 1) := by decide +kernel
theorem std_M_leads_2 : decode stc_M_leads 2 = .ok (.putfield 1, 3) := by decide +kernel
theorem std_M_leads_5 : decode stc_M_leads 5 = .ok (.aload_n 0, 1) := by decide +kernel
theorem std_M_leads_6 : decode stc_M_leads 6 = .ok (.getfield 96, 3) := by decide +kernel
theorem std_M_leads_9 : decode stc_M_leads 9 = .ok (.ifCond .ne 6, 3) := by decide +kernel
theorem std_M_leads_15 : decode stc_M_leads 15 = .ok (.aload_n 0, 1) := by decide +kernel
theorem std_M_leads_16 : decode stc_M_leads 16 = .ok (.iload_n 1, 1) := by decide +kernel
theorem std_M_leads_17 : decode stc_M_leads 17 = .ok (.iload_n 2, 1) := by decide +kernel
theorem std_M_leads_18 : decode stc_M_leads 18 = .ok (.invokevirtual 167, 3) := by decide +kernel
theorem std_M_leads_21 : decode stc_M_leads 21 = .ok (.ifCond .ne 20, 3) := by decide +kernel
theorem std_M_leads_41 : decode stc_M_leads 41 = .ok (.ldc 104, 2) := by decide +kernel
theorem std_M_leads_43 : decode stc_M_leads 43 = .ok (.ireturn, 1) := by decide +kernel
theorem std_M_leads_24 : decode stc_M_leads 24 = .ok (.iload_n 1, 1) := by decide +kernel
theorem std_M_leads_25 : decode stc_M_leads 25 = .ok (.aload_n 0, 1) := by decide +kernel
theorem std_M_leads_26 : decode stc_M_leads 26 = .ok (.getfield 92, 3) := by decide +kernel
theorem std_M_leads_29 : decode stc_M_leads 29 = .ok (.if_icmp .eq 12, 3) := by decide +kernel
theorem std_M_leads_32 : decode stc_M_leads 32 = .ok (.aload_n 0, 1) := by decide +kernel
theorem std_M_leads_33 : decode stc_M_leads 33 = .ok (.iload_n 1, 1) := by decide +kernel
theorem std_M_leads_34 : decode stc_M_leads 34 = .ok (.iload_n 3, 1) := by decide +kernel
theorem std_M_leads_35 : decode stc_M_leads 35 = .ok (.invokevirtual 105, 3) := by decide +kernel
theorem std_M_leads_38 : decode stc_M_leads 38 = .ok (.ifCond .eq 6, 3) := by decide +kernel
theorem std_M_leads_44 : decode stc_M_leads 44 = .ok (.aload_n 0, 1) := by decide +kernel
theorem std_M_leads_45 : decode stc_M_leads 45 = .ok (.aload_n 0, 1) := by decide +kernel
theorem std_M_leads_46 : decode stc_M_leads 46 = .ok (.getfield 53, 3) := by decide +kernel
theorem std_M_leads_49 : decode stc_M_leads 49 = .ok (.sipush 400, 3) := by decide +kernel
theorem std_M_leads_52 : decode stc_M_leads 52 = .ok (.iload_n 1, 1) := by decide +kernel
theorem std_M_leads_53 : decode stc_M_leads 53 = .ok (.imul, 1) := by decide +kernel
theorem std_M_leads_54 : decode stc_M_leads 54 = .ok (.iload_n 2, 1) := by decide +kernel
theorem std_M_leads_55 : decode stc_M_leads 55 = .ok (.iadd, 1) := by decide +kernel
theorem std_M_leads_56 : decode stc_M_leads 56 = .ok (.iaload, 1) := by decide +kernel
theorem std_M_leads_57 : decode stc_M_leads 57 = .ok (.iload_n 3, 1) := by decide +kernel
theorem std_M_leads_58 : decode stc_M_leads 58 = .ok (.invokevirtual 139, 3) := by decide +kernel
theorem std_M_leads_61 : decode stc_M_leads 61 = .ok (.istore 4, 2) := by decide +kernel
theorem std_M_leads_63 : decode stc_M_leads 63 = .ok (.iload 4, 2) := by decide +kernel
theorem std_M_leads_65 : decode stc_M_leads 65 = .ok (.ldc 129, 2) := by decide +kernel
theorem std_M_leads_67 : decode stc_M_leads 67 = .ok (.if_icmp .ne 8, 3) := by decide +kernel
theorem std_M_leads_75 : decode stc_M_leads 75 = .ok (.aload_n 0, 1) := by decide +kernel
theorem std_M_leads_76 : decode stc_M_leads 76 = .ok (.getfield 56, 3) := by decide +kernel
theorem std_M_leads_79 : decode stc_M_leads 79 = .ok (.iload 4, 2) := by decide +kernel
theorem std_M_leads_81 : decode stc_M_leads 81 = .ok (.iaload, 1) := by decide +kernel
theorem std_M_leads_82 : decode stc_M_leads 82 = .ok (.ireturn, 1) := by decide +kernel
theorem std_M_leads_70 : decode stc_M_leads 70 = .ok (.ldc 129, 2) := by decide +kernel
theorem std_M_leads_72 : decode stc_M_leads 72 = .ok (.goto 10, 3) := by decide +kernel
theorem std_M_leads_12 : decode stc_M_leads 12 = .ok (.ldc 162, 2) := by decide +kernel
theorem std_M_leads_14 : decode stc_M_leads 14 = .ok (.ireturn, 1) := by decide +kernel
set_option maxHeartbeats 4000000 in
set_option maxRecDepth 100000 in
theorem c_m_leads (l : Launch) (dC : Nat → ClassId) (dI : Nat → Nat → Nat) (cI cJ cZ : ClassId) (m0 : Nat) (k_ch : Nat) (k_co : Nat) (k_ua : Nat) (k_ub : Nat) (k_ba : Nat) (k_rt : Nat) (k_rf : Nat) (k_ct : Nat) (k_cf : Nat) (k_nd : Nat) (k_na : Nat) (k_no : Nat) (k_bt : Nat) (k_bc : Nat) (k_br : Nat) (k_pc : Nat) (k_pr : Nat) (k_la : Nat) (k_lb : Nat) (k_ha : Nat) (k_hb : Nat) (k_ls : Nat) (k_wc : Nat) (HM : Prop) (bg : Int) (pn : Int) (wd : Int) (mg : Int) (mw : Int) (mc : Int) (steps : Int) (fle : Int → Int) (fba : Int → Int) (gnd : Int → Int) (gna : Int → Int) (gno : Int → Int) (fsz : Int → Int) (fco : Int → Int) (ffu : Int → Int) (fsu : Int → Int) (fbb : Int → Int) (fmo : Int → Int) (a : Int) (b : Int) (k : Int) (kst : 0 ≤ steps ∧ steps ≤ 12) (ksz : ∀ j, 0 ≤ j → j < 12 → 0 ≤ fsz j ∧ fsz j ≤ 6) (kgH : HM → ∀ j, 0 ≤ j → j ≤ steps → 0 ≤ gnd j ∧ gnd j ≤ 400) (ka : rI a) (kb : rI b) (kkr : rI k) (kBR : BR fbb fba) (kT : TB fsz fco ffu fsu fbb fmo) (kM : HM → ∀ d : Nat, ((d : Nat) : Int) ≤ steps → ME fsz ffu fsu fbb fmo d (gnd ((d : Nat) : Int)) gna gno) : ∀ sz, Met l sty_M_leads (Cond.code sty_M_leads stc_M_leads 5 (some .int) :: stGW) ({ frames := 2, cells := 0, slots := 0, locals := 50 } : Room) (va_Pc [.ref m0, .int (iI a), .int (iI b), .int (iI k)] (zPre (dC, dI) stCl [(cI, .int), (cJ, .long), (cZ, .boolean)] st_nw [(m0, .inr (5, [.int (iI 0), .int (iI steps), .ref k_ch, .ref k_co, .ref k_ua, .ref k_ub, .ref k_ba, .int (iI (fle 0)), .int (iI (fle 1)), .int (iI (fmo 0)), .int (iI (fmo 1)), .int (iI (bI HM)), .ref k_rt, .ref k_rf, .ref k_ct, .ref k_cf, .ref k_nd, .ref k_na, .ref k_no, .ref k_bt, .ref k_bc, .ref k_br, .int (iI bg), .int (iI pn), .ref k_pc, .ref k_pr, .ref k_la, .ref k_lb, .ref k_ha, .ref k_hb, .ref k_ls, .ref k_wc, .int (iI wd), .int (iI mg), .int (iI mw), .int (iI mc)])), (k_nd, .inl (cI, aI 13 gnd)), (k_na, .inl (cI, aI 5200 gna)), (k_no, .inl (cI, aI 152971 gno)), (k_ch, .inl (cI, aI 13 fsz)), (k_ba, .inl (cZ, aI 468 fba)), (k_ua, .inl (cI, aI 78 ffu)), (k_ub, .inl (cI, aI 78 fsu))] sz)) (va_Qi (fun (r : Int32) (_ : Unit) => r = iI (sel HM (sel (((0 ≤ a ∧ a ≤ steps) ∧ 0 ≤ b ∧ b ≤ (gnd a) - 1) ∧ (¬ a = steps ∧ 0 ≤ k ∧ k ≤ (fsz a) - 1)) (sel ((nxt fbb ffu fsu fmo ((a.toNat : Nat) : Int) k (kk (gna (400 * ((a.toNat : Nat) : Int) + b) - 11767 * ((a.toNat : Nat) : Int)))) = -1000000) (-1000000) (gno (nxt fbb ffu fsu fmo ((a.toNat : Nat) : Int) k (kk (gna (400 * ((a.toNat : Nat) : Int) + b) - 11767 * ((a.toNat : Nat) : Int)))))) (-2000000)) (-4000000))) (zPost (dC, dI) stCl [(cI, .int), (cJ, .long), (cZ, .boolean)] [(m0, .inr (5, [.int (iI 0), .int (iI steps), .ref k_ch, .ref k_co, .ref k_ua, .ref k_ub, .ref k_ba, .int (iI (fle 0)), .int (iI (fle 1)), .int (iI (fmo 0)), .int (iI (fmo 1)), .int (iI (bI HM)), .ref k_rt, .ref k_rf, .ref k_ct, .ref k_cf, .ref k_nd, .ref k_na, .ref k_no, .ref k_bt, .ref k_bc, .ref k_br, .int (iI bg), .int (iI pn), .ref k_pc, .ref k_pr, .ref k_la, .ref k_lb, .ref k_ha, .ref k_hb, .ref k_ls, .ref k_wc, .int (iI wd), .int (iI mg), .int (iI mw), .int (iI mc)])), (k_nd, .inl (cI, aI 13 gnd)), (k_na, .inl (cI, aI 5200 gna)), (k_no, .inl (cI, aI 152971 gno)), (k_ch, .inl (cI, aI 13 fsz)), (k_ba, .inl (cZ, aI 468 fba)), (k_ua, .inl (cI, aI 78 ffu)), (k_ub, .inl (cI, aI 78 fsu))] sz (fun _ : Unit => [(m0, .inr (5, [.int (iI 0), .int (iI steps), .ref k_ch, .ref k_co, .ref k_ua, .ref k_ub, .ref k_ba, .int (iI (fle 0)), .int (iI (fle 1)), .int (iI (fmo 0)), .int (iI (fmo 1)), .int (iI (bI HM)), .ref k_rt, .ref k_rf, .ref k_ct, .ref k_cf, .ref k_nd, .ref k_na, .ref k_no, .ref k_bt, .ref k_bc, .ref k_br, .int (iI bg), .int (iI pn), .ref k_pc, .ref k_pr, .ref k_la, .ref k_lb, .ref k_ha, .ref k_hb, .ref k_ls, .ref k_wc, .int (iI wd), .int (iI mg), .int (iI mw), .int (iI mc)])), (k_nd, .inl (cI, aI 13 gnd)), (k_na, .inl (cI, aI 5200 gna)), (k_no, .inl (cI, aI 152971 gno)), (k_ch, .inl (cI, aI 13 fsz)), (k_ba, .inl (cZ, aI 468 fba)), (k_ua, .inl (cI, aI 78 ffu)), (k_ub, .inl (cI, aI 78 fsu))])) (va_A [(m0, .inr (5, [.int (iI 0), .int (iI steps), .ref k_ch, .ref k_co, .ref k_ua, .ref k_ub, .ref k_ba, .int (iI (fle 0)), .int (iI (fle 1)), .int (iI (fmo 0)), .int (iI (fmo 1)), .int (iI (bI HM)), .ref k_rt, .ref k_rf, .ref k_ct, .ref k_cf, .ref k_nd, .ref k_na, .ref k_no, .ref k_bt, .ref k_bc, .ref k_br, .int (iI bg), .int (iI pn), .ref k_pc, .ref k_pr, .ref k_la, .ref k_lb, .ref k_ha, .ref k_hb, .ref k_ls, .ref k_wc, .int (iI wd), .int (iI mg), .int (iI mw), .int (iI mc)])), (k_nd, .inl (cI, aI 13 gnd)), (k_na, .inl (cI, aI 5200 gna)), (k_no, .inl (cI, aI 152971 gno)), (k_ch, .inl (cI, aI 13 fsz)), (k_ba, .inl (cZ, aI 468 fba)), (k_ua, .inl (cI, aI 78 ffu)), (k_ub, .inl (cI, aI 78 fsu))] sz)) 0 0 (va_A [(m0, .inr (5, [.int (iI 0), .int (iI steps), .ref k_ch, .ref k_co, .ref k_ua, .ref k_ub, .ref k_ba, .int (iI (fle 0)), .int (iI (fle 1)), .int (iI (fmo 0)), .int (iI (fmo 1)), .int (iI (bI HM)), .ref k_rt, .ref k_rf, .ref k_ct, .ref k_cf, .ref k_nd, .ref k_na, .ref k_no, .ref k_bt, .ref k_bc, .ref k_br, .int (iI bg), .int (iI pn), .ref k_pc, .ref k_pr, .ref k_la, .ref k_lb, .ref k_ha, .ref k_hb, .ref k_ls, .ref k_wc, .int (iI wd), .int (iI mg), .int (iI mw), .int (iI mc)])), (k_nd, .inl (cI, aI 13 gnd)), (k_na, .inl (cI, aI 5200 gna)), (k_no, .inl (cI, aI 152971 gno)), (k_ch, .inl (cI, aI 13 fsz)), (k_ba, .inl (cZ, aI 468 fba)), (k_ua, .inl (cI, aI 78 ffu)), (k_ub, .inl (cI, aI 78 fsu))] sz) := by
  refine met_i (by decide) rfl (Nat.le_of_ble_eq_true rfl) ?_
  intro p e s m below meth c A Q C hmn hret
  refine g_aload_n C 0 std_M_leads_0 rfl ?_
  refine g_iconst C std_M_leads_1 ?_
  refine g_put C (ws' := [(m0, .inr (5, [.int (iI 0), .int (iI steps), .ref k_ch, .ref k_co, .ref k_ua, .ref k_ub, .ref k_ba, .int (iI (fle 0)), .int (iI (fle 1)), .int (iI (fmo 0)), .int (iI (fmo 1)), .int (iI (bI HM)), .ref k_rt, .ref k_rf, .ref k_ct, .ref k_cf, .ref k_nd, .ref k_na, .ref k_no, .ref k_bt, .ref k_bc, .ref k_br, .int (iI bg), .int (iI pn), .ref k_pc, .ref k_pr, .ref k_la, .ref k_lb, .ref k_ha, .ref k_hb, .ref k_ls, .ref k_wc, .int (iI wd), .int (iI mg), .int (iI mw), .int (iI mc)])), (k_nd, .inl (cI, aI 13 gnd)), (k_na, .inl (cI, aI 5200 gna)), (k_no, .inl (cI, aI 152971 gno)), (k_ch, .inl (cI, aI 13 fsz)), (k_ba, .inl (cZ, aI 468 fba)), (k_ua, .inl (cI, aI 78 ffu)), (k_ub, .inl (cI, aI 78 fsu))]) (st_sub sti_M) stt_M sto_M stn_M 0 rfl rfl 0 (by decide) (List.mem_cons_of_mem _ kw_3_66) rfl rfl rfl rfl (Nat.le_of_ble_eq_true rfl) std_M_leads_2 rfl ?_
  refine g_aload_n C 0 std_M_leads_5 rfl ?_
  refine g_get C (st_sub sti_M) 0 rfl rfl 11 (by decide) (List.mem_cons_of_mem _ kw_3_77) rfl rfl std_M_leads_6 ?_
  refine g_ifne_b (tgt := 15) C std_M_leads_9 (by decide) (fun c1 => ?_) (fun c1 => ?_)
  · refine g_aload_n C 0 std_M_leads_15 rfl ?_
    refine g_iload_n C 1 std_M_leads_16 rfl ?_
    refine g_iload_n C 2 std_M_leads_17 rfl ?_
    refine g_V_i (wc := [(m0, .inr (5, [.int (iI 0), .int (iI steps), .ref k_ch, .ref k_co, .ref k_ua, .ref k_ub, .ref k_ba, .int (iI (fle 0)), .int (iI (fle 1)), .int (iI (fmo 0)), .int (iI (fmo 1)), .int (iI (bI HM)), .ref k_rt, .ref k_rf, .ref k_ct, .ref k_cf, .ref k_nd, .ref k_na, .ref k_no, .ref k_bt, .ref k_bc, .ref k_br, .int (iI bg), .int (iI pn), .ref k_pc, .ref k_pr, .ref k_la, .ref k_lb, .ref k_ha, .ref k_hb, .ref k_ls, .ref k_wc, .int (iI wd), .int (iI mg), .int (iI mw), .int (iI mc)])), (k_nd, .inl (cI, aI 13 gnd))]) (wr := [(k_na, .inl (cI, aI 5200 gna)), (k_no, .inl (cI, aI 152971 gno)), (k_ch, .inl (cI, aI 13 fsz)), (k_ba, .inl (cZ, aI 468 fba)), (k_ua, .inl (cI, aI 78 ffu)), (k_ub, .inl (cI, aI 78 fsu))]) (rest := []) C (c_m_noNode l dC dI cI cJ cZ m0 k_ch k_co k_ua k_ub k_ba k_rt k_rf k_ct k_cf k_nd k_na k_no k_bt k_bc k_br k_pc k_pr k_la k_lb k_ha k_hb k_ls k_wc HM bg pn wd mg mw mc steps fle fmo gnd a b (kst) (kgH c1) (by unfold rI at *; omega) (by unfold rI at *; omega)) (st_cV C kw_4_41 kw_4_38 kw_1_6 kw_4_40 kw_0_26 sth_M_noNode ⟨Nat.le_of_ble_eq_true rfl, Nat.le_of_ble_eq_true rfl⟩) 0 rfl rfl rfl rfl (Nat.le_of_ble_eq_true rfl) std_M_leads_18 ⟨Nat.le_of_ble_eq_true rfl, Nat.le_of_ble_eq_true rfl⟩ [0, 1] [2, 3, 4, 5, 6, 7] rfl rfl rfl rfl (by decide) (fun r2 u3 h4 => ?_)
    subst h4
    refine g_ws (ws' := [(k_na, .inl (cI, aI 5200 gna)), (k_no, .inl (cI, aI 152971 gno)), (k_ch, .inl (cI, aI 13 fsz)), (k_ba, .inl (cZ, aI 468 fba)), (k_ua, .inl (cI, aI 78 ffu)), (k_ub, .inl (cI, aI 78 fsu)), (m0, .inr (5, [.int (iI 0), .int (iI steps), .ref k_ch, .ref k_co, .ref k_ua, .ref k_ub, .ref k_ba, .int (iI (fle 0)), .int (iI (fle 1)), .int (iI (fmo 0)), .int (iI (fmo 1)), .int (iI (bI HM)), .ref k_rt, .ref k_rf, .ref k_ct, .ref k_cf, .ref k_nd, .ref k_na, .ref k_no, .ref k_bt, .ref k_bc, .ref k_br, .int (iI bg), .int (iI pn), .ref k_pc, .ref k_pr, .ref k_la, .ref k_lb, .ref k_ha, .ref k_hb, .ref k_ls, .ref k_wc, .int (iI wd), .int (iI mg), .int (iI mw), .int (iI mc)])), (k_nd, .inl (cI, aI 13 gnd))]) rfl ?_
    refine g_ifne_b (tgt := 41) C std_M_leads_21 (by decide) (fun c5 => ?_) (fun c5 => ?_)
    · refine g_ldc C (z := (-2000000)) (List.mem_cons_of_mem _ kw_3_188) (by decide) std_M_leads_41 ?_
      refine g_sub (ws' := [(m0, .inr (5, [.int (iI 0), .int (iI steps), .ref k_ch, .ref k_co, .ref k_ua, .ref k_ub, .ref k_ba, .int (iI (fle 0)), .int (iI (fle 1)), .int (iI (fmo 0)), .int (iI (fmo 1)), .int (iI (bI HM)), .ref k_rt, .ref k_rf, .ref k_ct, .ref k_cf, .ref k_nd, .ref k_na, .ref k_no, .ref k_bt, .ref k_bc, .ref k_br, .int (iI bg), .int (iI pn), .ref k_pc, .ref k_pr, .ref k_la, .ref k_lb, .ref k_ha, .ref k_hb, .ref k_ls, .ref k_wc, .int (iI wd), .int (iI mg), .int (iI mw), .int (iI mc)])), (k_nd, .inl (cI, aI 13 gnd)), (k_na, .inl (cI, aI 5200 gna)), (k_no, .inl (cI, aI 152971 gno)), (k_ch, .inl (cI, aI 13 fsz)), (k_ba, .inl (cZ, aI 468 fba)), (k_ua, .inl (cI, aI 78 ffu)), (k_ub, .inl (cI, aI 78 fsu))]) [6, 7, 0, 1, 2, 3, 4, 5] rfl rfl ?_
      refine g_wide (k := 0) (n := 0) (Nat.le_of_ble_eq_true rfl) (Nat.le_of_ble_eq_true rfl) ?_
      exact hret _ _ _ () (by rw [sel_t c1, sel_f (by omega)]) std_M_leads_43
    · refine g_iload_n C 1 std_M_leads_24 rfl ?_
      refine g_aload_n C 0 std_M_leads_25 rfl ?_
      refine g_get C (st_sub sti_M) 6 rfl rfl 1 (by decide) (List.mem_cons_of_mem _ kw_3_67) rfl rfl std_M_leads_26 ?_
      refine g_icmp_eq (tgt := 41) C std_M_leads_29 (by decide) ⟨by omega, by omega⟩ ⟨by omega, by omega⟩ (fun c6 => ?_) (fun c6 => ?_)
      · refine g_ldc C (z := (-2000000)) (List.mem_cons_of_mem _ kw_3_188) (by decide) std_M_leads_41 ?_
        refine g_sub (ws' := [(m0, .inr (5, [.int (iI 0), .int (iI steps), .ref k_ch, .ref k_co, .ref k_ua, .ref k_ub, .ref k_ba, .int (iI (fle 0)), .int (iI (fle 1)), .int (iI (fmo 0)), .int (iI (fmo 1)), .int (iI (bI HM)), .ref k_rt, .ref k_rf, .ref k_ct, .ref k_cf, .ref k_nd, .ref k_na, .ref k_no, .ref k_bt, .ref k_bc, .ref k_br, .int (iI bg), .int (iI pn), .ref k_pc, .ref k_pr, .ref k_la, .ref k_lb, .ref k_ha, .ref k_hb, .ref k_ls, .ref k_wc, .int (iI wd), .int (iI mg), .int (iI mw), .int (iI mc)])), (k_nd, .inl (cI, aI 13 gnd)), (k_na, .inl (cI, aI 5200 gna)), (k_no, .inl (cI, aI 152971 gno)), (k_ch, .inl (cI, aI 13 fsz)), (k_ba, .inl (cZ, aI 468 fba)), (k_ua, .inl (cI, aI 78 ffu)), (k_ub, .inl (cI, aI 78 fsu))]) [6, 7, 0, 1, 2, 3, 4, 5] rfl rfl ?_
        refine g_wide (k := 0) (n := 0) (Nat.le_of_ble_eq_true rfl) (Nat.le_of_ble_eq_true rfl) ?_
        exact hret _ _ _ () (by rw [sel_t c1, sel_f (by omega)]) std_M_leads_43
      · refine g_aload_n C 0 std_M_leads_32 rfl ?_
        refine g_iload_n C 1 std_M_leads_33 rfl ?_
        refine g_iload_n C 3 std_M_leads_34 rfl ?_
        refine g_V_i (wc := [(m0, .inr (5, [.int (iI 0), .int (iI steps), .ref k_ch, .ref k_co, .ref k_ua, .ref k_ub, .ref k_ba, .int (iI (fle 0)), .int (iI (fle 1)), .int (iI (fmo 0)), .int (iI (fmo 1)), .int (iI (bI HM)), .ref k_rt, .ref k_rf, .ref k_ct, .ref k_cf, .ref k_nd, .ref k_na, .ref k_no, .ref k_bt, .ref k_bc, .ref k_br, .int (iI bg), .int (iI pn), .ref k_pc, .ref k_pr, .ref k_la, .ref k_lb, .ref k_ha, .ref k_hb, .ref k_ls, .ref k_wc, .int (iI wd), .int (iI mg), .int (iI mw), .int (iI mc)])), (k_ch, .inl (cI, aI 13 fsz))]) (wr := [(k_na, .inl (cI, aI 5200 gna)), (k_no, .inl (cI, aI 152971 gno)), (k_ba, .inl (cZ, aI 468 fba)), (k_ua, .inl (cI, aI 78 ffu)), (k_ub, .inl (cI, aI 78 fsu)), (k_nd, .inl (cI, aI 13 gnd))]) (rest := []) C (c_m_noChoice l dC dI cI cJ cZ m0 k_ch k_co k_ua k_ub k_ba k_rt k_rf k_ct k_cf k_nd k_na k_no k_bt k_bc k_br k_pc k_pr k_la k_lb k_ha k_hb k_ls k_wc HM bg pn wd mg mw mc steps fsz fle fmo a k (kst) (ksz) (by unfold rI at *; omega) (by unfold rI at *; omega)) (st_cV C kw_3_196 kw_3_193 kw_1_6 kw_3_195 kw_0_18 sth_M_noChoice ⟨Nat.le_of_ble_eq_true rfl, Nat.le_of_ble_eq_true rfl⟩) 0 rfl rfl rfl rfl (Nat.le_of_ble_eq_true rfl) std_M_leads_35 ⟨Nat.le_of_ble_eq_true rfl, Nat.le_of_ble_eq_true rfl⟩ [6, 2] [0, 1, 3, 4, 5, 7] rfl rfl rfl rfl (by decide) (fun r7 u8 h9 => ?_)
        subst h9
        refine g_ws (ws' := [(k_na, .inl (cI, aI 5200 gna)), (k_no, .inl (cI, aI 152971 gno)), (k_ba, .inl (cZ, aI 468 fba)), (k_ua, .inl (cI, aI 78 ffu)), (k_ub, .inl (cI, aI 78 fsu)), (k_nd, .inl (cI, aI 13 gnd)), (m0, .inr (5, [.int (iI 0), .int (iI steps), .ref k_ch, .ref k_co, .ref k_ua, .ref k_ub, .ref k_ba, .int (iI (fle 0)), .int (iI (fle 1)), .int (iI (fmo 0)), .int (iI (fmo 1)), .int (iI (bI HM)), .ref k_rt, .ref k_rf, .ref k_ct, .ref k_cf, .ref k_nd, .ref k_na, .ref k_no, .ref k_bt, .ref k_bc, .ref k_br, .int (iI bg), .int (iI pn), .ref k_pc, .ref k_pr, .ref k_la, .ref k_lb, .ref k_ha, .ref k_hb, .ref k_ls, .ref k_wc, .int (iI wd), .int (iI mg), .int (iI mw), .int (iI mc)])), (k_ch, .inl (cI, aI 13 fsz))]) rfl ?_
        refine g_ifeq_b (tgt := 44) C std_M_leads_38 (by decide) (fun c10 => ?_) (fun c10 => ?_)
        · have hae : ((a.toNat : Nat) : Int) = a := by omega
          have hsz := ksz a (by omega) (by omega)
          have hM := kM c1 a.toNat (by omega)
          have hgq := kgH c1 a (by omega) (by omega)
          have hA := me_at kT (by omega) hM (x := b) ⟨by omega, by rw [hae]; omega⟩
          have hAe : (gna ((400 * a) + b)) = 11767 * ((a.toNat : Nat) : Int) + kat (kk (gna (400 * ((a.toNat : Nat) : Int) + b) - 11767 * ((a.toNat : Nat) : Int))) := by rw [← hA.2.2, hae]
          have hnx : ((kn fbb ffu fsu fmo ((((a.toNat : Nat) : Int) * 6) + k) k (kk (gna (400 * ((a.toNat : Nat) : Int) + b) - 11767 * ((a.toNat : Nat) : Int)))) = -1 ∧ (nxt fbb ffu fsu fmo ((a.toNat : Nat) : Int) k (kk (gna (400 * ((a.toNat : Nat) : Int) + b) - 11767 * ((a.toNat : Nat) : Int)))) = -1000000) ∨ (¬ (kn fbb ffu fsu fmo ((((a.toNat : Nat) : Int) * 6) + k) k (kk (gna (400 * ((a.toNat : Nat) : Int) + b) - 11767 * ((a.toNat : Nat) : Int)))) = -1 ∧ (nxt fbb ffu fsu fmo ((a.toNat : Nat) : Int) k (kk (gna (400 * ((a.toNat : Nat) : Int) + b) - 11767 * ((a.toNat : Nat) : Int)))) = 11767 * (((a.toNat : Nat) : Int) + 1) + kat (kn fbb ffu fsu fmo ((((a.toNat : Nat) : Int) * 6) + k) k (kk (gna (400 * ((a.toNat : Nat) : Int) + b) - 11767 * ((a.toNat : Nat) : Int))))) := nx_cases
          have hvr : ¬ (kn fbb ffu fsu fmo ((((a.toNat : Nat) : Int) * 6) + k) k (kk (gna (400 * ((a.toNat : Nat) : Int) + b) - 11767 * ((a.toNat : Nat) : Int)))) = -1 → 0 ≤ kat (kn fbb ffu fsu fmo ((((a.toNat : Nat) : Int) * 6) + k) k (kk (gna (400 * ((a.toNat : Nat) : Int) + b) - 11767 * ((a.toNat : Nat) : Int)))) ∧ kat (kn fbb ffu fsu fmo ((((a.toNat : Nat) : Int) * 6) + k) k (kk (gna (400 * ((a.toNat : Nat) : Int) + b) - 11767 * ((a.toNat : Nat) : Int)))) < 11767 := fun z0 => (kat_r (kn_vk kT (by omega) (by omega) (by omega) (by omega) hA.1 z0).1).1
          refine g_aload_n C 0 std_M_leads_44 rfl ?_
          refine g_aload_n C 0 std_M_leads_45 rfl ?_
          refine g_get C (st_sub sti_M) 6 rfl rfl 17 (by decide) (List.mem_cons_of_mem _ kw_3_83) rfl rfl std_M_leads_46 ?_
          refine g_sipush C std_M_leads_49 (by decide) ?_
          refine g_iload_n C 1 std_M_leads_52 rfl ?_
          refine g_imul C std_M_leads_53 ?_
          refine g_iload_n C 2 std_M_leads_54 rfl ?_
          refine g_iadd C std_M_leads_55 ?_
          refine g_iald C 0 0 rfl rfl (by omega) (by omega) (by omega) std_M_leads_56 ?_
          refine g_iload_n C 3 std_M_leads_57 rfl ?_
          refine g_V_i (wc := [(m0, .inr (5, [.int (iI 0), .int (iI steps), .ref k_ch, .ref k_co, .ref k_ua, .ref k_ub, .ref k_ba, .int (iI (fle 0)), .int (iI (fle 1)), .int (iI (fmo 0)), .int (iI (fmo 1)), .int (iI (bI HM)), .ref k_rt, .ref k_rf, .ref k_ct, .ref k_cf, .ref k_nd, .ref k_na, .ref k_no, .ref k_bt, .ref k_bc, .ref k_br, .int (iI bg), .int (iI pn), .ref k_pc, .ref k_pr, .ref k_la, .ref k_lb, .ref k_ha, .ref k_hb, .ref k_ls, .ref k_wc, .int (iI wd), .int (iI mg), .int (iI mw), .int (iI mc)])), (k_ba, .inl (cZ, aI 468 fba)), (k_ua, .inl (cI, aI 78 ffu)), (k_ub, .inl (cI, aI 78 fsu))]) (wr := [(k_na, .inl (cI, aI 5200 gna)), (k_no, .inl (cI, aI 152971 gno)), (k_nd, .inl (cI, aI 13 gnd)), (k_ch, .inl (cI, aI 13 fsz))]) (rest := []) C (c_m_next l dC dI cI cJ cZ m0 k_ch k_co k_ua k_ub k_ba k_rt k_rf k_ct k_cf k_nd k_na k_no k_bt k_bc k_br k_pc k_pr k_la k_lb k_ha k_hb k_ls k_wc HM bg pn wd mg mw mc steps (a.toNat) fle fba fsz fco ffu fsu fbb fmo (gna ((400 * a) + b)) k (kk (gna (400 * ((a.toNat : Nat) : Int) + b) - 11767 * ((a.toNat : Nat) : Int))) (kBR) (kT) (by omega) (by omega) (hA.1) (fun z0 => by have hA2 := hA.2.1; rw [show wt fsz ffu fsu fbb fmo a.toNat (kk (gna (400 * ((a.toNat : Nat) : Int) + b) - 11767 * ((a.toNat : Nat) : Int))) = wt fsz ffu fsu fbb fmo 0 (kk (gna (400 * ((a.toNat : Nat) : Int) + b) - 11767 * ((a.toNat : Nat) : Int))) by rw [z0]] at hA2; exact wt_00 hA2) (hAe)) (st_cV C kw_3_224 kw_3_221 kw_1_6 kw_3_223 kw_0_21 sth_M_next ⟨Nat.le_of_ble_eq_true rfl, Nat.le_of_ble_eq_true rfl⟩) 0 rfl rfl rfl rfl (Nat.le_of_ble_eq_true rfl) std_M_leads_58 ⟨Nat.le_of_ble_eq_true rfl, Nat.le_of_ble_eq_true rfl⟩ [6, 2, 3, 4] [0, 1, 5, 7] rfl rfl rfl rfl (by decide) (fun r11 u12 h13 => ?_)
          subst h13
          refine g_ws (ws' := [(k_na, .inl (cI, aI 5200 gna)), (k_no, .inl (cI, aI 152971 gno)), (k_nd, .inl (cI, aI 13 gnd)), (k_ch, .inl (cI, aI 13 fsz)), (m0, .inr (5, [.int (iI 0), .int (iI steps), .ref k_ch, .ref k_co, .ref k_ua, .ref k_ub, .ref k_ba, .int (iI (fle 0)), .int (iI (fle 1)), .int (iI (fmo 0)), .int (iI (fmo 1)), .int (iI (bI HM)), .ref k_rt, .ref k_rf, .ref k_ct, .ref k_cf, .ref k_nd, .ref k_na, .ref k_no, .ref k_bt, .ref k_bc, .ref k_br, .int (iI bg), .int (iI pn), .ref k_pc, .ref k_pr, .ref k_la, .ref k_lb, .ref k_ha, .ref k_hb, .ref k_ls, .ref k_wc, .int (iI wd), .int (iI mg), .int (iI mw), .int (iI mc)])), (k_ba, .inl (cZ, aI 468 fba)), (k_ua, .inl (cI, aI 78 ffu)), (k_ub, .inl (cI, aI 78 fsu))]) rfl ?_
          refine g_istore C (lv' := [(4, .int (iI (nxt fbb ffu fsu fmo (((a.toNat) : Nat) : Int) k (kk (gna (400 * ((a.toNat : Nat) : Int) + b) - 11767 * ((a.toNat : Nat) : Int)))))), (0, .ref m0), (1, .int (iI a)), (2, .int (iI b)), (3, .int (iI k))]) std_M_leads_61 (by decide) rfl ?_
          refine g_iload C 0 std_M_leads_63 rfl ?_
          refine g_ldc C (z := (-1000000)) (List.mem_cons_of_mem _ kw_3_234) (by decide) std_M_leads_65 ?_
          refine g_icmp_ne (tgt := 75) C std_M_leads_67 (by decide) ⟨by omega, by omega⟩ ⟨by omega, by omega⟩ (fun c14 => ?_) (fun c14 => ?_)
          · have hv2 := hvr (by omega)
            refine g_aload_n C 1 std_M_leads_75 rfl ?_
            refine g_get C (st_sub sti_M) 4 rfl rfl 18 (by decide) (List.mem_cons_of_mem _ kw_3_84) rfl rfl std_M_leads_76 ?_
            refine g_iload C 0 std_M_leads_79 rfl ?_
            refine g_iald C 1 0 rfl rfl (by omega) (by omega) (by omega) std_M_leads_81 ?_
            refine g_sub (ws' := [(m0, .inr (5, [.int (iI 0), .int (iI steps), .ref k_ch, .ref k_co, .ref k_ua, .ref k_ub, .ref k_ba, .int (iI (fle 0)), .int (iI (fle 1)), .int (iI (fmo 0)), .int (iI (fmo 1)), .int (iI (bI HM)), .ref k_rt, .ref k_rf, .ref k_ct, .ref k_cf, .ref k_nd, .ref k_na, .ref k_no, .ref k_bt, .ref k_bc, .ref k_br, .int (iI bg), .int (iI pn), .ref k_pc, .ref k_pr, .ref k_la, .ref k_lb, .ref k_ha, .ref k_hb, .ref k_ls, .ref k_wc, .int (iI wd), .int (iI mg), .int (iI mw), .int (iI mc)])), (k_nd, .inl (cI, aI 13 gnd)), (k_na, .inl (cI, aI 5200 gna)), (k_no, .inl (cI, aI 152971 gno)), (k_ch, .inl (cI, aI 13 fsz)), (k_ba, .inl (cZ, aI 468 fba)), (k_ua, .inl (cI, aI 78 ffu)), (k_ub, .inl (cI, aI 78 fsu))]) [4, 2, 0, 1, 3, 5, 6, 7] rfl rfl ?_
            refine g_wide (k := 0) (n := 0) (Nat.le_of_ble_eq_true rfl) (Nat.le_of_ble_eq_true rfl) ?_
            exact hret _ _ _ () (by rw [sel_t c1, sel_t (by omega), sel_f (by omega)]) std_M_leads_82
          · refine g_ldc C (z := (-1000000)) (List.mem_cons_of_mem _ kw_3_234) (by decide) std_M_leads_70 ?_
            refine g_goto (tgt := 82) C std_M_leads_72 (by decide) ?_
            refine g_sub (ws' := [(m0, .inr (5, [.int (iI 0), .int (iI steps), .ref k_ch, .ref k_co, .ref k_ua, .ref k_ub, .ref k_ba, .int (iI (fle 0)), .int (iI (fle 1)), .int (iI (fmo 0)), .int (iI (fmo 1)), .int (iI (bI HM)), .ref k_rt, .ref k_rf, .ref k_ct, .ref k_cf, .ref k_nd, .ref k_na, .ref k_no, .ref k_bt, .ref k_bc, .ref k_br, .int (iI bg), .int (iI pn), .ref k_pc, .ref k_pr, .ref k_la, .ref k_lb, .ref k_ha, .ref k_hb, .ref k_ls, .ref k_wc, .int (iI wd), .int (iI mg), .int (iI mw), .int (iI mc)])), (k_nd, .inl (cI, aI 13 gnd)), (k_na, .inl (cI, aI 5200 gna)), (k_no, .inl (cI, aI 152971 gno)), (k_ch, .inl (cI, aI 13 fsz)), (k_ba, .inl (cZ, aI 468 fba)), (k_ua, .inl (cI, aI 78 ffu)), (k_ub, .inl (cI, aI 78 fsu))]) [4, 2, 0, 1, 3, 5, 6, 7] rfl rfl ?_
            refine g_wide (k := 0) (n := 0) (Nat.le_of_ble_eq_true rfl) (Nat.le_of_ble_eq_true rfl) ?_
            exact hret _ _ _ () (by rw [sel_t c1, sel_t (by omega), sel_t (by omega)]) std_M_leads_82
        · refine g_ldc C (z := (-2000000)) (List.mem_cons_of_mem _ kw_3_188) (by decide) std_M_leads_41 ?_
          refine g_sub (ws' := [(m0, .inr (5, [.int (iI 0), .int (iI steps), .ref k_ch, .ref k_co, .ref k_ua, .ref k_ub, .ref k_ba, .int (iI (fle 0)), .int (iI (fle 1)), .int (iI (fmo 0)), .int (iI (fmo 1)), .int (iI (bI HM)), .ref k_rt, .ref k_rf, .ref k_ct, .ref k_cf, .ref k_nd, .ref k_na, .ref k_no, .ref k_bt, .ref k_bc, .ref k_br, .int (iI bg), .int (iI pn), .ref k_pc, .ref k_pr, .ref k_la, .ref k_lb, .ref k_ha, .ref k_hb, .ref k_ls, .ref k_wc, .int (iI wd), .int (iI mg), .int (iI mw), .int (iI mc)])), (k_nd, .inl (cI, aI 13 gnd)), (k_na, .inl (cI, aI 5200 gna)), (k_no, .inl (cI, aI 152971 gno)), (k_ch, .inl (cI, aI 13 fsz)), (k_ba, .inl (cZ, aI 468 fba)), (k_ua, .inl (cI, aI 78 ffu)), (k_ub, .inl (cI, aI 78 fsu))]) [6, 5, 0, 1, 7, 2, 3, 4] rfl rfl ?_
          refine g_wide (k := 0) (n := 0) (Nat.le_of_ble_eq_true rfl) (Nat.le_of_ble_eq_true rfl) ?_
          exact hret _ _ _ () (by rw [sel_t c1, sel_f (by omega)]) std_M_leads_43
  · refine g_ldc C (z := (-4000000)) (List.mem_cons_of_mem _ kw_4_15) (by decide) std_M_leads_12 ?_
    exact hret _ _ _ () (by rw [sel_f c1]) std_M_leads_14

