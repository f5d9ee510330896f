/-! the model: dominates -/
abbrev sty_M_dominates : MethodName := ⟨"StateTablesModel", "dominates", "(II)Z"⟩
abbrev stc_M_dominates : ByteArray := prog_7_method_30_code
theorem sth_M_dominates : (sty_M_dominates).cls ≠ "java/lang/invoke/MethodHandle" ∧ (sty_M_dominates).cls ≠ "java/lang/invoke/VarHandle" ∧ (parseMethodDescriptor (sty_M_dominates).desc).map (fun d => d.parameters.length) = some 2 := by decide +kernel
theorem std_M_dominates_0 : decode stc_M_dominates 0 = .ok (.aload_n 0, 1) := by decide +kernel
theorem std_M_dominates_1 : decode stc_M_dominates 1 = .ok (.getfield 109, 3) := by decide +kernel
theorem std_M_dominates_4 : decode stc_M_dominates 4 = .ok (.ifCond .le 22, 3) := by decide +kernel
theorem std_M_dominates_26 : decode stc_M_dominates 26 = .ok (.iload_n 1, 1) := by decide +kernel
theorem std_M_dominates_27 : decode stc_M_dominates 27 = .ok (.invokestatic 123, 3) := by decide +kernel
theorem std_M_dominates_30 : decode stc_M_dominates 30 = .ok (.iload_n 2, 1) := by decide +kernel
theorem std_M_dominates_31 : decode stc_M_dominates 31 = .ok (.invokestatic 123, 3) := by decide +kernel
theorem std_M_dominates_34 : decode stc_M_dominates 34 = .ok (.if_icmp .gt 7, 3) := by decide +kernel
theorem std_M_dominates_41 : decode stc_M_dominates 41 = .ok (.iconst 0, 1) := by decide +kernel
theorem std_M_dominates_42 : decode stc_M_dominates 42 = .ok (.istore_n 3, 1) := by decide +kernel
theorem std_M_dominates_43 : decode stc_M_dominates 43 = .ok (.aload_n 0, 1) := by decide +kernel
theorem std_M_dominates_44 : decode stc_M_dominates 44 = .ok (.getfield 112, 3) := by decide +kernel
theorem std_M_dominates_47 : decode stc_M_dominates 47 = .ok (.ifCond .le 22, 3) := by decide +kernel
theorem std_M_dominates_69 : decode stc_M_dominates 69 = .ok (.iload_n 1, 1) := by decide +kernel
theorem std_M_dominates_70 : decode stc_M_dominates 70 = .ok (.invokestatic 126, 3) := by decide +kernel
theorem std_M_dominates_73 : decode stc_M_dominates 73 = .ok (.iload_n 2, 1) := by decide +kernel
theorem std_M_dominates_74 : decode stc_M_dominates 74 = .ok (.invokestatic 126, 3) := by decide +kernel
theorem std_M_dominates_77 : decode stc_M_dominates 77 = .ok (.if_icmp .gt 7, 3) := by decide +kernel
theorem std_M_dominates_84 : decode stc_M_dominates 84 = .ok (.iconst 0, 1) := by decide +kernel
theorem std_M_dominates_85 : decode stc_M_dominates 85 = .ok (.istore 4, 2) := by decide +kernel
theorem std_M_dominates_87 : decode stc_M_dominates 87 = .ok (.iload_n 1, 1) := by decide +kernel
theorem std_M_dominates_88 : decode stc_M_dominates 88 = .ok (.iload_n 2, 1) := by decide +kernel
theorem std_M_dominates_89 : decode stc_M_dominates 89 = .ok (.if_icmp .eq 42, 3) := by decide +kernel
theorem std_M_dominates_131 : decode stc_M_dominates 131 = .ok (.iconst 0, 1) := by decide +kernel
theorem std_M_dominates_132 : decode stc_M_dominates 132 = .ok (.ireturn, 1) := by decide +kernel
theorem std_M_dominates_92 : decode stc_M_dominates 92 = .ok (.iload_n 3, 1) := by decide +kernel
theorem std_M_dominates_93 : decode stc_M_dominates 93 = .ok (.ifCond .eq 38, 3) := by decide +kernel
theorem std_M_dominates_96 : decode stc_M_dominates 96 = .ok (.iload 4, 2) := by decide +kernel
theorem std_M_dominates_98 : decode stc_M_dominates 98 = .ok (.ifCond .eq 33, 3) := by decide +kernel
theorem std_M_dominates_101 : decode stc_M_dominates 101 = .ok (.iload_n 1, 1) := by decide +kernel
theorem std_M_dominates_102 : decode stc_M_dominates 102 = .ok (.invokestatic 119, 3) := by decide +kernel
theorem std_M_dominates_105 : decode stc_M_dominates 105 = .ok (.iload_n 2, 1) := by decide +kernel
theorem std_M_dominates_106 : decode stc_M_dominates 106 = .ok (.invokestatic 119, 3) := by decide +kernel
theorem std_M_dominates_109 : decode stc_M_dominates 109 = .ok (.if_icmp .ne 22, 3) := by decide +kernel
theorem std_M_dominates_112 : decode stc_M_dominates 112 = .ok (.aload_n 0, 1) := by decide +kernel
theorem std_M_dominates_113 : decode stc_M_dominates 113 = .ok (.getfield 44, 3) := by decide +kernel
theorem std_M_dominates_116 : decode stc_M_dominates 116 = .ok (.iload_n 1, 1) := by decide +kernel
theorem std_M_dominates_117 : decode stc_M_dominates 117 = .ok (.iaload, 1) := by decide +kernel
theorem std_M_dominates_118 : decode stc_M_dominates 118 = .ok (.aload_n 0, 1) := by decide +kernel
theorem std_M_dominates_119 : decode stc_M_dominates 119 = .ok (.getfield 44, 3) := by decide +kernel
theorem std_M_dominates_122 : decode stc_M_dominates 122 = .ok (.iload_n 2, 1) := by decide +kernel
theorem std_M_dominates_123 : decode stc_M_dominates 123 = .ok (.iaload, 1) := by decide +kernel
theorem std_M_dominates_124 : decode stc_M_dominates 124 = .ok (.if_icmp .gt 7, 3) := by decide +kernel
theorem std_M_dominates_127 : decode stc_M_dominates 127 = .ok (.iconst 1, 1) := by decide +kernel
theorem std_M_dominates_128 : decode stc_M_dominates 128 = .ok (.goto 4, 3) := by decide +kernel
theorem std_M_dominates_80 : decode stc_M_dominates 80 = .ok (.iconst 1, 1) := by decide +kernel
theorem std_M_dominates_81 : decode stc_M_dominates 81 = .ok (.goto 4, 3) := by decide +kernel
theorem std_M_dominates_50 : decode stc_M_dominates 50 = .ok (.iload_n 1, 1) := by decide +kernel
theorem std_M_dominates_51 : decode stc_M_dominates 51 = .ok (.invokestatic 126, 3) := by decide +kernel
theorem std_M_dominates_54 : decode stc_M_dominates 54 = .ok (.iload_n 2, 1) := by decide +kernel
theorem std_M_dominates_55 : decode stc_M_dominates 55 = .ok (.invokestatic 126, 3) := by decide +kernel
theorem std_M_dominates_58 : decode stc_M_dominates 58 = .ok (.if_icmp .ne 7, 3) := by decide +kernel
theorem std_M_dominates_65 : decode stc_M_dominates 65 = .ok (.iconst 0, 1) := by decide +kernel
theorem std_M_dominates_66 : decode stc_M_dominates 66 = .ok (.goto 19, 3) := by decide +kernel
theorem std_M_dominates_61 : decode stc_M_dominates 61 = .ok (.iconst 1, 1) := by decide +kernel
theorem std_M_dominates_62 : decode stc_M_dominates 62 = .ok (.goto 23, 3) := by decide +kernel
theorem std_M_dominates_37 : decode stc_M_dominates 37 = .ok (.iconst 1, 1) := by decide +kernel
theorem std_M_dominates_38 : decode stc_M_dominates 38 = .ok (.goto 4, 3) := by decide +kernel
theorem std_M_dominates_7 : decode stc_M_dominates 7 = .ok (.iload_n 1, 1) := by decide +kernel
theorem std_M_dominates_8 : decode stc_M_dominates 8 = .ok (.invokestatic 123, 3) := by decide +kernel
theorem std_M_dominates_11 : decode stc_M_dominates 11 = .ok (.iload_n 2, 1) := by decide +kernel
theorem std_M_dominates_12 : decode stc_M_dominates 12 = .ok (.invokestatic 123, 3) := by decide +kernel
theorem std_M_dominates_15 : decode stc_M_dominates 15 = .ok (.if_icmp .ne 7, 3) := by decide +kernel
theorem std_M_dominates_22 : decode stc_M_dominates 22 = .ok (.iconst 0, 1) := by decide +kernel
theorem std_M_dominates_23 : decode stc_M_dominates 23 = .ok (.goto 19, 3) := by decide +kernel
theorem std_M_dominates_18 : decode stc_M_dominates 18 = .ok (.iconst 1, 1) := by decide +kernel
theorem std_M_dominates_19 : decode stc_M_dominates 19 = .ok (.goto 23, 3) := by decide +kernel
set_option maxHeartbeats 4000000 in
set_option maxRecDepth 100000 in
theorem c_m_dominates (l : Launch) (dC : Nat → ClassId) (dI : Nat → Nat → Nat) (cI cJ cZ : ClassId) (m0 : Nat) (k_ch : Nat) (k_co : Nat) (k_ua : Nat) (k_ub : Nat) (k_ba : Nat) (k_rt : Nat) (k_rf : Nat) (k_ct : Nat) (k_cf : Nat) (k_nd : Nat) (k_na : Nat) (k_no : Nat) (k_bt : Nat) (k_bc : Nat) (k_br : Nat) (k_pc : Nat) (k_pr : Nat) (k_la : Nat) (k_lb : Nat) (k_ha : Nat) (k_hb : Nat) (k_ls : Nat) (k_wc : Nat) (HM : Prop) (bg : Int) (pn : Int) (wd : Int) (mg : Int) (mw : Int) (mc : Int) (steps : Int) (fle : Int → Int) (fmo : Int → Int) (gct : Int → Int) (a : Int) (b : Int) (kle : ∀ j, 0 ≤ j → j < 2 → 0 ≤ fle j ∧ fle j ≤ 40) (ka : 0 ≤ a ∧ a < 152971 ∧ -100000 ≤ gct a ∧ gct a ≤ 100000) (kb : 0 ≤ b ∧ b < 152971 ∧ -100000 ≤ gct b ∧ gct b ≤ 100000) : ∀ sz, Met l sty_M_dominates (Cond.code sty_M_dominates stc_M_dominates 5 (some .boolean) :: stGW) ({ frames := 1, cells := 0, slots := 0, locals := 20 } : Room) (va_Pc [.ref m0, .int (iI a), .int (iI b)] (zPre (dC, dI) stCl [(cI, .int), (cJ, .long), (cZ, .boolean)] st_nw [(m0, .inr (5, [.int (iI 0), .int (iI steps), .ref k_ch, .ref k_co, .ref k_ua, .ref k_ub, .ref k_ba, .int (iI (fle 0)), .int (iI (fle 1)), .int (iI (fmo 0)), .int (iI (fmo 1)), .int (iI (bI HM)), .ref k_rt, .ref k_rf, .ref k_ct, .ref k_cf, .ref k_nd, .ref k_na, .ref k_no, .ref k_bt, .ref k_bc, .ref k_br, .int (iI bg), .int (iI pn), .ref k_pc, .ref k_pr, .ref k_la, .ref k_lb, .ref k_ha, .ref k_hb, .ref k_ls, .ref k_wc, .int (iI wd), .int (iI mg), .int (iI mw), .int (iI mc)])), (k_ct, .inl (cI, aI 152971 gct))] sz)) (va_Qi (fun (r : Int32) (_ : Unit) => r = iI (bI (DMp fle gct a b))) (zPost (dC, dI) stCl [(cI, .int), (cJ, .long), (cZ, .boolean)] [(m0, .inr (5, [.int (iI 0), .int (iI steps), .ref k_ch, .ref k_co, .ref k_ua, .ref k_ub, .ref k_ba, .int (iI (fle 0)), .int (iI (fle 1)), .int (iI (fmo 0)), .int (iI (fmo 1)), .int (iI (bI HM)), .ref k_rt, .ref k_rf, .ref k_ct, .ref k_cf, .ref k_nd, .ref k_na, .ref k_no, .ref k_bt, .ref k_bc, .ref k_br, .int (iI bg), .int (iI pn), .ref k_pc, .ref k_pr, .ref k_la, .ref k_lb, .ref k_ha, .ref k_hb, .ref k_ls, .ref k_wc, .int (iI wd), .int (iI mg), .int (iI mw), .int (iI mc)])), (k_ct, .inl (cI, aI 152971 gct))] sz (fun _ : Unit => [(m0, .inr (5, [.int (iI 0), .int (iI steps), .ref k_ch, .ref k_co, .ref k_ua, .ref k_ub, .ref k_ba, .int (iI (fle 0)), .int (iI (fle 1)), .int (iI (fmo 0)), .int (iI (fmo 1)), .int (iI (bI HM)), .ref k_rt, .ref k_rf, .ref k_ct, .ref k_cf, .ref k_nd, .ref k_na, .ref k_no, .ref k_bt, .ref k_bc, .ref k_br, .int (iI bg), .int (iI pn), .ref k_pc, .ref k_pr, .ref k_la, .ref k_lb, .ref k_ha, .ref k_hb, .ref k_ls, .ref k_wc, .int (iI wd), .int (iI mg), .int (iI mw), .int (iI mc)])), (k_ct, .inl (cI, aI 152971 gct))])) (va_A [(m0, .inr (5, [.int (iI 0), .int (iI steps), .ref k_ch, .ref k_co, .ref k_ua, .ref k_ub, .ref k_ba, .int (iI (fle 0)), .int (iI (fle 1)), .int (iI (fmo 0)), .int (iI (fmo 1)), .int (iI (bI HM)), .ref k_rt, .ref k_rf, .ref k_ct, .ref k_cf, .ref k_nd, .ref k_na, .ref k_no, .ref k_bt, .ref k_bc, .ref k_br, .int (iI bg), .int (iI pn), .ref k_pc, .ref k_pr, .ref k_la, .ref k_lb, .ref k_ha, .ref k_hb, .ref k_ls, .ref k_wc, .int (iI wd), .int (iI mg), .int (iI mw), .int (iI mc)])), (k_ct, .inl (cI, aI 152971 gct))] sz)) 0 0 (va_A [(m0, .inr (5, [.int (iI 0), .int (iI steps), .ref k_ch, .ref k_co, .ref k_ua, .ref k_ub, .ref k_ba, .int (iI (fle 0)), .int (iI (fle 1)), .int (iI (fmo 0)), .int (iI (fmo 1)), .int (iI (bI HM)), .ref k_rt, .ref k_rf, .ref k_ct, .ref k_cf, .ref k_nd, .ref k_na, .ref k_no, .ref k_bt, .ref k_bc, .ref k_br, .int (iI bg), .int (iI pn), .ref k_pc, .ref k_pr, .ref k_la, .ref k_lb, .ref k_ha, .ref k_hb, .ref k_ls, .ref k_wc, .int (iI wd), .int (iI mg), .int (iI mw), .int (iI mc)])), (k_ct, .inl (cI, aI 152971 gct))] sz) := by
  refine met_z (by decide) rfl (Nat.le_of_ble_eq_true rfl) ?_
  intro p e s m below meth c A Q C hmn hret
  have hl0 := kle 0 (by omega) (by omega)
  have hl1 := kle 1 (by omega) (by omega)
  refine g_aload_n C 0 std_M_dominates_0 rfl ?_
  refine g_get C (st_sub sti_M) 0 rfl rfl 7 (by decide) (List.mem_cons_of_mem _ kw_3_73) rfl rfl std_M_dominates_1 ?_
  refine g_if_le (tgt := 26) C std_M_dominates_4 (by decide) ⟨by omega, by omega⟩ (fun c1 => ?_) (fun c1 => ?_)
  · refine g_iload_n C 1 std_M_dominates_26 rfl ?_
    refine g_S_i (wc := []) (wr := [(m0, .inr (5, [.int (iI 0), .int (iI steps), .ref k_ch, .ref k_co, .ref k_ua, .ref k_ub, .ref k_ba, .int (iI (fle 0)), .int (iI (fle 1)), .int (iI (fmo 0)), .int (iI (fmo 1)), .int (iI (bI HM)), .ref k_rt, .ref k_rf, .ref k_ct, .ref k_cf, .ref k_nd, .ref k_na, .ref k_no, .ref k_bt, .ref k_bc, .ref k_br, .int (iI bg), .int (iI pn), .ref k_pc, .ref k_pr, .ref k_la, .ref k_lb, .ref k_ha, .ref k_hb, .ref k_ls, .ref k_wc, .int (iI wd), .int (iI mg), .int (iI mw), .int (iI mc)])), (k_ct, .inl (cI, aI 152971 gct))]) (rest := []) C (c_m_aOf l dC dI cI cJ cZ a (by omega)) (st_cS C kw_3_230 kw_3_228 kw_1_6 kw_3_229 sth_M_aOf ⟨Nat.le_of_ble_eq_true rfl, Nat.le_of_ble_eq_true rfl⟩) rfl rfl (Nat.le_of_ble_eq_true rfl) std_M_dominates_27 ⟨Nat.le_of_ble_eq_true rfl, Nat.le_of_ble_eq_true rfl⟩ [] [0, 1] rfl rfl rfl rfl (by decide) (fun r2 u3 h4 => ?_)
    subst h4
    refine g_ws (ws' := [(m0, .inr (5, [.int (iI 0), .int (iI steps), .ref k_ch, .ref k_co, .ref k_ua, .ref k_ub, .ref k_ba, .int (iI (fle 0)), .int (iI (fle 1)), .int (iI (fmo 0)), .int (iI (fmo 1)), .int (iI (bI HM)), .ref k_rt, .ref k_rf, .ref k_ct, .ref k_cf, .ref k_nd, .ref k_na, .ref k_no, .ref k_bt, .ref k_bc, .ref k_br, .int (iI bg), .int (iI pn), .ref k_pc, .ref k_pr, .ref k_la, .ref k_lb, .ref k_ha, .ref k_hb, .ref k_ls, .ref k_wc, .int (iI wd), .int (iI mg), .int (iI mw), .int (iI mc)])), (k_ct, .inl (cI, aI 152971 gct))]) rfl ?_
    refine g_iload_n C 2 std_M_dominates_30 rfl ?_
    refine g_S_i (wc := []) (wr := [(m0, .inr (5, [.int (iI 0), .int (iI steps), .ref k_ch, .ref k_co, .ref k_ua, .ref k_ub, .ref k_ba, .int (iI (fle 0)), .int (iI (fle 1)), .int (iI (fmo 0)), .int (iI (fmo 1)), .int (iI (bI HM)), .ref k_rt, .ref k_rf, .ref k_ct, .ref k_cf, .ref k_nd, .ref k_na, .ref k_no, .ref k_bt, .ref k_bc, .ref k_br, .int (iI bg), .int (iI pn), .ref k_pc, .ref k_pr, .ref k_la, .ref k_lb, .ref k_ha, .ref k_hb, .ref k_ls, .ref k_wc, .int (iI wd), .int (iI mg), .int (iI mw), .int (iI mc)])), (k_ct, .inl (cI, aI 152971 gct))]) (rest := [.int (iI (((a % 11767) / 7) / 41))]) C (c_m_aOf l dC dI cI cJ cZ b (by omega)) (st_cS C kw_3_230 kw_3_228 kw_1_6 kw_3_229 sth_M_aOf ⟨Nat.le_of_ble_eq_true rfl, Nat.le_of_ble_eq_true rfl⟩) rfl rfl (Nat.le_of_ble_eq_true rfl) std_M_dominates_31 ⟨Nat.le_of_ble_eq_true rfl, Nat.le_of_ble_eq_true rfl⟩ [] [0, 1] rfl rfl rfl rfl (by decide) (fun r5 u6 h7 => ?_)
    subst h7
    refine g_ws (ws' := [(m0, .inr (5, [.int (iI 0), .int (iI steps), .ref k_ch, .ref k_co, .ref k_ua, .ref k_ub, .ref k_ba, .int (iI (fle 0)), .int (iI (fle 1)), .int (iI (fmo 0)), .int (iI (fmo 1)), .int (iI (bI HM)), .ref k_rt, .ref k_rf, .ref k_ct, .ref k_cf, .ref k_nd, .ref k_na, .ref k_no, .ref k_bt, .ref k_bc, .ref k_br, .int (iI bg), .int (iI pn), .ref k_pc, .ref k_pr, .ref k_la, .ref k_lb, .ref k_ha, .ref k_hb, .ref k_ls, .ref k_wc, .int (iI wd), .int (iI mg), .int (iI mw), .int (iI mc)])), (k_ct, .inl (cI, aI 152971 gct))]) rfl ?_
    refine g_icmp_gt (tgt := 41) C std_M_dominates_34 (by decide) ⟨by omega, by omega⟩ ⟨by omega, by omega⟩ (fun c8 => ?_) (fun c8 => ?_)
    · refine g_iconst C std_M_dominates_41 ?_
      refine g_istore_n C (lv' := [(3, .int (iI 0)), (0, .ref m0), (1, .int (iI a)), (2, .int (iI b))]) std_M_dominates_42 (by decide) rfl ?_
      have L43 : ∀ (z3 : Int), ((z3 = 1 ∧ ((0 < fle 0 ∧ (((a % 11767) / 7) / 41) = (((b % 11767) / 7) / 41)) ∨ (fle 0 ≤ 0 ∧ (((a % 11767) / 7) / 41) ≤ (((b % 11767) / 7) / 41)))) ∨ (z3 = 0 ∧ ¬ ((0 < fle 0 ∧ (((a % 11767) / 7) / 41) = (((b % 11767) / 7) / 41)) ∨ (fle 0 ≤ 0 ∧ (((a % 11767) / 7) / 41) ≤ (((b % 11767) / 7) / 41))))) → G p l e ({ frames := 1, cells := 0, slots := 0, locals := 20 } : Room) s m ([.ref m0, .int (iI a), .int (iI b)] : List Value).toArray below meth c (dC, dI) stCl 5 A 0 0 Q [(m0, .inr (5, [.int (iI 0), .int (iI steps), .ref k_ch, .ref k_co, .ref k_ua, .ref k_ub, .ref k_ba, .int (iI (fle 0)), .int (iI (fle 1)), .int (iI (fmo 0)), .int (iI (fmo 1)), .int (iI (bI HM)), .ref k_rt, .ref k_rf, .ref k_ct, .ref k_cf, .ref k_nd, .ref k_na, .ref k_no, .ref k_bt, .ref k_bc, .ref k_br, .int (iI bg), .int (iI pn), .ref k_pc, .ref k_pr, .ref k_la, .ref k_lb, .ref k_ha, .ref k_hb, .ref k_ls, .ref k_wc, .int (iI wd), .int (iI mg), .int (iI mw), .int (iI mc)])), (k_ct, .inl (cI, aI 152971 gct))] 43 [(3, .int (iI z3)), (2, .int (iI b)), (1, .int (iI a)), (0, .ref m0)] [] := by
        intro z3 kz3
        refine g_aload_n C 3 std_M_dominates_43 rfl ?_
        refine g_get C (st_sub sti_M) 0 rfl rfl 8 (by decide) (List.mem_cons_of_mem _ kw_3_74) rfl rfl std_M_dominates_44 ?_
        refine g_if_le (tgt := 69) C std_M_dominates_47 (by decide) ⟨by omega, by omega⟩ (fun c9 => ?_) (fun c9 => ?_)
        · refine g_iload_n C 2 std_M_dominates_69 rfl ?_
          refine g_S_i (wc := []) (wr := [(m0, .inr (5, [.int (iI 0), .int (iI steps), .ref k_ch, .ref k_co, .ref k_ua, .ref k_ub, .ref k_ba, .int (iI (fle 0)), .int (iI (fle 1)), .int (iI (fmo 0)), .int (iI (fmo 1)), .int (iI (bI HM)), .ref k_rt, .ref k_rf, .ref k_ct, .ref k_cf, .ref k_nd, .ref k_na, .ref k_no, .ref k_bt, .ref k_bc, .ref k_br, .int (iI bg), .int (iI pn), .ref k_pc, .ref k_pr, .ref k_la, .ref k_lb, .ref k_ha, .ref k_hb, .ref k_ls, .ref k_wc, .int (iI wd), .int (iI mg), .int (iI mw), .int (iI mc)])), (k_ct, .inl (cI, aI 152971 gct))]) (rest := []) C (c_m_bOf l dC dI cI cJ cZ a (by omega)) (st_cS C kw_3_233 kw_3_231 kw_1_6 kw_3_232 sth_M_bOf ⟨Nat.le_of_ble_eq_true rfl, Nat.le_of_ble_eq_true rfl⟩) rfl rfl (Nat.le_of_ble_eq_true rfl) std_M_dominates_70 ⟨Nat.le_of_ble_eq_true rfl, Nat.le_of_ble_eq_true rfl⟩ [] [0, 1] rfl rfl rfl rfl (by decide) (fun r10 u11 h12 => ?_)
          subst h12
          refine g_ws (ws' := [(m0, .inr (5, [.int (iI 0), .int (iI steps), .ref k_ch, .ref k_co, .ref k_ua, .ref k_ub, .ref k_ba, .int (iI (fle 0)), .int (iI (fle 1)), .int (iI (fmo 0)), .int (iI (fmo 1)), .int (iI (bI HM)), .ref k_rt, .ref k_rf, .ref k_ct, .ref k_cf, .ref k_nd, .ref k_na, .ref k_no, .ref k_bt, .ref k_bc, .ref k_br, .int (iI bg), .int (iI pn), .ref k_pc, .ref k_pr, .ref k_la, .ref k_lb, .ref k_ha, .ref k_hb, .ref k_ls, .ref k_wc, .int (iI wd), .int (iI mg), .int (iI mw), .int (iI mc)])), (k_ct, .inl (cI, aI 152971 gct))]) rfl ?_
          refine g_iload_n C 1 std_M_dominates_73 rfl ?_
          refine g_S_i (wc := []) (wr := [(m0, .inr (5, [.int (iI 0), .int (iI steps), .ref k_ch, .ref k_co, .ref k_ua, .ref k_ub, .ref k_ba, .int (iI (fle 0)), .int (iI (fle 1)), .int (iI (fmo 0)), .int (iI (fmo 1)), .int (iI (bI HM)), .ref k_rt, .ref k_rf, .ref k_ct, .ref k_cf, .ref k_nd, .ref k_na, .ref k_no, .ref k_bt, .ref k_bc, .ref k_br, .int (iI bg), .int (iI pn), .ref k_pc, .ref k_pr, .ref k_la, .ref k_lb, .ref k_ha, .ref k_hb, .ref k_ls, .ref k_wc, .int (iI wd), .int (iI mg), .int (iI mw), .int (iI mc)])), (k_ct, .inl (cI, aI 152971 gct))]) (rest := [.int (iI (((a % 11767) / 7) % 41))]) C (c_m_bOf l dC dI cI cJ cZ b (by omega)) (st_cS C kw_3_233 kw_3_231 kw_1_6 kw_3_232 sth_M_bOf ⟨Nat.le_of_ble_eq_true rfl, Nat.le_of_ble_eq_true rfl⟩) rfl rfl (Nat.le_of_ble_eq_true rfl) std_M_dominates_74 ⟨Nat.le_of_ble_eq_true rfl, Nat.le_of_ble_eq_true rfl⟩ [] [0, 1] rfl rfl rfl rfl (by decide) (fun r13 u14 h15 => ?_)
          subst h15
          refine g_ws (ws' := [(m0, .inr (5, [.int (iI 0), .int (iI steps), .ref k_ch, .ref k_co, .ref k_ua, .ref k_ub, .ref k_ba, .int (iI (fle 0)), .int (iI (fle 1)), .int (iI (fmo 0)), .int (iI (fmo 1)), .int (iI (bI HM)), .ref k_rt, .ref k_rf, .ref k_ct, .ref k_cf, .ref k_nd, .ref k_na, .ref k_no, .ref k_bt, .ref k_bc, .ref k_br, .int (iI bg), .int (iI pn), .ref k_pc, .ref k_pr, .ref k_la, .ref k_lb, .ref k_ha, .ref k_hb, .ref k_ls, .ref k_wc, .int (iI wd), .int (iI mg), .int (iI mw), .int (iI mc)])), (k_ct, .inl (cI, aI 152971 gct))]) rfl ?_
          refine g_icmp_gt (tgt := 84) C std_M_dominates_77 (by decide) ⟨by omega, by omega⟩ ⟨by omega, by omega⟩ (fun c16 => ?_) (fun c16 => ?_)
          · refine g_iconst C std_M_dominates_84 ?_
            refine g_istore C (lv' := [(4, .int (iI 0)), (3, .int (iI z3)), (2, .int (iI b)), (1, .int (iI a)), (0, .ref m0)]) std_M_dominates_85 (by decide) rfl ?_
            have L87 : ∀ (z4 : Int), ((z4 = 1 ∧ ((0 < fle 1 ∧ (((a % 11767) / 7) % 41) = (((b % 11767) / 7) % 41)) ∨ (fle 1 ≤ 0 ∧ (((a % 11767) / 7) % 41) ≤ (((b % 11767) / 7) % 41)))) ∨ (z4 = 0 ∧ ¬ ((0 < fle 1 ∧ (((a % 11767) / 7) % 41) = (((b % 11767) / 7) % 41)) ∨ (fle 1 ≤ 0 ∧ (((a % 11767) / 7) % 41) ≤ (((b % 11767) / 7) % 41))))) → G p l e ({ frames := 1, cells := 0, slots := 0, locals := 20 } : Room) s m ([.ref m0, .int (iI a), .int (iI b)] : List Value).toArray below meth c (dC, dI) stCl 5 A 0 0 Q [(m0, .inr (5, [.int (iI 0), .int (iI steps), .ref k_ch, .ref k_co, .ref k_ua, .ref k_ub, .ref k_ba, .int (iI (fle 0)), .int (iI (fle 1)), .int (iI (fmo 0)), .int (iI (fmo 1)), .int (iI (bI HM)), .ref k_rt, .ref k_rf, .ref k_ct, .ref k_cf, .ref k_nd, .ref k_na, .ref k_no, .ref k_bt, .ref k_bc, .ref k_br, .int (iI bg), .int (iI pn), .ref k_pc, .ref k_pr, .ref k_la, .ref k_lb, .ref k_ha, .ref k_hb, .ref k_ls, .ref k_wc, .int (iI wd), .int (iI mg), .int (iI mw), .int (iI mc)])), (k_ct, .inl (cI, aI 152971 gct))] 87 [(4, .int (iI z4)), (3, .int (iI z3)), (2, .int (iI b)), (1, .int (iI a)), (0, .ref m0)] [] := by
              intro z4 kz4
              refine g_iload_n C 3 std_M_dominates_87 rfl ?_
              refine g_iload_n C 2 std_M_dominates_88 rfl ?_
              refine g_icmp_eq (tgt := 131) C std_M_dominates_89 (by decide) ⟨by omega, by omega⟩ ⟨by omega, by omega⟩ (fun c17 => ?_) (fun c17 => ?_)
              · refine g_iconst C std_M_dominates_131 ?_
                exact hret _ _ _ () (by rw [bI_f (by unfold DMp; omega)]) (by decide) std_M_dominates_132
              · refine g_iload_n C 1 std_M_dominates_92 rfl ?_
                refine g_if_eq (tgt := 131) C std_M_dominates_93 (by decide) ⟨by omega, by omega⟩ (fun c18 => ?_) (fun c18 => ?_)
                · refine g_iconst C std_M_dominates_131 ?_
                  exact hret _ _ _ () (by rw [bI_f (by unfold DMp; omega)]) (by decide) std_M_dominates_132
                · refine g_iload C 0 std_M_dominates_96 rfl ?_
                  refine g_if_eq (tgt := 131) C std_M_dominates_98 (by decide) ⟨by omega, by omega⟩ (fun c19 => ?_) (fun c19 => ?_)
                  · refine g_iconst C std_M_dominates_131 ?_
                    exact hret _ _ _ () (by rw [bI_f (by unfold DMp; omega)]) (by decide) std_M_dominates_132
                  · refine g_iload_n C 3 std_M_dominates_101 rfl ?_
                    refine g_S_i (wc := []) (wr := [(m0, .inr (5, [.int (iI 0), .int (iI steps), .ref k_ch, .ref k_co, .ref k_ua, .ref k_ub, .ref k_ba, .int (iI (fle 0)), .int (iI (fle 1)), .int (iI (fmo 0)), .int (iI (fmo 1)), .int (iI (bI HM)), .ref k_rt, .ref k_rf, .ref k_ct, .ref k_cf, .ref k_nd, .ref k_na, .ref k_no, .ref k_bt, .ref k_bc, .ref k_br, .int (iI bg), .int (iI pn), .ref k_pc, .ref k_pr, .ref k_la, .ref k_lb, .ref k_ha, .ref k_hb, .ref k_ls, .ref k_wc, .int (iI wd), .int (iI mg), .int (iI mw), .int (iI mc)])), (k_ct, .inl (cI, aI 152971 gct))]) (rest := []) C (c_m_lastOf l dC dI cI cJ cZ a (by omega)) (st_cS C kw_3_227 kw_3_225 kw_1_6 kw_3_226 sth_M_lastOf ⟨Nat.le_of_ble_eq_true rfl, Nat.le_of_ble_eq_true rfl⟩) rfl rfl (Nat.le_of_ble_eq_true rfl) std_M_dominates_102 ⟨Nat.le_of_ble_eq_true rfl, Nat.le_of_ble_eq_true rfl⟩ [] [0, 1] rfl rfl rfl rfl (by decide) (fun r20 u21 h22 => ?_)
                    subst h22
                    refine g_ws (ws' := [(m0, .inr (5, [.int (iI 0), .int (iI steps), .ref k_ch, .ref k_co, .ref k_ua, .ref k_ub, .ref k_ba, .int (iI (fle 0)), .int (iI (fle 1)), .int (iI (fmo 0)), .int (iI (fmo 1)), .int (iI (bI HM)), .ref k_rt, .ref k_rf, .ref k_ct, .ref k_cf, .ref k_nd, .ref k_na, .ref k_no, .ref k_bt, .ref k_bc, .ref k_br, .int (iI bg), .int (iI pn), .ref k_pc, .ref k_pr, .ref k_la, .ref k_lb, .ref k_ha, .ref k_hb, .ref k_ls, .ref k_wc, .int (iI wd), .int (iI mg), .int (iI mw), .int (iI mc)])), (k_ct, .inl (cI, aI 152971 gct))]) rfl ?_
                    refine g_iload_n C 2 std_M_dominates_105 rfl ?_
                    refine g_S_i (wc := []) (wr := [(m0, .inr (5, [.int (iI 0), .int (iI steps), .ref k_ch, .ref k_co, .ref k_ua, .ref k_ub, .ref k_ba, .int (iI (fle 0)), .int (iI (fle 1)), .int (iI (fmo 0)), .int (iI (fmo 1)), .int (iI (bI HM)), .ref k_rt, .ref k_rf, .ref k_ct, .ref k_cf, .ref k_nd, .ref k_na, .ref k_no, .ref k_bt, .ref k_bc, .ref k_br, .int (iI bg), .int (iI pn), .ref k_pc, .ref k_pr, .ref k_la, .ref k_lb, .ref k_ha, .ref k_hb, .ref k_ls, .ref k_wc, .int (iI wd), .int (iI mg), .int (iI mw), .int (iI mc)])), (k_ct, .inl (cI, aI 152971 gct))]) (rest := [.int (iI ((a % 7) - 1))]) C (c_m_lastOf l dC dI cI cJ cZ b (by omega)) (st_cS C kw_3_227 kw_3_225 kw_1_6 kw_3_226 sth_M_lastOf ⟨Nat.le_of_ble_eq_true rfl, Nat.le_of_ble_eq_true rfl⟩) rfl rfl (Nat.le_of_ble_eq_true rfl) std_M_dominates_106 ⟨Nat.le_of_ble_eq_true rfl, Nat.le_of_ble_eq_true rfl⟩ [] [0, 1] rfl rfl rfl rfl (by decide) (fun r23 u24 h25 => ?_)
                    subst h25
                    refine g_ws (ws' := [(m0, .inr (5, [.int (iI 0), .int (iI steps), .ref k_ch, .ref k_co, .ref k_ua, .ref k_ub, .ref k_ba, .int (iI (fle 0)), .int (iI (fle 1)), .int (iI (fmo 0)), .int (iI (fmo 1)), .int (iI (bI HM)), .ref k_rt, .ref k_rf, .ref k_ct, .ref k_cf, .ref k_nd, .ref k_na, .ref k_no, .ref k_bt, .ref k_bc, .ref k_br, .int (iI bg), .int (iI pn), .ref k_pc, .ref k_pr, .ref k_la, .ref k_lb, .ref k_ha, .ref k_hb, .ref k_ls, .ref k_wc, .int (iI wd), .int (iI mg), .int (iI mw), .int (iI mc)])), (k_ct, .inl (cI, aI 152971 gct))]) rfl ?_
                    refine g_icmp_ne (tgt := 131) C std_M_dominates_109 (by decide) ⟨by omega, by omega⟩ ⟨by omega, by omega⟩ (fun c26 => ?_) (fun c26 => ?_)
                    · refine g_iconst C std_M_dominates_131 ?_
                      refine g_wide (k := 0) (n := 0) (Nat.le_of_ble_eq_true rfl) (Nat.le_of_ble_eq_true rfl) ?_
                      exact hret _ _ _ () (by rw [bI_f (by unfold DMp; omega)]) (by decide) std_M_dominates_132
                    · refine g_aload_n C 4 std_M_dominates_112 rfl ?_
                      refine g_get C (st_sub sti_M) 0 rfl rfl 14 (by decide) (List.mem_cons_of_mem _ kw_3_80) rfl rfl std_M_dominates_113 ?_
                      refine g_iload_n C 3 std_M_dominates_116 rfl ?_
                      refine g_iald C 1 0 rfl rfl (by omega) (by omega) (by omega) std_M_dominates_117 ?_
                      refine g_aload_n C 4 std_M_dominates_118 rfl ?_
                      refine g_get C (st_sub sti_M) 0 rfl rfl 14 (by decide) (List.mem_cons_of_mem _ kw_3_80) rfl rfl std_M_dominates_119 ?_
                      refine g_iload_n C 2 std_M_dominates_122 rfl ?_
                      refine g_iald C 1 0 rfl rfl (by omega) (by omega) (by omega) std_M_dominates_123 ?_
                      refine g_icmp_gt (tgt := 131) C std_M_dominates_124 (by decide) ⟨by omega, by omega⟩ ⟨by omega, by omega⟩ (fun c27 => ?_) (fun c27 => ?_)
                      · refine g_iconst C std_M_dominates_131 ?_
                        refine g_wide (k := 0) (n := 0) (Nat.le_of_ble_eq_true rfl) (Nat.le_of_ble_eq_true rfl) ?_
                        exact hret _ _ _ () (by rw [bI_f (by unfold DMp; omega)]) (by decide) std_M_dominates_132
                      · refine g_iconst C std_M_dominates_127 ?_
                        refine g_goto (tgt := 132) C std_M_dominates_128 (by decide) ?_
                        refine g_wide (k := 0) (n := 0) (Nat.le_of_ble_eq_true rfl) (Nat.le_of_ble_eq_true rfl) ?_
                        exact hret _ _ _ () (by rw [bI_t (by unfold DMp; omega)]) (by decide) std_M_dominates_132
            refine g_wide (k := 0) (n := 0) (Nat.le_of_ble_eq_true rfl) (Nat.le_of_ble_eq_true rfl) ?_
            exact L87 0 (by omega)
          · refine g_iconst C std_M_dominates_80 ?_
            refine g_goto (tgt := 85) C std_M_dominates_81 (by decide) ?_
            refine g_istore C (lv' := [(4, .int (iI 1)), (3, .int (iI z3)), (2, .int (iI b)), (1, .int (iI a)), (0, .ref m0)]) std_M_dominates_85 (by decide) rfl ?_
            have L87 : ∀ (z4 : Int), ((z4 = 1 ∧ ((0 < fle 1 ∧ (((a % 11767) / 7) % 41) = (((b % 11767) / 7) % 41)) ∨ (fle 1 ≤ 0 ∧ (((a % 11767) / 7) % 41) ≤ (((b % 11767) / 7) % 41)))) ∨ (z4 = 0 ∧ ¬ ((0 < fle 1 ∧ (((a % 11767) / 7) % 41) = (((b % 11767) / 7) % 41)) ∨ (fle 1 ≤ 0 ∧ (((a % 11767) / 7) % 41) ≤ (((b % 11767) / 7) % 41))))) → G p l e ({ frames := 1, cells := 0, slots := 0, locals := 20 } : Room) s m ([.ref m0, .int (iI a), .int (iI b)] : List Value).toArray below meth c (dC, dI) stCl 5 A 0 0 Q [(m0, .inr (5, [.int (iI 0), .int (iI steps), .ref k_ch, .ref k_co, .ref k_ua, .ref k_ub, .ref k_ba, .int (iI (fle 0)), .int (iI (fle 1)), .int (iI (fmo 0)), .int (iI (fmo 1)), .int (iI (bI HM)), .ref k_rt, .ref k_rf, .ref k_ct, .ref k_cf, .ref k_nd, .ref k_na, .ref k_no, .ref k_bt, .ref k_bc, .ref k_br, .int (iI bg), .int (iI pn), .ref k_pc, .ref k_pr, .ref k_la, .ref k_lb, .ref k_ha, .ref k_hb, .ref k_ls, .ref k_wc, .int (iI wd), .int (iI mg), .int (iI mw), .int (iI mc)])), (k_ct, .inl (cI, aI 152971 gct))] 87 [(4, .int (iI z4)), (3, .int (iI z3)), (2, .int (iI b)), (1, .int (iI a)), (0, .ref m0)] [] := by
              intro z4 kz4
              refine g_iload_n C 3 std_M_dominates_87 rfl ?_
              refine g_iload_n C 2 std_M_dominates_88 rfl ?_
              refine g_icmp_eq (tgt := 131) C std_M_dominates_89 (by decide) ⟨by omega, by omega⟩ ⟨by omega, by omega⟩ (fun c28 => ?_) (fun c28 => ?_)
              · refine g_iconst C std_M_dominates_131 ?_
                exact hret _ _ _ () (by rw [bI_f (by unfold DMp; omega)]) (by decide) std_M_dominates_132
              · refine g_iload_n C 1 std_M_dominates_92 rfl ?_
                refine g_if_eq (tgt := 131) C std_M_dominates_93 (by decide) ⟨by omega, by omega⟩ (fun c29 => ?_) (fun c29 => ?_)
                · refine g_iconst C std_M_dominates_131 ?_
                  exact hret _ _ _ () (by rw [bI_f (by unfold DMp; omega)]) (by decide) std_M_dominates_132
                · refine g_iload C 0 std_M_dominates_96 rfl ?_
                  refine g_if_eq (tgt := 131) C std_M_dominates_98 (by decide) ⟨by omega, by omega⟩ (fun c30 => ?_) (fun c30 => ?_)
                  · refine g_iconst C std_M_dominates_131 ?_
                    exact hret _ _ _ () (by rw [bI_f (by unfold DMp; omega)]) (by decide) std_M_dominates_132
                  · refine g_iload_n C 3 std_M_dominates_101 rfl ?_
                    refine g_S_i (wc := []) (wr := [(m0, .inr (5, [.int (iI 0), .int (iI steps), .ref k_ch, .ref k_co, .ref k_ua, .ref k_ub, .ref k_ba, .int (iI (fle 0)), .int (iI (fle 1)), .int (iI (fmo 0)), .int (iI (fmo 1)), .int (iI (bI HM)), .ref k_rt, .ref k_rf, .ref k_ct, .ref k_cf, .ref k_nd, .ref k_na, .ref k_no, .ref k_bt, .ref k_bc, .ref k_br, .int (iI bg), .int (iI pn), .ref k_pc, .ref k_pr, .ref k_la, .ref k_lb, .ref k_ha, .ref k_hb, .ref k_ls, .ref k_wc, .int (iI wd), .int (iI mg), .int (iI mw), .int (iI mc)])), (k_ct, .inl (cI, aI 152971 gct))]) (rest := []) C (c_m_lastOf l dC dI cI cJ cZ a (by omega)) (st_cS C kw_3_227 kw_3_225 kw_1_6 kw_3_226 sth_M_lastOf ⟨Nat.le_of_ble_eq_true rfl, Nat.le_of_ble_eq_true rfl⟩) rfl rfl (Nat.le_of_ble_eq_true rfl) std_M_dominates_102 ⟨Nat.le_of_ble_eq_true rfl, Nat.le_of_ble_eq_true rfl⟩ [] [0, 1] rfl rfl rfl rfl (by decide) (fun r31 u32 h33 => ?_)
                    subst h33
                    refine g_ws (ws' := [(m0, .inr (5, [.int (iI 0), .int (iI steps), .ref k_ch, .ref k_co, .ref k_ua, .ref k_ub, .ref k_ba, .int (iI (fle 0)), .int (iI (fle 1)), .int (iI (fmo 0)), .int (iI (fmo 1)), .int (iI (bI HM)), .ref k_rt, .ref k_rf, .ref k_ct, .ref k_cf, .ref k_nd, .ref k_na, .ref k_no, .ref k_bt, .ref k_bc, .ref k_br, .int (iI bg), .int (iI pn), .ref k_pc, .ref k_pr, .ref k_la, .ref k_lb, .ref k_ha, .ref k_hb, .ref k_ls, .ref k_wc, .int (iI wd), .int (iI mg), .int (iI mw), .int (iI mc)])), (k_ct, .inl (cI, aI 152971 gct))]) rfl ?_
                    refine g_iload_n C 2 std_M_dominates_105 rfl ?_
                    refine g_S_i (wc := []) (wr := [(m0, .inr (5, [.int (iI 0), .int (iI steps), .ref k_ch, .ref k_co, .ref k_ua, .ref k_ub, .ref k_ba, .int (iI (fle 0)), .int (iI (fle 1)), .int (iI (fmo 0)), .int (iI (fmo 1)), .int (iI (bI HM)), .ref k_rt, .ref k_rf, .ref k_ct, .ref k_cf, .ref k_nd, .ref k_na, .ref k_no, .ref k_bt, .ref k_bc, .ref k_br, .int (iI bg), .int (iI pn), .ref k_pc, .ref k_pr, .ref k_la, .ref k_lb, .ref k_ha, .ref k_hb, .ref k_ls, .ref k_wc, .int (iI wd), .int (iI mg), .int (iI mw), .int (iI mc)])), (k_ct, .inl (cI, aI 152971 gct))]) (rest := [.int (iI ((a % 7) - 1))]) C (c_m_lastOf l dC dI cI cJ cZ b (by omega)) (st_cS C kw_3_227 kw_3_225 kw_1_6 kw_3_226 sth_M_lastOf ⟨Nat.le_of_ble_eq_true rfl, Nat.le_of_ble_eq_true rfl⟩) rfl rfl (Nat.le_of_ble_eq_true rfl) std_M_dominates_106 ⟨Nat.le_of_ble_eq_true rfl, Nat.le_of_ble_eq_true rfl⟩ [] [0, 1] rfl rfl rfl rfl (by decide) (fun r34 u35 h36 => ?_)
                    subst h36
                    refine g_ws (ws' := [(m0, .inr (5, [.int (iI 0), .int (iI steps), .ref k_ch, .ref k_co, .ref k_ua, .ref k_ub, .ref k_ba, .int (iI (fle 0)), .int (iI (fle 1)), .int (iI (fmo 0)), .int (iI (fmo 1)), .int (iI (bI HM)), .ref k_rt, .ref k_rf, .ref k_ct, .ref k_cf, .ref k_nd, .ref k_na, .ref k_no, .ref k_bt, .ref k_bc, .ref k_br, .int (iI bg), .int (iI pn), .ref k_pc, .ref k_pr, .ref k_la, .ref k_lb, .ref k_ha, .ref k_hb, .ref k_ls, .ref k_wc, .int (iI wd), .int (iI mg), .int (iI mw), .int (iI mc)])), (k_ct, .inl (cI, aI 152971 gct))]) rfl ?_
                    refine g_icmp_ne (tgt := 131) C std_M_dominates_109 (by decide) ⟨by omega, by omega⟩ ⟨by omega, by omega⟩ (fun c37 => ?_) (fun c37 => ?_)
                    · refine g_iconst C std_M_dominates_131 ?_
                      refine g_wide (k := 0) (n := 0) (Nat.le_of_ble_eq_true rfl) (Nat.le_of_ble_eq_true rfl) ?_
                      exact hret _ _ _ () (by rw [bI_f (by unfold DMp; omega)]) (by decide) std_M_dominates_132
                    · refine g_aload_n C 4 std_M_dominates_112 rfl ?_
                      refine g_get C (st_sub sti_M) 0 rfl rfl 14 (by decide) (List.mem_cons_of_mem _ kw_3_80) rfl rfl std_M_dominates_113 ?_
                      refine g_iload_n C 3 std_M_dominates_116 rfl ?_
                      refine g_iald C 1 0 rfl rfl (by omega) (by omega) (by omega) std_M_dominates_117 ?_
                      refine g_aload_n C 4 std_M_dominates_118 rfl ?_
                      refine g_get C (st_sub sti_M) 0 rfl rfl 14 (by decide) (List.mem_cons_of_mem _ kw_3_80) rfl rfl std_M_dominates_119 ?_
                      refine g_iload_n C 2 std_M_dominates_122 rfl ?_
                      refine g_iald C 1 0 rfl rfl (by omega) (by omega) (by omega) std_M_dominates_123 ?_
                      refine g_icmp_gt (tgt := 131) C std_M_dominates_124 (by decide) ⟨by omega, by omega⟩ ⟨by omega, by omega⟩ (fun c38 => ?_) (fun c38 => ?_)
                      · refine g_iconst C std_M_dominates_131 ?_
                        refine g_wide (k := 0) (n := 0) (Nat.le_of_ble_eq_true rfl) (Nat.le_of_ble_eq_true rfl) ?_
                        exact hret _ _ _ () (by rw [bI_f (by unfold DMp; omega)]) (by decide) std_M_dominates_132
                      · refine g_iconst C std_M_dominates_127 ?_
                        refine g_goto (tgt := 132) C std_M_dominates_128 (by decide) ?_
                        refine g_wide (k := 0) (n := 0) (Nat.le_of_ble_eq_true rfl) (Nat.le_of_ble_eq_true rfl) ?_
                        exact hret _ _ _ () (by rw [bI_t (by unfold DMp; omega)]) (by decide) std_M_dominates_132
            refine g_wide (k := 0) (n := 0) (Nat.le_of_ble_eq_true rfl) (Nat.le_of_ble_eq_true rfl) ?_
            exact L87 1 (by omega)
        · refine g_iload_n C 2 std_M_dominates_50 rfl ?_
          refine g_S_i (wc := []) (wr := [(m0, .inr (5, [.int (iI 0), .int (iI steps), .ref k_ch, .ref k_co, .ref k_ua, .ref k_ub, .ref k_ba, .int (iI (fle 0)), .int (iI (fle 1)), .int (iI (fmo 0)), .int (iI (fmo 1)), .int (iI (bI HM)), .ref k_rt, .ref k_rf, .ref k_ct, .ref k_cf, .ref k_nd, .ref k_na, .ref k_no, .ref k_bt, .ref k_bc, .ref k_br, .int (iI bg), .int (iI pn), .ref k_pc, .ref k_pr, .ref k_la, .ref k_lb, .ref k_ha, .ref k_hb, .ref k_ls, .ref k_wc, .int (iI wd), .int (iI mg), .int (iI mw), .int (iI mc)])), (k_ct, .inl (cI, aI 152971 gct))]) (rest := []) C (c_m_bOf l dC dI cI cJ cZ a (by omega)) (st_cS C kw_3_233 kw_3_231 kw_1_6 kw_3_232 sth_M_bOf ⟨Nat.le_of_ble_eq_true rfl, Nat.le_of_ble_eq_true rfl⟩) rfl rfl (Nat.le_of_ble_eq_true rfl) std_M_dominates_51 ⟨Nat.le_of_ble_eq_true rfl, Nat.le_of_ble_eq_true rfl⟩ [] [0, 1] rfl rfl rfl rfl (by decide) (fun r39 u40 h41 => ?_)
          subst h41
          refine g_ws (ws' := [(m0, .inr (5, [.int (iI 0), .int (iI steps), .ref k_ch, .ref k_co, .ref k_ua, .ref k_ub, .ref k_ba, .int (iI (fle 0)), .int (iI (fle 1)), .int (iI (fmo 0)), .int (iI (fmo 1)), .int (iI (bI HM)), .ref k_rt, .ref k_rf, .ref k_ct, .ref k_cf, .ref k_nd, .ref k_na, .ref k_no, .ref k_bt, .ref k_bc, .ref k_br, .int (iI bg), .int (iI pn), .ref k_pc, .ref k_pr, .ref k_la, .ref k_lb, .ref k_ha, .ref k_hb, .ref k_ls, .ref k_wc, .int (iI wd), .int (iI mg), .int (iI mw), .int (iI mc)])), (k_ct, .inl (cI, aI 152971 gct))]) rfl ?_
          refine g_iload_n C 1 std_M_dominates_54 rfl ?_
          refine g_S_i (wc := []) (wr := [(m0, .inr (5, [.int (iI 0), .int (iI steps), .ref k_ch, .ref k_co, .ref k_ua, .ref k_ub, .ref k_ba, .int (iI (fle 0)), .int (iI (fle 1)), .int (iI (fmo 0)), .int (iI (fmo 1)), .int (iI (bI HM)), .ref k_rt, .ref k_rf, .ref k_ct, .ref k_cf, .ref k_nd, .ref k_na, .ref k_no, .ref k_bt, .ref k_bc, .ref k_br, .int (iI bg), .int (iI pn), .ref k_pc, .ref k_pr, .ref k_la, .ref k_lb, .ref k_ha, .ref k_hb, .ref k_ls, .ref k_wc, .int (iI wd), .int (iI mg), .int (iI mw), .int (iI mc)])), (k_ct, .inl (cI, aI 152971 gct))]) (rest := [.int (iI (((a % 11767) / 7) % 41))]) C (c_m_bOf l dC dI cI cJ cZ b (by omega)) (st_cS C kw_3_233 kw_3_231 kw_1_6 kw_3_232 sth_M_bOf ⟨Nat.le_of_ble_eq_true rfl, Nat.le_of_ble_eq_true rfl⟩) rfl rfl (Nat.le_of_ble_eq_true rfl) std_M_dominates_55 ⟨Nat.le_of_ble_eq_true rfl, Nat.le_of_ble_eq_true rfl⟩ [] [0, 1] rfl rfl rfl rfl (by decide) (fun r42 u43 h44 => ?_)
          subst h44
          refine g_ws (ws' := [(m0, .inr (5, [.int (iI 0), .int (iI steps), .ref k_ch, .ref k_co, .ref k_ua, .ref k_ub, .ref k_ba, .int (iI (fle 0)), .int (iI (fle 1)), .int (iI (fmo 0)), .int (iI (fmo 1)), .int (iI (bI HM)), .ref k_rt, .ref k_rf, .ref k_ct, .ref k_cf, .ref k_nd, .ref k_na, .ref k_no, .ref k_bt, .ref k_bc, .ref k_br, .int (iI bg), .int (iI pn), .ref k_pc, .ref k_pr, .ref k_la, .ref k_lb, .ref k_ha, .ref k_hb, .ref k_ls, .ref k_wc, .int (iI wd), .int (iI mg), .int (iI mw), .int (iI mc)])), (k_ct, .inl (cI, aI 152971 gct))]) rfl ?_
          refine g_icmp_ne (tgt := 65) C std_M_dominates_58 (by decide) ⟨by omega, by omega⟩ ⟨by omega, by omega⟩ (fun c45 => ?_) (fun c45 => ?_)
          · refine g_iconst C std_M_dominates_65 ?_
            refine g_goto (tgt := 85) C std_M_dominates_66 (by decide) ?_
            refine g_istore C (lv' := [(4, .int (iI 0)), (3, .int (iI z3)), (2, .int (iI b)), (1, .int (iI a)), (0, .ref m0)]) std_M_dominates_85 (by decide) rfl ?_
            have L87 : ∀ (z4 : Int), ((z4 = 1 ∧ ((0 < fle 1 ∧ (((a % 11767) / 7) % 41) = (((b % 11767) / 7) % 41)) ∨ (fle 1 ≤ 0 ∧ (((a % 11767) / 7) % 41) ≤ (((b % 11767) / 7) % 41)))) ∨ (z4 = 0 ∧ ¬ ((0 < fle 1 ∧ (((a % 11767) / 7) % 41) = (((b % 11767) / 7) % 41)) ∨ (fle 1 ≤ 0 ∧ (((a % 11767) / 7) % 41) ≤ (((b % 11767) / 7) % 41))))) → G p l e ({ frames := 1, cells := 0, slots := 0, locals := 20 } : Room) s m ([.ref m0, .int (iI a), .int (iI b)] : List Value).toArray below meth c (dC, dI) stCl 5 A 0 0 Q [(m0, .inr (5, [.int (iI 0), .int (iI steps), .ref k_ch, .ref k_co, .ref k_ua, .ref k_ub, .ref k_ba, .int (iI (fle 0)), .int (iI (fle 1)), .int (iI (fmo 0)), .int (iI (fmo 1)), .int (iI (bI HM)), .ref k_rt, .ref k_rf, .ref k_ct, .ref k_cf, .ref k_nd, .ref k_na, .ref k_no, .ref k_bt, .ref k_bc, .ref k_br, .int (iI bg), .int (iI pn), .ref k_pc, .ref k_pr, .ref k_la, .ref k_lb, .ref k_ha, .ref k_hb, .ref k_ls, .ref k_wc, .int (iI wd), .int (iI mg), .int (iI mw), .int (iI mc)])), (k_ct, .inl (cI, aI 152971 gct))] 87 [(4, .int (iI z4)), (3, .int (iI z3)), (2, .int (iI b)), (1, .int (iI a)), (0, .ref m0)] [] := by
              intro z4 kz4
              refine g_iload_n C 3 std_M_dominates_87 rfl ?_
              refine g_iload_n C 2 std_M_dominates_88 rfl ?_
              refine g_icmp_eq (tgt := 131) C std_M_dominates_89 (by decide) ⟨by omega, by omega⟩ ⟨by omega, by omega⟩ (fun c46 => ?_) (fun c46 => ?_)
              · refine g_iconst C std_M_dominates_131 ?_
                exact hret _ _ _ () (by rw [bI_f (by unfold DMp; omega)]) (by decide) std_M_dominates_132
              · refine g_iload_n C 1 std_M_dominates_92 rfl ?_
                refine g_if_eq (tgt := 131) C std_M_dominates_93 (by decide) ⟨by omega, by omega⟩ (fun c47 => ?_) (fun c47 => ?_)
                · refine g_iconst C std_M_dominates_131 ?_
                  exact hret _ _ _ () (by rw [bI_f (by unfold DMp; omega)]) (by decide) std_M_dominates_132
                · refine g_iload C 0 std_M_dominates_96 rfl ?_
                  refine g_if_eq (tgt := 131) C std_M_dominates_98 (by decide) ⟨by omega, by omega⟩ (fun c48 => ?_) (fun c48 => ?_)
                  · refine g_iconst C std_M_dominates_131 ?_
                    exact hret _ _ _ () (by rw [bI_f (by unfold DMp; omega)]) (by decide) std_M_dominates_132
                  · refine g_iload_n C 3 std_M_dominates_101 rfl ?_
                    refine g_S_i (wc := []) (wr := [(m0, .inr (5, [.int (iI 0), .int (iI steps), .ref k_ch, .ref k_co, .ref k_ua, .ref k_ub, .ref k_ba, .int (iI (fle 0)), .int (iI (fle 1)), .int (iI (fmo 0)), .int (iI (fmo 1)), .int (iI (bI HM)), .ref k_rt, .ref k_rf, .ref k_ct, .ref k_cf, .ref k_nd, .ref k_na, .ref k_no, .ref k_bt, .ref k_bc, .ref k_br, .int (iI bg), .int (iI pn), .ref k_pc, .ref k_pr, .ref k_la, .ref k_lb, .ref k_ha, .ref k_hb, .ref k_ls, .ref k_wc, .int (iI wd), .int (iI mg), .int (iI mw), .int (iI mc)])), (k_ct, .inl (cI, aI 152971 gct))]) (rest := []) C (c_m_lastOf l dC dI cI cJ cZ a (by omega)) (st_cS C kw_3_227 kw_3_225 kw_1_6 kw_3_226 sth_M_lastOf ⟨Nat.le_of_ble_eq_true rfl, Nat.le_of_ble_eq_true rfl⟩) rfl rfl (Nat.le_of_ble_eq_true rfl) std_M_dominates_102 ⟨Nat.le_of_ble_eq_true rfl, Nat.le_of_ble_eq_true rfl⟩ [] [0, 1] rfl rfl rfl rfl (by decide) (fun r49 u50 h51 => ?_)
                    subst h51
                    refine g_ws (ws' := [(m0, .inr (5, [.int (iI 0), .int (iI steps), .ref k_ch, .ref k_co, .ref k_ua, .ref k_ub, .ref k_ba, .int (iI (fle 0)), .int (iI (fle 1)), .int (iI (fmo 0)), .int (iI (fmo 1)), .int (iI (bI HM)), .ref k_rt, .ref k_rf, .ref k_ct, .ref k_cf, .ref k_nd, .ref k_na, .ref k_no, .ref k_bt, .ref k_bc, .ref k_br, .int (iI bg), .int (iI pn), .ref k_pc, .ref k_pr, .ref k_la, .ref k_lb, .ref k_ha, .ref k_hb, .ref k_ls, .ref k_wc, .int (iI wd), .int (iI mg), .int (iI mw), .int (iI mc)])), (k_ct, .inl (cI, aI 152971 gct))]) rfl ?_
                    refine g_iload_n C 2 std_M_dominates_105 rfl ?_
                    refine g_S_i (wc := []) (wr := [(m0, .inr (5, [.int (iI 0), .int (iI steps), .ref k_ch, .ref k_co, .ref k_ua, .ref k_ub, .ref k_ba, .int (iI (fle 0)), .int (iI (fle 1)), .int (iI (fmo 0)), .int (iI (fmo 1)), .int (iI (bI HM)), .ref k_rt, .ref k_rf, .ref k_ct, .ref k_cf, .ref k_nd, .ref k_na, .ref k_no, .ref k_bt, .ref k_bc, .ref k_br, .int (iI bg), .int (iI pn), .ref k_pc, .ref k_pr, .ref k_la, .ref k_lb, .ref k_ha, .ref k_hb, .ref k_ls, .ref k_wc, .int (iI wd), .int (iI mg), .int (iI mw), .int (iI mc)])), (k_ct, .inl (cI, aI 152971 gct))]) (rest := [.int (iI ((a % 7) - 1))]) C (c_m_lastOf l dC dI cI cJ cZ b (by omega)) (st_cS C kw_3_227 kw_3_225 kw_1_6 kw_3_226 sth_M_lastOf ⟨Nat.le_of_ble_eq_true rfl, Nat.le_of_ble_eq_true rfl⟩) rfl rfl (Nat.le_of_ble_eq_true rfl) std_M_dominates_106 ⟨Nat.le_of_ble_eq_true rfl, Nat.le_of_ble_eq_true rfl⟩ [] [0, 1] rfl rfl rfl rfl (by decide) (fun r52 u53 h54 => ?_)
                    subst h54
                    refine g_ws (ws' := [(m0, .inr (5, [.int (iI 0), .int (iI steps), .ref k_ch, .ref k_co, .ref k_ua, .ref k_ub, .ref k_ba, .int (iI (fle 0)), .int (iI (fle 1)), .int (iI (fmo 0)), .int (iI (fmo 1)), .int (iI (bI HM)), .ref k_rt, .ref k_rf, .ref k_ct, .ref k_cf, .ref k_nd, .ref k_na, .ref k_no, .ref k_bt, .ref k_bc, .ref k_br, .int (iI bg), .int (iI pn), .ref k_pc, .ref k_pr, .ref k_la, .ref k_lb, .ref k_ha, .ref k_hb, .ref k_ls, .ref k_wc, .int (iI wd), .int (iI mg), .int (iI mw), .int (iI mc)])), (k_ct, .inl (cI, aI 152971 gct))]) rfl ?_
                    refine g_icmp_ne (tgt := 131) C std_M_dominates_109 (by decide) ⟨by omega, by omega⟩ ⟨by omega, by omega⟩ (fun c55 => ?_) (fun c55 => ?_)
                    · refine g_iconst C std_M_dominates_131 ?_
                      refine g_wide (k := 0) (n := 0) (Nat.le_of_ble_eq_true rfl) (Nat.le_of_ble_eq_true rfl) ?_
                      exact hret _ _ _ () (by rw [bI_f (by unfold DMp; omega)]) (by decide) std_M_dominates_132
                    · refine g_aload_n C 4 std_M_dominates_112 rfl ?_
                      refine g_get C (st_sub sti_M) 0 rfl rfl 14 (by decide) (List.mem_cons_of_mem _ kw_3_80) rfl rfl std_M_dominates_113 ?_
                      refine g_iload_n C 3 std_M_dominates_116 rfl ?_
                      refine g_iald C 1 0 rfl rfl (by omega) (by omega) (by omega) std_M_dominates_117 ?_
                      refine g_aload_n C 4 std_M_dominates_118 rfl ?_
                      refine g_get C (st_sub sti_M) 0 rfl rfl 14 (by decide) (List.mem_cons_of_mem _ kw_3_80) rfl rfl std_M_dominates_119 ?_
                      refine g_iload_n C 2 std_M_dominates_122 rfl ?_
                      refine g_iald C 1 0 rfl rfl (by omega) (by omega) (by omega) std_M_dominates_123 ?_
                      refine g_icmp_gt (tgt := 131) C std_M_dominates_124 (by decide) ⟨by omega, by omega⟩ ⟨by omega, by omega⟩ (fun c56 => ?_) (fun c56 => ?_)
                      · refine g_iconst C std_M_dominates_131 ?_
                        refine g_wide (k := 0) (n := 0) (Nat.le_of_ble_eq_true rfl) (Nat.le_of_ble_eq_true rfl) ?_
                        exact hret _ _ _ () (by rw [bI_f (by unfold DMp; omega)]) (by decide) std_M_dominates_132
                      · refine g_iconst C std_M_dominates_127 ?_
                        refine g_goto (tgt := 132) C std_M_dominates_128 (by decide) ?_
                        refine g_wide (k := 0) (n := 0) (Nat.le_of_ble_eq_true rfl) (Nat.le_of_ble_eq_true rfl) ?_
                        exact hret _ _ _ () (by rw [bI_t (by unfold DMp; omega)]) (by decide) std_M_dominates_132
            refine g_wide (k := 0) (n := 0) (Nat.le_of_ble_eq_true rfl) (Nat.le_of_ble_eq_true rfl) ?_
            exact L87 0 (by omega)
          · refine g_iconst C std_M_dominates_61 ?_
            refine g_goto (tgt := 85) C std_M_dominates_62 (by decide) ?_
            refine g_istore C (lv' := [(4, .int (iI 1)), (3, .int (iI z3)), (2, .int (iI b)), (1, .int (iI a)), (0, .ref m0)]) std_M_dominates_85 (by decide) rfl ?_
            have L87 : ∀ (z4 : Int), ((z4 = 1 ∧ ((0 < fle 1 ∧ (((a % 11767) / 7) % 41) = (((b % 11767) / 7) % 41)) ∨ (fle 1 ≤ 0 ∧ (((a % 11767) / 7) % 41) ≤ (((b % 11767) / 7) % 41)))) ∨ (z4 = 0 ∧ ¬ ((0 < fle 1 ∧ (((a % 11767) / 7) % 41) = (((b % 11767) / 7) % 41)) ∨ (fle 1 ≤ 0 ∧ (((a % 11767) / 7) % 41) ≤ (((b % 11767) / 7) % 41))))) → G p l e ({ frames := 1, cells := 0, slots := 0, locals := 20 } : Room) s m ([.ref m0, .int (iI a), .int (iI b)] : List Value).toArray below meth c (dC, dI) stCl 5 A 0 0 Q [(m0, .inr (5, [.int (iI 0), .int (iI steps), .ref k_ch, .ref k_co, .ref k_ua, .ref k_ub, .ref k_ba, .int (iI (fle 0)), .int (iI (fle 1)), .int (iI (fmo 0)), .int (iI (fmo 1)), .int (iI (bI HM)), .ref k_rt, .ref k_rf, .ref k_ct, .ref k_cf, .ref k_nd, .ref k_na, .ref k_no, .ref k_bt, .ref k_bc, .ref k_br, .int (iI bg), .int (iI pn), .ref k_pc, .ref k_pr, .ref k_la, .ref k_lb, .ref k_ha, .ref k_hb, .ref k_ls, .ref k_wc, .int (iI wd), .int (iI mg), .int (iI mw), .int (iI mc)])), (k_ct, .inl (cI, aI 152971 gct))] 87 [(4, .int (iI z4)), (3, .int (iI z3)), (2, .int (iI b)), (1, .int (iI a)), (0, .ref m0)] [] := by
              intro z4 kz4
              refine g_iload_n C 3 std_M_dominates_87 rfl ?_
              refine g_iload_n C 2 std_M_dominates_88 rfl ?_
              refine g_icmp_eq (tgt := 131) C std_M_dominates_89 (by decide) ⟨by omega, by omega⟩ ⟨by omega, by omega⟩ (fun c57 => ?_) (fun c57 => ?_)
              · refine g_iconst C std_M_dominates_131 ?_
                exact hret _ _ _ () (by rw [bI_f (by unfold DMp; omega)]) (by decide) std_M_dominates_132
              · refine g_iload_n C 1 std_M_dominates_92 rfl ?_
                refine g_if_eq (tgt := 131) C std_M_dominates_93 (by decide) ⟨by omega, by omega⟩ (fun c58 => ?_) (fun c58 => ?_)
                · refine g_iconst C std_M_dominates_131 ?_
                  exact hret _ _ _ () (by rw [bI_f (by unfold DMp; omega)]) (by decide) std_M_dominates_132
                · refine g_iload C 0 std_M_dominates_96 rfl ?_
                  refine g_if_eq (tgt := 131) C std_M_dominates_98 (by decide) ⟨by omega, by omega⟩ (fun c59 => ?_) (fun c59 => ?_)
                  · refine g_iconst C std_M_dominates_131 ?_
                    exact hret _ _ _ () (by rw [bI_f (by unfold DMp; omega)]) (by decide) std_M_dominates_132
                  · refine g_iload_n C 3 std_M_dominates_101 rfl ?_
                    refine g_S_i (wc := []) (wr := [(m0, .inr (5, [.int (iI 0), .int (iI steps), .ref k_ch, .ref k_co, .ref k_ua, .ref k_ub, .ref k_ba, .int (iI (fle 0)), .int (iI (fle 1)), .int (iI (fmo 0)), .int (iI (fmo 1)), .int (iI (bI HM)), .ref k_rt, .ref k_rf, .ref k_ct, .ref k_cf, .ref k_nd, .ref k_na, .ref k_no, .ref k_bt, .ref k_bc, .ref k_br, .int (iI bg), .int (iI pn), .ref k_pc, .ref k_pr, .ref k_la, .ref k_lb, .ref k_ha, .ref k_hb, .ref k_ls, .ref k_wc, .int (iI wd), .int (iI mg), .int (iI mw), .int (iI mc)])), (k_ct, .inl (cI, aI 152971 gct))]) (rest := []) C (c_m_lastOf l dC dI cI cJ cZ a (by omega)) (st_cS C kw_3_227 kw_3_225 kw_1_6 kw_3_226 sth_M_lastOf ⟨Nat.le_of_ble_eq_true rfl, Nat.le_of_ble_eq_true rfl⟩) rfl rfl (Nat.le_of_ble_eq_true rfl) std_M_dominates_102 ⟨Nat.le_of_ble_eq_true rfl, Nat.le_of_ble_eq_true rfl⟩ [] [0, 1] rfl rfl rfl rfl (by decide) (fun r60 u61 h62 => ?_)
                    subst h62
                    refine g_ws (ws' := [(m0, .inr (5, [.int (iI 0), .int (iI steps), .ref k_ch, .ref k_co, .ref k_ua, .ref k_ub, .ref k_ba, .int (iI (fle 0)), .int (iI (fle 1)), .int (iI (fmo 0)), .int (iI (fmo 1)), .int (iI (bI HM)), .ref k_rt, .ref k_rf, .ref k_ct, .ref k_cf, .ref k_nd, .ref k_na, .ref k_no, .ref k_bt, .ref k_bc, .ref k_br, .int (iI bg), .int (iI pn), .ref k_pc, .ref k_pr, .ref k_la, .ref k_lb, .ref k_ha, .ref k_hb, .ref k_ls, .ref k_wc, .int (iI wd), .int (iI mg), .int (iI mw), .int (iI mc)])), (k_ct, .inl (cI, aI 152971 gct))]) rfl ?_
                    refine g_iload_n C 2 std_M_dominates_105 rfl ?_
                    refine g_S_i (wc := []) (wr := [(m0, .inr (5, [.int (iI 0), .int (iI steps), .ref k_ch, .ref k_co, .ref k_ua, .ref k_ub, .ref k_ba, .int (iI (fle 0)), .int (iI (fle 1)), .int (iI (fmo 0)), .int (iI (fmo 1)), .int (iI (bI HM)), .ref k_rt, .ref k_rf, .ref k_ct, .ref k_cf, .ref k_nd, .ref k_na, .ref k_no, .ref k_bt, .ref k_bc, .ref k_br, .int (iI bg), .int (iI pn), .ref k_pc, .ref k_pr, .ref k_la, .ref k_lb, .ref k_ha, .ref k_hb, .ref k_ls, .ref k_wc, .int (iI wd), .int (iI mg), .int (iI mw), .int (iI mc)])), (k_ct, .inl (cI, aI 152971 gct))]) (rest := [.int (iI ((a % 7) - 1))]) C (c_m_lastOf l dC dI cI cJ cZ b (by omega)) (st_cS C kw_3_227 kw_3_225 kw_1_6 kw_3_226 sth_M_lastOf ⟨Nat.le_of_ble_eq_true rfl, Nat.le_of_ble_eq_true rfl⟩) rfl rfl (Nat.le_of_ble_eq_true rfl) std_M_dominates_106 ⟨Nat.le_of_ble_eq_true rfl, Nat.le_of_ble_eq_true rfl⟩ [] [0, 1] rfl rfl rfl rfl (by decide) (fun r63 u64 h65 => ?_)
                    subst h65
                    refine g_ws (ws' := [(m0, .inr (5, [.int (iI 0), .int (iI steps), .ref k_ch, .ref k_co, .ref k_ua, .ref k_ub, .ref k_ba, .int (iI (fle 0)), .int (iI (fle 1)), .int (iI (fmo 0)), .int (iI (fmo 1)), .int (iI (bI HM)), .ref k_rt, .ref k_rf, .ref k_ct, .ref k_cf, .ref k_nd, .ref k_na, .ref k_no, .ref k_bt, .ref k_bc, .ref k_br, .int (iI bg), .int (iI pn), .ref k_pc, .ref k_pr, .ref k_la, .ref k_lb, .ref k_ha, .ref k_hb, .ref k_ls, .ref k_wc, .int (iI wd), .int (iI mg), .int (iI mw), .int (iI mc)])), (k_ct, .inl (cI, aI 152971 gct))]) rfl ?_
                    refine g_icmp_ne (tgt := 131) C std_M_dominates_109 (by decide) ⟨by omega, by omega⟩ ⟨by omega, by omega⟩ (fun c66 => ?_) (fun c66 => ?_)
                    · refine g_iconst C std_M_dominates_131 ?_
                      refine g_wide (k := 0) (n := 0) (Nat.le_of_ble_eq_true rfl) (Nat.le_of_ble_eq_true rfl) ?_
                      exact hret _ _ _ () (by rw [bI_f (by unfold DMp; omega)]) (by decide) std_M_dominates_132
                    · refine g_aload_n C 4 std_M_dominates_112 rfl ?_
                      refine g_get C (st_sub sti_M) 0 rfl rfl 14 (by decide) (List.mem_cons_of_mem _ kw_3_80) rfl rfl std_M_dominates_113 ?_
                      refine g_iload_n C 3 std_M_dominates_116 rfl ?_
                      refine g_iald C 1 0 rfl rfl (by omega) (by omega) (by omega) std_M_dominates_117 ?_
                      refine g_aload_n C 4 std_M_dominates_118 rfl ?_
                      refine g_get C (st_sub sti_M) 0 rfl rfl 14 (by decide) (List.mem_cons_of_mem _ kw_3_80) rfl rfl std_M_dominates_119 ?_
                      refine g_iload_n C 2 std_M_dominates_122 rfl ?_
                      refine g_iald C 1 0 rfl rfl (by omega) (by omega) (by omega) std_M_dominates_123 ?_
                      refine g_icmp_gt (tgt := 131) C std_M_dominates_124 (by decide) ⟨by omega, by omega⟩ ⟨by omega, by omega⟩ (fun c67 => ?_) (fun c67 => ?_)
                      · refine g_iconst C std_M_dominates_131 ?_
                        refine g_wide (k := 0) (n := 0) (Nat.le_of_ble_eq_true rfl) (Nat.le_of_ble_eq_true rfl) ?_
                        exact hret _ _ _ () (by rw [bI_f (by unfold DMp; omega)]) (by decide) std_M_dominates_132
                      · refine g_iconst C std_M_dominates_127 ?_
                        refine g_goto (tgt := 132) C std_M_dominates_128 (by decide) ?_
                        refine g_wide (k := 0) (n := 0) (Nat.le_of_ble_eq_true rfl) (Nat.le_of_ble_eq_true rfl) ?_
                        exact hret _ _ _ () (by rw [bI_t (by unfold DMp; omega)]) (by decide) std_M_dominates_132
            refine g_wide (k := 0) (n := 0) (Nat.le_of_ble_eq_true rfl) (Nat.le_of_ble_eq_true rfl) ?_
            exact L87 1 (by omega)
      refine g_lv (lv' := [(3, .int (iI 0)), (2, .int (iI b)), (1, .int (iI a)), (0, .ref m0)]) [0, 3, 2, 1] rfl ?_
      refine g_wide (k := 0) (n := 0) (Nat.le_of_ble_eq_true rfl) (Nat.le_of_ble_eq_true rfl) ?_
      exact L43 0 (by omega)
    · refine g_iconst C std_M_dominates_37 ?_
      refine g_goto (tgt := 42) C std_M_dominates_38 (by decide) ?_
      refine g_istore_n C (lv' := [(3, .int (iI 1)), (0, .ref m0), (1, .int (iI a)), (2, .int (iI b))]) std_M_dominates_42 (by decide) rfl ?_
      have L43 : ∀ (z3 : Int), ((z3 = 1 ∧ ((0 < fle 0 ∧ (((a % 11767) / 7) / 41) = (((b % 11767) / 7) / 41)) ∨ (fle 0 ≤ 0 ∧ (((a % 11767) / 7) / 41) ≤ (((b % 11767) / 7) / 41)))) ∨ (z3 = 0 ∧ ¬ ((0 < fle 0 ∧ (((a % 11767) / 7) / 41) = (((b % 11767) / 7) / 41)) ∨ (fle 0 ≤ 0 ∧ (((a % 11767) / 7) / 41) ≤ (((b % 11767) / 7) / 41))))) → G p l e ({ frames := 1, cells := 0, slots := 0, locals := 20 } : Room) s m ([.ref m0, .int (iI a), .int (iI b)] : List Value).toArray below meth c (dC, dI) stCl 5 A 0 0 Q [(m0, .inr (5, [.int (iI 0), .int (iI steps), .ref k_ch, .ref k_co, .ref k_ua, .ref k_ub, .ref k_ba, .int (iI (fle 0)), .int (iI (fle 1)), .int (iI (fmo 0)), .int (iI (fmo 1)), .int (iI (bI HM)), .ref k_rt, .ref k_rf, .ref k_ct, .ref k_cf, .ref k_nd, .ref k_na, .ref k_no, .ref k_bt, .ref k_bc, .ref k_br, .int (iI bg), .int (iI pn), .ref k_pc, .ref k_pr, .ref k_la, .ref k_lb, .ref k_ha, .ref k_hb, .ref k_ls, .ref k_wc, .int (iI wd), .int (iI mg), .int (iI mw), .int (iI mc)])), (k_ct, .inl (cI, aI 152971 gct))] 43 [(3, .int (iI z3)), (2, .int (iI b)), (1, .int (iI a)), (0, .ref m0)] [] := by
        intro z3 kz3
        refine g_aload_n C 3 std_M_dominates_43 rfl ?_
        refine g_get C (st_sub sti_M) 0 rfl rfl 8 (by decide) (List.mem_cons_of_mem _ kw_3_74) rfl rfl std_M_dominates_44 ?_
        refine g_if_le (tgt := 69) C std_M_dominates_47 (by decide) ⟨by omega, by omega⟩ (fun c68 => ?_) (fun c68 => ?_)
        · refine g_iload_n C 2 std_M_dominates_69 rfl ?_
          refine g_S_i (wc := []) (wr := [(m0, .inr (5, [.int (iI 0), .int (iI steps), .ref k_ch, .ref k_co, .ref k_ua, .ref k_ub, .ref k_ba, .int (iI (fle 0)), .int (iI (fle 1)), .int (iI (fmo 0)), .int (iI (fmo 1)), .int (iI (bI HM)), .ref k_rt, .ref k_rf, .ref k_ct, .ref k_cf, .ref k_nd, .ref k_na, .ref k_no, .ref k_bt, .ref k_bc, .ref k_br, .int (iI bg), .int (iI pn), .ref k_pc, .ref k_pr, .ref k_la, .ref k_lb, .ref k_ha, .ref k_hb, .ref k_ls, .ref k_wc, .int (iI wd), .int (iI mg), .int (iI mw), .int (iI mc)])), (k_ct, .inl (cI, aI 152971 gct))]) (rest := []) C (c_m_bOf l dC dI cI cJ cZ a (by omega)) (st_cS C kw_3_233 kw_3_231 kw_1_6 kw_3_232 sth_M_bOf ⟨Nat.le_of_ble_eq_true rfl, Nat.le_of_ble_eq_true rfl⟩) rfl rfl (Nat.le_of_ble_eq_true rfl) std_M_dominates_70 ⟨Nat.le_of_ble_eq_true rfl, Nat.le_of_ble_eq_true rfl⟩ [] [0, 1] rfl rfl rfl rfl (by decide) (fun r69 u70 h71 => ?_)
          subst h71
          refine g_ws (ws' := [(m0, .inr (5, [.int (iI 0), .int (iI steps), .ref k_ch, .ref k_co, .ref k_ua, .ref k_ub, .ref k_ba, .int (iI (fle 0)), .int (iI (fle 1)), .int (iI (fmo 0)), .int (iI (fmo 1)), .int (iI (bI HM)), .ref k_rt, .ref k_rf, .ref k_ct, .ref k_cf, .ref k_nd, .ref k_na, .ref k_no, .ref k_bt, .ref k_bc, .ref k_br, .int (iI bg), .int (iI pn), .ref k_pc, .ref k_pr, .ref k_la, .ref k_lb, .ref k_ha, .ref k_hb, .ref k_ls, .ref k_wc, .int (iI wd), .int (iI mg), .int (iI mw), .int (iI mc)])), (k_ct, .inl (cI, aI 152971 gct))]) rfl ?_
          refine g_iload_n C 1 std_M_dominates_73 rfl ?_
          refine g_S_i (wc := []) (wr := [(m0, .inr (5, [.int (iI 0), .int (iI steps), .ref k_ch, .ref k_co, .ref k_ua, .ref k_ub, .ref k_ba, .int (iI (fle 0)), .int (iI (fle 1)), .int (iI (fmo 0)), .int (iI (fmo 1)), .int (iI (bI HM)), .ref k_rt, .ref k_rf, .ref k_ct, .ref k_cf, .ref k_nd, .ref k_na, .ref k_no, .ref k_bt, .ref k_bc, .ref k_br, .int (iI bg), .int (iI pn), .ref k_pc, .ref k_pr, .ref k_la, .ref k_lb, .ref k_ha, .ref k_hb, .ref k_ls, .ref k_wc, .int (iI wd), .int (iI mg), .int (iI mw), .int (iI mc)])), (k_ct, .inl (cI, aI 152971 gct))]) (rest := [.int (iI (((a % 11767) / 7) % 41))]) C (c_m_bOf l dC dI cI cJ cZ b (by omega)) (st_cS C kw_3_233 kw_3_231 kw_1_6 kw_3_232 sth_M_bOf ⟨Nat.le_of_ble_eq_true rfl, Nat.le_of_ble_eq_true rfl⟩) rfl rfl (Nat.le_of_ble_eq_true rfl) std_M_dominates_74 ⟨Nat.le_of_ble_eq_true rfl, Nat.le_of_ble_eq_true rfl⟩ [] [0, 1] rfl rfl rfl rfl (by decide) (fun r72 u73 h74 => ?_)
          subst h74
          refine g_ws (ws' := [(m0, .inr (5, [.int (iI 0), .int (iI steps), .ref k_ch, .ref k_co, .ref k_ua, .ref k_ub, .ref k_ba, .int (iI (fle 0)), .int (iI (fle 1)), .int (iI (fmo 0)), .int (iI (fmo 1)), .int (iI (bI HM)), .ref k_rt, .ref k_rf, .ref k_ct, .ref k_cf, .ref k_nd, .ref k_na, .ref k_no, .ref k_bt, .ref k_bc, .ref k_br, .int (iI bg), .int (iI pn), .ref k_pc, .ref k_pr, .ref k_la, .ref k_lb, .ref k_ha, .ref k_hb, .ref k_ls, .ref k_wc, .int (iI wd), .int (iI mg), .int (iI mw), .int (iI mc)])), (k_ct, .inl (cI, aI 152971 gct))]) rfl ?_
          refine g_icmp_gt (tgt := 84) C std_M_dominates_77 (by decide) ⟨by omega, by omega⟩ ⟨by omega, by omega⟩ (fun c75 => ?_) (fun c75 => ?_)
          · refine g_iconst C std_M_dominates_84 ?_
            refine g_istore C (lv' := [(4, .int (iI 0)), (3, .int (iI z3)), (2, .int (iI b)), (1, .int (iI a)), (0, .ref m0)]) std_M_dominates_85 (by decide) rfl ?_
            have L87 : ∀ (z4 : Int), ((z4 = 1 ∧ ((0 < fle 1 ∧ (((a % 11767) / 7) % 41) = (((b % 11767) / 7) % 41)) ∨ (fle 1 ≤ 0 ∧ (((a % 11767) / 7) % 41) ≤ (((b % 11767) / 7) % 41)))) ∨ (z4 = 0 ∧ ¬ ((0 < fle 1 ∧ (((a % 11767) / 7) % 41) = (((b % 11767) / 7) % 41)) ∨ (fle 1 ≤ 0 ∧ (((a % 11767) / 7) % 41) ≤ (((b % 11767) / 7) % 41))))) → G p l e ({ frames := 1, cells := 0, slots := 0, locals := 20 } : Room) s m ([.ref m0, .int (iI a), .int (iI b)] : List Value).toArray below meth c (dC, dI) stCl 5 A 0 0 Q [(m0, .inr (5, [.int (iI 0), .int (iI steps), .ref k_ch, .ref k_co, .ref k_ua, .ref k_ub, .ref k_ba, .int (iI (fle 0)), .int (iI (fle 1)), .int (iI (fmo 0)), .int (iI (fmo 1)), .int (iI (bI HM)), .ref k_rt, .ref k_rf, .ref k_ct, .ref k_cf, .ref k_nd, .ref k_na, .ref k_no, .ref k_bt, .ref k_bc, .ref k_br, .int (iI bg), .int (iI pn), .ref k_pc, .ref k_pr, .ref k_la, .ref k_lb, .ref k_ha, .ref k_hb, .ref k_ls, .ref k_wc, .int (iI wd), .int (iI mg), .int (iI mw), .int (iI mc)])), (k_ct, .inl (cI, aI 152971 gct))] 87 [(4, .int (iI z4)), (3, .int (iI z3)), (2, .int (iI b)), (1, .int (iI a)), (0, .ref m0)] [] := by
              intro z4 kz4
              refine g_iload_n C 3 std_M_dominates_87 rfl ?_
              refine g_iload_n C 2 std_M_dominates_88 rfl ?_
              refine g_icmp_eq (tgt := 131) C std_M_dominates_89 (by decide) ⟨by omega, by omega⟩ ⟨by omega, by omega⟩ (fun c76 => ?_) (fun c76 => ?_)
              · refine g_iconst C std_M_dominates_131 ?_
                exact hret _ _ _ () (by rw [bI_f (by unfold DMp; omega)]) (by decide) std_M_dominates_132
              · refine g_iload_n C 1 std_M_dominates_92 rfl ?_
                refine g_if_eq (tgt := 131) C std_M_dominates_93 (by decide) ⟨by omega, by omega⟩ (fun c77 => ?_) (fun c77 => ?_)
                · refine g_iconst C std_M_dominates_131 ?_
                  exact hret _ _ _ () (by rw [bI_f (by unfold DMp; omega)]) (by decide) std_M_dominates_132
                · refine g_iload C 0 std_M_dominates_96 rfl ?_
                  refine g_if_eq (tgt := 131) C std_M_dominates_98 (by decide) ⟨by omega, by omega⟩ (fun c78 => ?_) (fun c78 => ?_)
                  · refine g_iconst C std_M_dominates_131 ?_
                    exact hret _ _ _ () (by rw [bI_f (by unfold DMp; omega)]) (by decide) std_M_dominates_132
                  · refine g_iload_n C 3 std_M_dominates_101 rfl ?_
                    refine g_S_i (wc := []) (wr := [(m0, .inr (5, [.int (iI 0), .int (iI steps), .ref k_ch, .ref k_co, .ref k_ua, .ref k_ub, .ref k_ba, .int (iI (fle 0)), .int (iI (fle 1)), .int (iI (fmo 0)), .int (iI (fmo 1)), .int (iI (bI HM)), .ref k_rt, .ref k_rf, .ref k_ct, .ref k_cf, .ref k_nd, .ref k_na, .ref k_no, .ref k_bt, .ref k_bc, .ref k_br, .int (iI bg), .int (iI pn), .ref k_pc, .ref k_pr, .ref k_la, .ref k_lb, .ref k_ha, .ref k_hb, .ref k_ls, .ref k_wc, .int (iI wd), .int (iI mg), .int (iI mw), .int (iI mc)])), (k_ct, .inl (cI, aI 152971 gct))]) (rest := []) C (c_m_lastOf l dC dI cI cJ cZ a (by omega)) (st_cS C kw_3_227 kw_3_225 kw_1_6 kw_3_226 sth_M_lastOf ⟨Nat.le_of_ble_eq_true rfl, Nat.le_of_ble_eq_true rfl⟩) rfl rfl (Nat.le_of_ble_eq_true rfl) std_M_dominates_102 ⟨Nat.le_of_ble_eq_true rfl, Nat.le_of_ble_eq_true rfl⟩ [] [0, 1] rfl rfl rfl rfl (by decide) (fun r79 u80 h81 => ?_)
                    subst h81
                    refine g_ws (ws' := [(m0, .inr (5, [.int (iI 0), .int (iI steps), .ref k_ch, .ref k_co, .ref k_ua, .ref k_ub, .ref k_ba, .int (iI (fle 0)), .int (iI (fle 1)), .int (iI (fmo 0)), .int (iI (fmo 1)), .int (iI (bI HM)), .ref k_rt, .ref k_rf, .ref k_ct, .ref k_cf, .ref k_nd, .ref k_na, .ref k_no, .ref k_bt, .ref k_bc, .ref k_br, .int (iI bg), .int (iI pn), .ref k_pc, .ref k_pr, .ref k_la, .ref k_lb, .ref k_ha, .ref k_hb, .ref k_ls, .ref k_wc, .int (iI wd), .int (iI mg), .int (iI mw), .int (iI mc)])), (k_ct, .inl (cI, aI 152971 gct))]) rfl ?_
                    refine g_iload_n C 2 std_M_dominates_105 rfl ?_
                    refine g_S_i (wc := []) (wr := [(m0, .inr (5, [.int (iI 0), .int (iI steps), .ref k_ch, .ref k_co, .ref k_ua, .ref k_ub, .ref k_ba, .int (iI (fle 0)), .int (iI (fle 1)), .int (iI (fmo 0)), .int (iI (fmo 1)), .int (iI (bI HM)), .ref k_rt, .ref k_rf, .ref k_ct, .ref k_cf, .ref k_nd, .ref k_na, .ref k_no, .ref k_bt, .ref k_bc, .ref k_br, .int (iI bg), .int (iI pn), .ref k_pc, .ref k_pr, .ref k_la, .ref k_lb, .ref k_ha, .ref k_hb, .ref k_ls, .ref k_wc, .int (iI wd), .int (iI mg), .int (iI mw), .int (iI mc)])), (k_ct, .inl (cI, aI 152971 gct))]) (rest := [.int (iI ((a % 7) - 1))]) C (c_m_lastOf l dC dI cI cJ cZ b (by omega)) (st_cS C kw_3_227 kw_3_225 kw_1_6 kw_3_226 sth_M_lastOf ⟨Nat.le_of_ble_eq_true rfl, Nat.le_of_ble_eq_true rfl⟩) rfl rfl (Nat.le_of_ble_eq_true rfl) std_M_dominates_106 ⟨Nat.le_of_ble_eq_true rfl, Nat.le_of_ble_eq_true rfl⟩ [] [0, 1] rfl rfl rfl rfl (by decide) (fun r82 u83 h84 => ?_)
                    subst h84
                    refine g_ws (ws' := [(m0, .inr (5, [.int (iI 0), .int (iI steps), .ref k_ch, .ref k_co, .ref k_ua, .ref k_ub, .ref k_ba, .int (iI (fle 0)), .int (iI (fle 1)), .int (iI (fmo 0)), .int (iI (fmo 1)), .int (iI (bI HM)), .ref k_rt, .ref k_rf, .ref k_ct, .ref k_cf, .ref k_nd, .ref k_na, .ref k_no, .ref k_bt, .ref k_bc, .ref k_br, .int (iI bg), .int (iI pn), .ref k_pc, .ref k_pr, .ref k_la, .ref k_lb, .ref k_ha, .ref k_hb, .ref k_ls, .ref k_wc, .int (iI wd), .int (iI mg), .int (iI mw), .int (iI mc)])), (k_ct, .inl (cI, aI 152971 gct))]) rfl ?_
                    refine g_icmp_ne (tgt := 131) C std_M_dominates_109 (by decide) ⟨by omega, by omega⟩ ⟨by omega, by omega⟩ (fun c85 => ?_) (fun c85 => ?_)
                    · refine g_iconst C std_M_dominates_131 ?_
                      refine g_wide (k := 0) (n := 0) (Nat.le_of_ble_eq_true rfl) (Nat.le_of_ble_eq_true rfl) ?_
                      exact hret _ _ _ () (by rw [bI_f (by unfold DMp; omega)]) (by decide) std_M_dominates_132
                    · refine g_aload_n C 4 std_M_dominates_112 rfl ?_
                      refine g_get C (st_sub sti_M) 0 rfl rfl 14 (by decide) (List.mem_cons_of_mem _ kw_3_80) rfl rfl std_M_dominates_113 ?_
                      refine g_iload_n C 3 std_M_dominates_116 rfl ?_
                      refine g_iald C 1 0 rfl rfl (by omega) (by omega) (by omega) std_M_dominates_117 ?_
                      refine g_aload_n C 4 std_M_dominates_118 rfl ?_
                      refine g_get C (st_sub sti_M) 0 rfl rfl 14 (by decide) (List.mem_cons_of_mem _ kw_3_80) rfl rfl std_M_dominates_119 ?_
                      refine g_iload_n C 2 std_M_dominates_122 rfl ?_
                      refine g_iald C 1 0 rfl rfl (by omega) (by omega) (by omega) std_M_dominates_123 ?_
                      refine g_icmp_gt (tgt := 131) C std_M_dominates_124 (by decide) ⟨by omega, by omega⟩ ⟨by omega, by omega⟩ (fun c86 => ?_) (fun c86 => ?_)
                      · refine g_iconst C std_M_dominates_131 ?_
                        refine g_wide (k := 0) (n := 0) (Nat.le_of_ble_eq_true rfl) (Nat.le_of_ble_eq_true rfl) ?_
                        exact hret _ _ _ () (by rw [bI_f (by unfold DMp; omega)]) (by decide) std_M_dominates_132
                      · refine g_iconst C std_M_dominates_127 ?_
                        refine g_goto (tgt := 132) C std_M_dominates_128 (by decide) ?_
                        refine g_wide (k := 0) (n := 0) (Nat.le_of_ble_eq_true rfl) (Nat.le_of_ble_eq_true rfl) ?_
                        exact hret _ _ _ () (by rw [bI_t (by unfold DMp; omega)]) (by decide) std_M_dominates_132
            refine g_wide (k := 0) (n := 0) (Nat.le_of_ble_eq_true rfl) (Nat.le_of_ble_eq_true rfl) ?_
            exact L87 0 (by omega)
          · refine g_iconst C std_M_dominates_80 ?_
            refine g_goto (tgt := 85) C std_M_dominates_81 (by decide) ?_
            refine g_istore C (lv' := [(4, .int (iI 1)), (3, .int (iI z3)), (2, .int (iI b)), (1, .int (iI a)), (0, .ref m0)]) std_M_dominates_85 (by decide) rfl ?_
            have L87 : ∀ (z4 : Int), ((z4 = 1 ∧ ((0 < fle 1 ∧ (((a % 11767) / 7) % 41) = (((b % 11767) / 7) % 41)) ∨ (fle 1 ≤ 0 ∧ (((a % 11767) / 7) % 41) ≤ (((b % 11767) / 7) % 41)))) ∨ (z4 = 0 ∧ ¬ ((0 < fle 1 ∧ (((a % 11767) / 7) % 41) = (((b % 11767) / 7) % 41)) ∨ (fle 1 ≤ 0 ∧ (((a % 11767) / 7) % 41) ≤ (((b % 11767) / 7) % 41))))) → G p l e ({ frames := 1, cells := 0, slots := 0, locals := 20 } : Room) s m ([.ref m0, .int (iI a), .int (iI b)] : List Value).toArray below meth c (dC, dI) stCl 5 A 0 0 Q [(m0, .inr (5, [.int (iI 0), .int (iI steps), .ref k_ch, .ref k_co, .ref k_ua, .ref k_ub, .ref k_ba, .int (iI (fle 0)), .int (iI (fle 1)), .int (iI (fmo 0)), .int (iI (fmo 1)), .int (iI (bI HM)), .ref k_rt, .ref k_rf, .ref k_ct, .ref k_cf, .ref k_nd, .ref k_na, .ref k_no, .ref k_bt, .ref k_bc, .ref k_br, .int (iI bg), .int (iI pn), .ref k_pc, .ref k_pr, .ref k_la, .ref k_lb, .ref k_ha, .ref k_hb, .ref k_ls, .ref k_wc, .int (iI wd), .int (iI mg), .int (iI mw), .int (iI mc)])), (k_ct, .inl (cI, aI 152971 gct))] 87 [(4, .int (iI z4)), (3, .int (iI z3)), (2, .int (iI b)), (1, .int (iI a)), (0, .ref m0)] [] := by
              intro z4 kz4
              refine g_iload_n C 3 std_M_dominates_87 rfl ?_
              refine g_iload_n C 2 std_M_dominates_88 rfl ?_
              refine g_icmp_eq (tgt := 131) C std_M_dominates_89 (by decide) ⟨by omega, by omega⟩ ⟨by omega, by omega⟩ (fun c87 => ?_) (fun c87 => ?_)
              · refine g_iconst C std_M_dominates_131 ?_
                exact hret _ _ _ () (by rw [bI_f (by unfold DMp; omega)]) (by decide) std_M_dominates_132
              · refine g_iload_n C 1 std_M_dominates_92 rfl ?_
                refine g_if_eq (tgt := 131) C std_M_dominates_93 (by decide) ⟨by omega, by omega⟩ (fun c88 => ?_) (fun c88 => ?_)
                · refine g_iconst C std_M_dominates_131 ?_
                  exact hret _ _ _ () (by rw [bI_f (by unfold DMp; omega)]) (by decide) std_M_dominates_132
                · refine g_iload C 0 std_M_dominates_96 rfl ?_
                  refine g_if_eq (tgt := 131) C std_M_dominates_98 (by decide) ⟨by omega, by omega⟩ (fun c89 => ?_) (fun c89 => ?_)
                  · refine g_iconst C std_M_dominates_131 ?_
                    exact hret _ _ _ () (by rw [bI_f (by unfold DMp; omega)]) (by decide) std_M_dominates_132
                  · refine g_iload_n C 3 std_M_dominates_101 rfl ?_
                    refine g_S_i (wc := []) (wr := [(m0, .inr (5, [.int (iI 0), .int (iI steps), .ref k_ch, .ref k_co, .ref k_ua, .ref k_ub, .ref k_ba, .int (iI (fle 0)), .int (iI (fle 1)), .int (iI (fmo 0)), .int (iI (fmo 1)), .int (iI (bI HM)), .ref k_rt, .ref k_rf, .ref k_ct, .ref k_cf, .ref k_nd, .ref k_na, .ref k_no, .ref k_bt, .ref k_bc, .ref k_br, .int (iI bg), .int (iI pn), .ref k_pc, .ref k_pr, .ref k_la, .ref k_lb, .ref k_ha, .ref k_hb, .ref k_ls, .ref k_wc, .int (iI wd), .int (iI mg), .int (iI mw), .int (iI mc)])), (k_ct, .inl (cI, aI 152971 gct))]) (rest := []) C (c_m_lastOf l dC dI cI cJ cZ a (by omega)) (st_cS C kw_3_227 kw_3_225 kw_1_6 kw_3_226 sth_M_lastOf ⟨Nat.le_of_ble_eq_true rfl, Nat.le_of_ble_eq_true rfl⟩) rfl rfl (Nat.le_of_ble_eq_true rfl) std_M_dominates_102 ⟨Nat.le_of_ble_eq_true rfl, Nat.le_of_ble_eq_true rfl⟩ [] [0, 1] rfl rfl rfl rfl (by decide) (fun r90 u91 h92 => ?_)
                    subst h92
                    refine g_ws (ws' := [(m0, .inr (5, [.int (iI 0), .int (iI steps), .ref k_ch, .ref k_co, .ref k_ua, .ref k_ub, .ref k_ba, .int (iI (fle 0)), .int (iI (fle 1)), .int (iI (fmo 0)), .int (iI (fmo 1)), .int (iI (bI HM)), .ref k_rt, .ref k_rf, .ref k_ct, .ref k_cf, .ref k_nd, .ref k_na, .ref k_no, .ref k_bt, .ref k_bc, .ref k_br, .int (iI bg), .int (iI pn), .ref k_pc, .ref k_pr, .ref k_la, .ref k_lb, .ref k_ha, .ref k_hb, .ref k_ls, .ref k_wc, .int (iI wd), .int (iI mg), .int (iI mw), .int (iI mc)])), (k_ct, .inl (cI, aI 152971 gct))]) rfl ?_
                    refine g_iload_n C 2 std_M_dominates_105 rfl ?_
                    refine g_S_i (wc := []) (wr := [(m0, .inr (5, [.int (iI 0), .int (iI steps), .ref k_ch, .ref k_co, .ref k_ua, .ref k_ub, .ref k_ba, .int (iI (fle 0)), .int (iI (fle 1)), .int (iI (fmo 0)), .int (iI (fmo 1)), .int (iI (bI HM)), .ref k_rt, .ref k_rf, .ref k_ct, .ref k_cf, .ref k_nd, .ref k_na, .ref k_no, .ref k_bt, .ref k_bc, .ref k_br, .int (iI bg), .int (iI pn), .ref k_pc, .ref k_pr, .ref k_la, .ref k_lb, .ref k_ha, .ref k_hb, .ref k_ls, .ref k_wc, .int (iI wd), .int (iI mg), .int (iI mw), .int (iI mc)])), (k_ct, .inl (cI, aI 152971 gct))]) (rest := [.int (iI ((a % 7) - 1))]) C (c_m_lastOf l dC dI cI cJ cZ b (by omega)) (st_cS C kw_3_227 kw_3_225 kw_1_6 kw_3_226 sth_M_lastOf ⟨Nat.le_of_ble_eq_true rfl, Nat.le_of_ble_eq_true rfl⟩) rfl rfl (Nat.le_of_ble_eq_true rfl) std_M_dominates_106 ⟨Nat.le_of_ble_eq_true rfl, Nat.le_of_ble_eq_true rfl⟩ [] [0, 1] rfl rfl rfl rfl (by decide) (fun r93 u94 h95 => ?_)
                    subst h95
                    refine g_ws (ws' := [(m0, .inr (5, [.int (iI 0), .int (iI steps), .ref k_ch, .ref k_co, .ref k_ua, .ref k_ub, .ref k_ba, .int (iI (fle 0)), .int (iI (fle 1)), .int (iI (fmo 0)), .int (iI (fmo 1)), .int (iI (bI HM)), .ref k_rt, .ref k_rf, .ref k_ct, .ref k_cf, .ref k_nd, .ref k_na, .ref k_no, .ref k_bt, .ref k_bc, .ref k_br, .int (iI bg), .int (iI pn), .ref k_pc, .ref k_pr, .ref k_la, .ref k_lb, .ref k_ha, .ref k_hb, .ref k_ls, .ref k_wc, .int (iI wd), .int (iI mg), .int (iI mw), .int (iI mc)])), (k_ct, .inl (cI, aI 152971 gct))]) rfl ?_
                    refine g_icmp_ne (tgt := 131) C std_M_dominates_109 (by decide) ⟨by omega, by omega⟩ ⟨by omega, by omega⟩ (fun c96 => ?_) (fun c96 => ?_)
                    · refine g_iconst C std_M_dominates_131 ?_
                      refine g_wide (k := 0) (n := 0) (Nat.le_of_ble_eq_true rfl) (Nat.le_of_ble_eq_true rfl) ?_
                      exact hret _ _ _ () (by rw [bI_f (by unfold DMp; omega)]) (by decide) std_M_dominates_132
                    · refine g_aload_n C 4 std_M_dominates_112 rfl ?_
                      refine g_get C (st_sub sti_M) 0 rfl rfl 14 (by decide) (List.mem_cons_of_mem _ kw_3_80) rfl rfl std_M_dominates_113 ?_
                      refine g_iload_n C 3 std_M_dominates_116 rfl ?_
                      refine g_iald C 1 0 rfl rfl (by omega) (by omega) (by omega) std_M_dominates_117 ?_
                      refine g_aload_n C 4 std_M_dominates_118 rfl ?_
                      refine g_get C (st_sub sti_M) 0 rfl rfl 14 (by decide) (List.mem_cons_of_mem _ kw_3_80) rfl rfl std_M_dominates_119 ?_
                      refine g_iload_n C 2 std_M_dominates_122 rfl ?_
                      refine g_iald C 1 0 rfl rfl (by omega) (by omega) (by omega) std_M_dominates_123 ?_
                      refine g_icmp_gt (tgt := 131) C std_M_dominates_124 (by decide) ⟨by omega, by omega⟩ ⟨by omega, by omega⟩ (fun c97 => ?_) (fun c97 => ?_)
                      · refine g_iconst C std_M_dominates_131 ?_
                        refine g_wide (k := 0) (n := 0) (Nat.le_of_ble_eq_true rfl) (Nat.le_of_ble_eq_true rfl) ?_
                        exact hret _ _ _ () (by rw [bI_f (by unfold DMp; omega)]) (by decide) std_M_dominates_132
                      · refine g_iconst C std_M_dominates_127 ?_
                        refine g_goto (tgt := 132) C std_M_dominates_128 (by decide) ?_
                        refine g_wide (k := 0) (n := 0) (Nat.le_of_ble_eq_true rfl) (Nat.le_of_ble_eq_true rfl) ?_
                        exact hret _ _ _ () (by rw [bI_t (by unfold DMp; omega)]) (by decide) std_M_dominates_132
            refine g_wide (k := 0) (n := 0) (Nat.le_of_ble_eq_true rfl) (Nat.le_of_ble_eq_true rfl) ?_
            exact L87 1 (by omega)
        · refine g_iload_n C 2 std_M_dominates_50 rfl ?_
          refine g_S_i (wc := []) (wr := [(m0, .inr (5, [.int (iI 0), .int (iI steps), .ref k_ch, .ref k_co, .ref k_ua, .ref k_ub, .ref k_ba, .int (iI (fle 0)), .int (iI (fle 1)), .int (iI (fmo 0)), .int (iI (fmo 1)), .int (iI (bI HM)), .ref k_rt, .ref k_rf, .ref k_ct, .ref k_cf, .ref k_nd, .ref k_na, .ref k_no, .ref k_bt, .ref k_bc, .ref k_br, .int (iI bg), .int (iI pn), .ref k_pc, .ref k_pr, .ref k_la, .ref k_lb, .ref k_ha, .ref k_hb, .ref k_ls, .ref k_wc, .int (iI wd), .int (iI mg), .int (iI mw), .int (iI mc)])), (k_ct, .inl (cI, aI 152971 gct))]) (rest := []) C (c_m_bOf l dC dI cI cJ cZ a (by omega)) (st_cS C kw_3_233 kw_3_231 kw_1_6 kw_3_232 sth_M_bOf ⟨Nat.le_of_ble_eq_true rfl, Nat.le_of_ble_eq_true rfl⟩) rfl rfl (Nat.le_of_ble_eq_true rfl) std_M_dominates_51 ⟨Nat.le_of_ble_eq_true rfl, Nat.le_of_ble_eq_true rfl⟩ [] [0, 1] rfl rfl rfl rfl (by decide) (fun r98 u99 h100 => ?_)
          subst h100
          refine g_ws (ws' := [(m0, .inr (5, [.int (iI 0), .int (iI steps), .ref k_ch, .ref k_co, .ref k_ua, .ref k_ub, .ref k_ba, .int (iI (fle 0)), .int (iI (fle 1)), .int (iI (fmo 0)), .int (iI (fmo 1)), .int (iI (bI HM)), .ref k_rt, .ref k_rf, .ref k_ct, .ref k_cf, .ref k_nd, .ref k_na, .ref k_no, .ref k_bt, .ref k_bc, .ref k_br, .int (iI bg), .int (iI pn), .ref k_pc, .ref k_pr, .ref k_la, .ref k_lb, .ref k_ha, .ref k_hb, .ref k_ls, .ref k_wc, .int (iI wd), .int (iI mg), .int (iI mw), .int (iI mc)])), (k_ct, .inl (cI, aI 152971 gct))]) rfl ?_
          refine g_iload_n C 1 std_M_dominates_54 rfl ?_
          refine g_S_i (wc := []) (wr := [(m0, .inr (5, [.int (iI 0), .int (iI steps), .ref k_ch, .ref k_co, .ref k_ua, .ref k_ub, .ref k_ba, .int (iI (fle 0)), .int (iI (fle 1)), .int (iI (fmo 0)), .int (iI (fmo 1)), .int (iI (bI HM)), .ref k_rt, .ref k_rf, .ref k_ct, .ref k_cf, .ref k_nd, .ref k_na, .ref k_no, .ref k_bt, .ref k_bc, .ref k_br, .int (iI bg), .int (iI pn), .ref k_pc, .ref k_pr, .ref k_la, .ref k_lb, .ref k_ha, .ref k_hb, .ref k_ls, .ref k_wc, .int (iI wd), .int (iI mg), .int (iI mw), .int (iI mc)])), (k_ct, .inl (cI, aI 152971 gct))]) (rest := [.int (iI (((a % 11767) / 7) % 41))]) C (c_m_bOf l dC dI cI cJ cZ b (by omega)) (st_cS C kw_3_233 kw_3_231 kw_1_6 kw_3_232 sth_M_bOf ⟨Nat.le_of_ble_eq_true rfl, Nat.le_of_ble_eq_true rfl⟩) rfl rfl (Nat.le_of_ble_eq_true rfl) std_M_dominates_55 ⟨Nat.le_of_ble_eq_true rfl, Nat.le_of_ble_eq_true rfl⟩ [] [0, 1] rfl rfl rfl rfl (by decide) (fun r101 u102 h103 => ?_)
          subst h103
          refine g_ws (ws' := [(m0, .inr (5, [.int (iI 0), .int (iI steps), .ref k_ch, .ref k_co, .ref k_ua, .ref k_ub, .ref k_ba, .int (iI (fle 0)), .int (iI (fle 1)), .int (iI (fmo 0)), .int (iI (fmo 1)), .int (iI (bI HM)), .ref k_rt, .ref k_rf, .ref k_ct, .ref k_cf, .ref k_nd, .ref k_na, .ref k_no, .ref k_bt, .ref k_bc, .ref k_br, .int (iI bg), .int (iI pn), .ref k_pc, .ref k_pr, .ref k_la, .ref k_lb, .ref k_ha, .ref k_hb, .ref k_ls, .ref k_wc, .int (iI wd), .int (iI mg), .int (iI mw), .int (iI mc)])), (k_ct, .inl (cI, aI 152971 gct))]) rfl ?_
          refine g_icmp_ne (tgt := 65) C std_M_dominates_58 (by decide) ⟨by omega, by omega⟩ ⟨by omega, by omega⟩ (fun c104 => ?_) (fun c104 => ?_)
          · refine g_iconst C std_M_dominates_65 ?_
            refine g_goto (tgt := 85) C std_M_dominates_66 (by decide) ?_
            refine g_istore C (lv' := [(4, .int (iI 0)), (3, .int (iI z3)), (2, .int (iI b)), (1, .int (iI a)), (0, .ref m0)]) std_M_dominates_85 (by decide) rfl ?_
            have L87 : ∀ (z4 : Int), ((z4 = 1 ∧ ((0 < fle 1 ∧ (((a % 11767) / 7) % 41) = (((b % 11767) / 7) % 41)) ∨ (fle 1 ≤ 0 ∧ (((a % 11767) / 7) % 41) ≤ (((b % 11767) / 7) % 41)))) ∨ (z4 = 0 ∧ ¬ ((0 < fle 1 ∧ (((a % 11767) / 7) % 41) = (((b % 11767) / 7) % 41)) ∨ (fle 1 ≤ 0 ∧ (((a % 11767) / 7) % 41) ≤ (((b % 11767) / 7) % 41))))) → G p l e ({ frames := 1, cells := 0, slots := 0, locals := 20 } : Room) s m ([.ref m0, .int (iI a), .int (iI b)] : List Value).toArray below meth c (dC, dI) stCl 5 A 0 0 Q [(m0, .inr (5, [.int (iI 0), .int (iI steps), .ref k_ch, .ref k_co, .ref k_ua, .ref k_ub, .ref k_ba, .int (iI (fle 0)), .int (iI (fle 1)), .int (iI (fmo 0)), .int (iI (fmo 1)), .int (iI (bI HM)), .ref k_rt, .ref k_rf, .ref k_ct, .ref k_cf, .ref k_nd, .ref k_na, .ref k_no, .ref k_bt, .ref k_bc, .ref k_br, .int (iI bg), .int (iI pn), .ref k_pc, .ref k_pr, .ref k_la, .ref k_lb, .ref k_ha, .ref k_hb, .ref k_ls, .ref k_wc, .int (iI wd), .int (iI mg), .int (iI mw), .int (iI mc)])), (k_ct, .inl (cI, aI 152971 gct))] 87 [(4, .int (iI z4)), (3, .int (iI z3)), (2, .int (iI b)), (1, .int (iI a)), (0, .ref m0)] [] := by
              intro z4 kz4
              refine g_iload_n C 3 std_M_dominates_87 rfl ?_
              refine g_iload_n C 2 std_M_dominates_88 rfl ?_
              refine g_icmp_eq (tgt := 131) C std_M_dominates_89 (by decide) ⟨by omega, by omega⟩ ⟨by omega, by omega⟩ (fun c105 => ?_) (fun c105 => ?_)
              · refine g_iconst C std_M_dominates_131 ?_
                exact hret _ _ _ () (by rw [bI_f (by unfold DMp; omega)]) (by decide) std_M_dominates_132
              · refine g_iload_n C 1 std_M_dominates_92 rfl ?_
                refine g_if_eq (tgt := 131) C std_M_dominates_93 (by decide) ⟨by omega, by omega⟩ (fun c106 => ?_) (fun c106 => ?_)
                · refine g_iconst C std_M_dominates_131 ?_
                  exact hret _ _ _ () (by rw [bI_f (by unfold DMp; omega)]) (by decide) std_M_dominates_132
                · refine g_iload C 0 std_M_dominates_96 rfl ?_
                  refine g_if_eq (tgt := 131) C std_M_dominates_98 (by decide) ⟨by omega, by omega⟩ (fun c107 => ?_) (fun c107 => ?_)
                  · refine g_iconst C std_M_dominates_131 ?_
                    exact hret _ _ _ () (by rw [bI_f (by unfold DMp; omega)]) (by decide) std_M_dominates_132
                  · refine g_iload_n C 3 std_M_dominates_101 rfl ?_
                    refine g_S_i (wc := []) (wr := [(m0, .inr (5, [.int (iI 0), .int (iI steps), .ref k_ch, .ref k_co, .ref k_ua, .ref k_ub, .ref k_ba, .int (iI (fle 0)), .int (iI (fle 1)), .int (iI (fmo 0)), .int (iI (fmo 1)), .int (iI (bI HM)), .ref k_rt, .ref k_rf, .ref k_ct, .ref k_cf, .ref k_nd, .ref k_na, .ref k_no, .ref k_bt, .ref k_bc, .ref k_br, .int (iI bg), .int (iI pn), .ref k_pc, .ref k_pr, .ref k_la, .ref k_lb, .ref k_ha, .ref k_hb, .ref k_ls, .ref k_wc, .int (iI wd), .int (iI mg), .int (iI mw), .int (iI mc)])), (k_ct, .inl (cI, aI 152971 gct))]) (rest := []) C (c_m_lastOf l dC dI cI cJ cZ a (by omega)) (st_cS C kw_3_227 kw_3_225 kw_1_6 kw_3_226 sth_M_lastOf ⟨Nat.le_of_ble_eq_true rfl, Nat.le_of_ble_eq_true rfl⟩) rfl rfl (Nat.le_of_ble_eq_true rfl) std_M_dominates_102 ⟨Nat.le_of_ble_eq_true rfl, Nat.le_of_ble_eq_true rfl⟩ [] [0, 1] rfl rfl rfl rfl (by decide) (fun r108 u109 h110 => ?_)
                    subst h110
                    refine g_ws (ws' := [(m0, .inr (5, [.int (iI 0), .int (iI steps), .ref k_ch, .ref k_co, .ref k_ua, .ref k_ub, .ref k_ba, .int (iI (fle 0)), .int (iI (fle 1)), .int (iI (fmo 0)), .int (iI (fmo 1)), .int (iI (bI HM)), .ref k_rt, .ref k_rf, .ref k_ct, .ref k_cf, .ref k_nd, .ref k_na, .ref k_no, .ref k_bt, .ref k_bc, .ref k_br, .int (iI bg), .int (iI pn), .ref k_pc, .ref k_pr, .ref k_la, .ref k_lb, .ref k_ha, .ref k_hb, .ref k_ls, .ref k_wc, .int (iI wd), .int (iI mg), .int (iI mw), .int (iI mc)])), (k_ct, .inl (cI, aI 152971 gct))]) rfl ?_
                    refine g_iload_n C 2 std_M_dominates_105 rfl ?_
                    refine g_S_i (wc := []) (wr := [(m0, .inr (5, [.int (iI 0), .int (iI steps), .ref k_ch, .ref k_co, .ref k_ua, .ref k_ub, .ref k_ba, .int (iI (fle 0)), .int (iI (fle 1)), .int (iI (fmo 0)), .int (iI (fmo 1)), .int (iI (bI HM)), .ref k_rt, .ref k_rf, .ref k_ct, .ref k_cf, .ref k_nd, .ref k_na, .ref k_no, .ref k_bt, .ref k_bc, .ref k_br, .int (iI bg), .int (iI pn), .ref k_pc, .ref k_pr, .ref k_la, .ref k_lb, .ref k_ha, .ref k_hb, .ref k_ls, .ref k_wc, .int (iI wd), .int (iI mg), .int (iI mw), .int (iI mc)])), (k_ct, .inl (cI, aI 152971 gct))]) (rest := [.int (iI ((a % 7) - 1))]) C (c_m_lastOf l dC dI cI cJ cZ b (by omega)) (st_cS C kw_3_227 kw_3_225 kw_1_6 kw_3_226 sth_M_lastOf ⟨Nat.le_of_ble_eq_true rfl, Nat.le_of_ble_eq_true rfl⟩) rfl rfl (Nat.le_of_ble_eq_true rfl) std_M_dominates_106 ⟨Nat.le_of_ble_eq_true rfl, Nat.le_of_ble_eq_true rfl⟩ [] [0, 1] rfl rfl rfl rfl (by decide) (fun r111 u112 h113 => ?_)
                    subst h113
                    refine g_ws (ws' := [(m0, .inr (5, [.int (iI 0), .int (iI steps), .ref k_ch, .ref k_co, .ref k_ua, .ref k_ub, .ref k_ba, .int (iI (fle 0)), .int (iI (fle 1)), .int (iI (fmo 0)), .int (iI (fmo 1)), .int (iI (bI HM)), .ref k_rt, .ref k_rf, .ref k_ct, .ref k_cf, .ref k_nd, .ref k_na, .ref k_no, .ref k_bt, .ref k_bc, .ref k_br, .int (iI bg), .int (iI pn), .ref k_pc, .ref k_pr, .ref k_la, .ref k_lb, .ref k_ha, .ref k_hb, .ref k_ls, .ref k_wc, .int (iI wd), .int (iI mg), .int (iI mw), .int (iI mc)])), (k_ct, .inl (cI, aI 152971 gct))]) rfl ?_
                    refine g_icmp_ne (tgt := 131) C std_M_dominates_109 (by decide) ⟨by omega, by omega⟩ ⟨by omega, by omega⟩ (fun c114 => ?_) (fun c114 => ?_)
                    · refine g_iconst C std_M_dominates_131 ?_
                      refine g_wide (k := 0) (n := 0) (Nat.le_of_ble_eq_true rfl) (Nat.le_of_ble_eq_true rfl) ?_
                      exact hret _ _ _ () (by rw [bI_f (by unfold DMp; omega)]) (by decide) std_M_dominates_132
                    · refine g_aload_n C 4 std_M_dominates_112 rfl ?_
                      refine g_get C (st_sub sti_M) 0 rfl rfl 14 (by decide) (List.mem_cons_of_mem _ kw_3_80) rfl rfl std_M_dominates_113 ?_
                      refine g_iload_n C 3 std_M_dominates_116 rfl ?_
                      refine g_iald C 1 0 rfl rfl (by omega) (by omega) (by omega) std_M_dominates_117 ?_
                      refine g_aload_n C 4 std_M_dominates_118 rfl ?_
                      refine g_get C (st_sub sti_M) 0 rfl rfl 14 (by decide) (List.mem_cons_of_mem _ kw_3_80) rfl rfl std_M_dominates_119 ?_
                      refine g_iload_n C 2 std_M_dominates_122 rfl ?_
                      refine g_iald C 1 0 rfl rfl (by omega) (by omega) (by omega) std_M_dominates_123 ?_
                      refine g_icmp_gt (tgt := 131) C std_M_dominates_124 (by decide) ⟨by omega, by omega⟩ ⟨by omega, by omega⟩ (fun c115 => ?_) (fun c115 => ?_)
                      · refine g_iconst C std_M_dominates_131 ?_
                        refine g_wide (k := 0) (n := 0) (Nat.le_of_ble_eq_true rfl) (Nat.le_of_ble_eq_true rfl) ?_
                        exact hret _ _ _ () (by rw [bI_f (by unfold DMp; omega)]) (by decide) std_M_dominates_132
                      · refine g_iconst C std_M_dominates_127 ?_
                        refine g_goto (tgt := 132) C std_M_dominates_128 (by decide) ?_
                        refine g_wide (k := 0) (n := 0) (Nat.le_of_ble_eq_true rfl) (Nat.le_of_ble_eq_true rfl) ?_
                        exact hret _ _ _ () (by rw [bI_t (by unfold DMp; omega)]) (by decide) std_M_dominates_132
            refine g_wide (k := 0) (n := 0) (Nat.le_of_ble_eq_true rfl) (Nat.le_of_ble_eq_true rfl) ?_
            exact L87 0 (by omega)
          · refine g_iconst C std_M_dominates_61 ?_
            refine g_goto (tgt := 85) C std_M_dominates_62 (by decide) ?_
            refine g_istore C (lv' := [(4, .int (iI 1)), (3, .int (iI z3)), (2, .int (iI b)), (1, .int (iI a)), (0, .ref m0)]) std_M_dominates_85 (by decide) rfl ?_
            have L87 : ∀ (z4 : Int), ((z4 = 1 ∧ ((0 < fle 1 ∧ (((a % 11767) / 7) % 41) = (((b % 11767) / 7) % 41)) ∨ (fle 1 ≤ 0 ∧ (((a % 11767) / 7) % 41) ≤ (((b % 11767) / 7) % 41)))) ∨ (z4 = 0 ∧ ¬ ((0 < fle 1 ∧ (((a % 11767) / 7) % 41) = (((b % 11767) / 7) % 41)) ∨ (fle 1 ≤ 0 ∧ (((a % 11767) / 7) % 41) ≤ (((b % 11767) / 7) % 41))))) → G p l e ({ frames := 1, cells := 0, slots := 0, locals := 20 } : Room) s m ([.ref m0, .int (iI a), .int (iI b)] : List Value).toArray below meth c (dC, dI) stCl 5 A 0 0 Q [(m0, .inr (5, [.int (iI 0), .int (iI steps), .ref k_ch, .ref k_co, .ref k_ua, .ref k_ub, .ref k_ba, .int (iI (fle 0)), .int (iI (fle 1)), .int (iI (fmo 0)), .int (iI (fmo 1)), .int (iI (bI HM)), .ref k_rt, .ref k_rf, .ref k_ct, .ref k_cf, .ref k_nd, .ref k_na, .ref k_no, .ref k_bt, .ref k_bc, .ref k_br, .int (iI bg), .int (iI pn), .ref k_pc, .ref k_pr, .ref k_la, .ref k_lb, .ref k_ha, .ref k_hb, .ref k_ls, .ref k_wc, .int (iI wd), .int (iI mg), .int (iI mw), .int (iI mc)])), (k_ct, .inl (cI, aI 152971 gct))] 87 [(4, .int (iI z4)), (3, .int (iI z3)), (2, .int (iI b)), (1, .int (iI a)), (0, .ref m0)] [] := by
              intro z4 kz4
              refine g_iload_n C 3 std_M_dominates_87 rfl ?_
              refine g_iload_n C 2 std_M_dominates_88 rfl ?_
              refine g_icmp_eq (tgt := 131) C std_M_dominates_89 (by decide) ⟨by omega, by omega⟩ ⟨by omega, by omega⟩ (fun c116 => ?_) (fun c116 => ?_)
              · refine g_iconst C std_M_dominates_131 ?_
                exact hret _ _ _ () (by rw [bI_f (by unfold DMp; omega)]) (by decide) std_M_dominates_132
              · refine g_iload_n C 1 std_M_dominates_92 rfl ?_
                refine g_if_eq (tgt := 131) C std_M_dominates_93 (by decide) ⟨by omega, by omega⟩ (fun c117 => ?_) (fun c117 => ?_)
                · refine g_iconst C std_M_dominates_131 ?_
                  exact hret _ _ _ () (by rw [bI_f (by unfold DMp; omega)]) (by decide) std_M_dominates_132
                · refine g_iload C 0 std_M_dominates_96 rfl ?_
                  refine g_if_eq (tgt := 131) C std_M_dominates_98 (by decide) ⟨by omega, by omega⟩ (fun c118 => ?_) (fun c118 => ?_)
                  · refine g_iconst C std_M_dominates_131 ?_
                    exact hret _ _ _ () (by rw [bI_f (by unfold DMp; omega)]) (by decide) std_M_dominates_132
                  · refine g_iload_n C 3 std_M_dominates_101 rfl ?_
                    refine g_S_i (wc := []) (wr := [(m0, .inr (5, [.int (iI 0), .int (iI steps), .ref k_ch, .ref k_co, .ref k_ua, .ref k_ub, .ref k_ba, .int (iI (fle 0)), .int (iI (fle 1)), .int (iI (fmo 0)), .int (iI (fmo 1)), .int (iI (bI HM)), .ref k_rt, .ref k_rf, .ref k_ct, .ref k_cf, .ref k_nd, .ref k_na, .ref k_no, .ref k_bt, .ref k_bc, .ref k_br, .int (iI bg), .int (iI pn), .ref k_pc, .ref k_pr, .ref k_la, .ref k_lb, .ref k_ha, .ref k_hb, .ref k_ls, .ref k_wc, .int (iI wd), .int (iI mg), .int (iI mw), .int (iI mc)])), (k_ct, .inl (cI, aI 152971 gct))]) (rest := []) C (c_m_lastOf l dC dI cI cJ cZ a (by omega)) (st_cS C kw_3_227 kw_3_225 kw_1_6 kw_3_226 sth_M_lastOf ⟨Nat.le_of_ble_eq_true rfl, Nat.le_of_ble_eq_true rfl⟩) rfl rfl (Nat.le_of_ble_eq_true rfl) std_M_dominates_102 ⟨Nat.le_of_ble_eq_true rfl, Nat.le_of_ble_eq_true rfl⟩ [] [0, 1] rfl rfl rfl rfl (by decide) (fun r119 u120 h121 => ?_)
                    subst h121
                    refine g_ws (ws' := [(m0, .inr (5, [.int (iI 0), .int (iI steps), .ref k_ch, .ref k_co, .ref k_ua, .ref k_ub, .ref k_ba, .int (iI (fle 0)), .int (iI (fle 1)), .int (iI (fmo 0)), .int (iI (fmo 1)), .int (iI (bI HM)), .ref k_rt, .ref k_rf, .ref k_ct, .ref k_cf, .ref k_nd, .ref k_na, .ref k_no, .ref k_bt, .ref k_bc, .ref k_br, .int (iI bg), .int (iI pn), .ref k_pc, .ref k_pr, .ref k_la, .ref k_lb, .ref k_ha, .ref k_hb, .ref k_ls, .ref k_wc, .int (iI wd), .int (iI mg), .int (iI mw), .int (iI mc)])), (k_ct, .inl (cI, aI 152971 gct))]) rfl ?_
                    refine g_iload_n C 2 std_M_dominates_105 rfl ?_
                    refine g_S_i (wc := []) (wr := [(m0, .inr (5, [.int (iI 0), .int (iI steps), .ref k_ch, .ref k_co, .ref k_ua, .ref k_ub, .ref k_ba, .int (iI (fle 0)), .int (iI (fle 1)), .int (iI (fmo 0)), .int (iI (fmo 1)), .int (iI (bI HM)), .ref k_rt, .ref k_rf, .ref k_ct, .ref k_cf, .ref k_nd, .ref k_na, .ref k_no, .ref k_bt, .ref k_bc, .ref k_br, .int (iI bg), .int (iI pn), .ref k_pc, .ref k_pr, .ref k_la, .ref k_lb, .ref k_ha, .ref k_hb, .ref k_ls, .ref k_wc, .int (iI wd), .int (iI mg), .int (iI mw), .int (iI mc)])), (k_ct, .inl (cI, aI 152971 gct))]) (rest := [.int (iI ((a % 7) - 1))]) C (c_m_lastOf l dC dI cI cJ cZ b (by omega)) (st_cS C kw_3_227 kw_3_225 kw_1_6 kw_3_226 sth_M_lastOf ⟨Nat.le_of_ble_eq_true rfl, Nat.le_of_ble_eq_true rfl⟩) rfl rfl (Nat.le_of_ble_eq_true rfl) std_M_dominates_106 ⟨Nat.le_of_ble_eq_true rfl, Nat.le_of_ble_eq_true rfl⟩ [] [0, 1] rfl rfl rfl rfl (by decide) (fun r122 u123 h124 => ?_)
                    subst h124
                    refine g_ws (ws' := [(m0, .inr (5, [.int (iI 0), .int (iI steps), .ref k_ch, .ref k_co, .ref k_ua, .ref k_ub, .ref k_ba, .int (iI (fle 0)), .int (iI (fle 1)), .int (iI (fmo 0)), .int (iI (fmo 1)), .int (iI (bI HM)), .ref k_rt, .ref k_rf, .ref k_ct, .ref k_cf, .ref k_nd, .ref k_na, .ref k_no, .ref k_bt, .ref k_bc, .ref k_br, .int (iI bg), .int (iI pn), .ref k_pc, .ref k_pr, .ref k_la, .ref k_lb, .ref k_ha, .ref k_hb, .ref k_ls, .ref k_wc, .int (iI wd), .int (iI mg), .int (iI mw), .int (iI mc)])), (k_ct, .inl (cI, aI 152971 gct))]) rfl ?_
                    refine g_icmp_ne (tgt := 131) C std_M_dominates_109 (by decide) ⟨by omega, by omega⟩ ⟨by omega, by omega⟩ (fun c125 => ?_) (fun c125 => ?_)
                    · refine g_iconst C std_M_dominates_131 ?_
                      refine g_wide (k := 0) (n := 0) (Nat.le_of_ble_eq_true rfl) (Nat.le_of_ble_eq_true rfl) ?_
                      exact hret _ _ _ () (by rw [bI_f (by unfold DMp; omega)]) (by decide) std_M_dominates_132
                    · refine g_aload_n C 4 std_M_dominates_112 rfl ?_
                      refine g_get C (st_sub sti_M) 0 rfl rfl 14 (by decide) (List.mem_cons_of_mem _ kw_3_80) rfl rfl std_M_dominates_113 ?_
                      refine g_iload_n C 3 std_M_dominates_116 rfl ?_
                      refine g_iald C 1 0 rfl rfl (by omega) (by omega) (by omega) std_M_dominates_117 ?_
                      refine g_aload_n C 4 std_M_dominates_118 rfl ?_
                      refine g_get C (st_sub sti_M) 0 rfl rfl 14 (by decide) (List.mem_cons_of_mem _ kw_3_80) rfl rfl std_M_dominates_119 ?_
                      refine g_iload_n C 2 std_M_dominates_122 rfl ?_
                      refine g_iald C 1 0 rfl rfl (by omega) (by omega) (by omega) std_M_dominates_123 ?_
                      refine g_icmp_gt (tgt := 131) C std_M_dominates_124 (by decide) ⟨by omega, by omega⟩ ⟨by omega, by omega⟩ (fun c126 => ?_) (fun c126 => ?_)
                      · refine g_iconst C std_M_dominates_131 ?_
                        refine g_wide (k := 0) (n := 0) (Nat.le_of_ble_eq_true rfl) (Nat.le_of_ble_eq_true rfl) ?_
                        exact hret _ _ _ () (by rw [bI_f (by unfold DMp; omega)]) (by decide) std_M_dominates_132
                      · refine g_iconst C std_M_dominates_127 ?_
                        refine g_goto (tgt := 132) C std_M_dominates_128 (by decide) ?_
                        refine g_wide (k := 0) (n := 0) (Nat.le_of_ble_eq_true rfl) (Nat.le_of_ble_eq_true rfl) ?_
                        exact hret _ _ _ () (by rw [bI_t (by unfold DMp; omega)]) (by decide) std_M_dominates_132
            refine g_wide (k := 0) (n := 0) (Nat.le_of_ble_eq_true rfl) (Nat.le_of_ble_eq_true rfl) ?_
            exact L87 1 (by omega)
      refine g_lv (lv' := [(3, .int (iI 1)), (2, .int (iI b)), (1, .int (iI a)), (0, .ref m0)]) [0, 3, 2, 1] rfl ?_
      refine g_wide (k := 0) (n := 0) (Nat.le_of_ble_eq_true rfl) (Nat.le_of_ble_eq_true rfl) ?_
      exact L43 1 (by omega)
  · refine g_iload_n C 1 std_M_dominates_7 rfl ?_
    refine g_S_i (wc := []) (wr := [(m0, .inr (5, [.int (iI 0), .int (iI steps), .ref k_ch, .ref k_co, .ref k_ua, .ref k_ub, .ref k_ba, .int (iI (fle 0)), .int (iI (fle 1)), .int (iI (fmo 0)), .int (iI (fmo 1)), .int (iI (bI HM)), .ref k_rt, .ref k_rf, .ref k_ct, .ref k_cf, .ref k_nd, .ref k_na, .ref k_no, .ref k_bt, .ref k_bc, .ref k_br, .int (iI bg), .int (iI pn), .ref k_pc, .ref k_pr, .ref k_la, .ref k_lb, .ref k_ha, .ref k_hb, .ref k_ls, .ref k_wc, .int (iI wd), .int (iI mg), .int (iI mw), .int (iI mc)])), (k_ct, .inl (cI, aI 152971 gct))]) (rest := []) C (c_m_aOf l dC dI cI cJ cZ a (by omega)) (st_cS C kw_3_230 kw_3_228 kw_1_6 kw_3_229 sth_M_aOf ⟨Nat.le_of_ble_eq_true rfl, Nat.le_of_ble_eq_true rfl⟩) rfl rfl (Nat.le_of_ble_eq_true rfl) std_M_dominates_8 ⟨Nat.le_of_ble_eq_true rfl, Nat.le_of_ble_eq_true rfl⟩ [] [0, 1] rfl rfl rfl rfl (by decide) (fun r127 u128 h129 => ?_)
    subst h129
    refine g_ws (ws' := [(m0, .inr (5, [.int (iI 0), .int (iI steps), .ref k_ch, .ref k_co, .ref k_ua, .ref k_ub, .ref k_ba, .int (iI (fle 0)), .int (iI (fle 1)), .int (iI (fmo 0)), .int (iI (fmo 1)), .int (iI (bI HM)), .ref k_rt, .ref k_rf, .ref k_ct, .ref k_cf, .ref k_nd, .ref k_na, .ref k_no, .ref k_bt, .ref k_bc, .ref k_br, .int (iI bg), .int (iI pn), .ref k_pc, .ref k_pr, .ref k_la, .ref k_lb, .ref k_ha, .ref k_hb, .ref k_ls, .ref k_wc, .int (iI wd), .int (iI mg), .int (iI mw), .int (iI mc)])), (k_ct, .inl (cI, aI 152971 gct))]) rfl ?_
    refine g_iload_n C 2 std_M_dominates_11 rfl ?_
    refine g_S_i (wc := []) (wr := [(m0, .inr (5, [.int (iI 0), .int (iI steps), .ref k_ch, .ref k_co, .ref k_ua, .ref k_ub, .ref k_ba, .int (iI (fle 0)), .int (iI (fle 1)), .int (iI (fmo 0)), .int (iI (fmo 1)), .int (iI (bI HM)), .ref k_rt, .ref k_rf, .ref k_ct, .ref k_cf, .ref k_nd, .ref k_na, .ref k_no, .ref k_bt, .ref k_bc, .ref k_br, .int (iI bg), .int (iI pn), .ref k_pc, .ref k_pr, .ref k_la, .ref k_lb, .ref k_ha, .ref k_hb, .ref k_ls, .ref k_wc, .int (iI wd), .int (iI mg), .int (iI mw), .int (iI mc)])), (k_ct, .inl (cI, aI 152971 gct))]) (rest := [.int (iI (((a % 11767) / 7) / 41))]) C (c_m_aOf l dC dI cI cJ cZ b (by omega)) (st_cS C kw_3_230 kw_3_228 kw_1_6 kw_3_229 sth_M_aOf ⟨Nat.le_of_ble_eq_true rfl, Nat.le_of_ble_eq_true rfl⟩) rfl rfl (Nat.le_of_ble_eq_true rfl) std_M_dominates_12 ⟨Nat.le_of_ble_eq_true rfl, Nat.le_of_ble_eq_true rfl⟩ [] [0, 1] rfl rfl rfl rfl (by decide) (fun r130 u131 h132 => ?_)
    subst h132
    refine g_ws (ws' := [(m0, .inr (5, [.int (iI 0), .int (iI steps), .ref k_ch, .ref k_co, .ref k_ua, .ref k_ub, .ref k_ba, .int (iI (fle 0)), .int (iI (fle 1)), .int (iI (fmo 0)), .int (iI (fmo 1)), .int (iI (bI HM)), .ref k_rt, .ref k_rf, .ref k_ct, .ref k_cf, .ref k_nd, .ref k_na, .ref k_no, .ref k_bt, .ref k_bc, .ref k_br, .int (iI bg), .int (iI pn), .ref k_pc, .ref k_pr, .ref k_la, .ref k_lb, .ref k_ha, .ref k_hb, .ref k_ls, .ref k_wc, .int (iI wd), .int (iI mg), .int (iI mw), .int (iI mc)])), (k_ct, .inl (cI, aI 152971 gct))]) rfl ?_
    refine g_icmp_ne (tgt := 22) C std_M_dominates_15 (by decide) ⟨by omega, by omega⟩ ⟨by omega, by omega⟩ (fun c133 => ?_) (fun c133 => ?_)
    · refine g_iconst C std_M_dominates_22 ?_
      refine g_goto (tgt := 42) C std_M_dominates_23 (by decide) ?_
      refine g_istore_n C (lv' := [(3, .int (iI 0)), (0, .ref m0), (1, .int (iI a)), (2, .int (iI b))]) std_M_dominates_42 (by decide) rfl ?_
      have L43 : ∀ (z3 : Int), ((z3 = 1 ∧ ((0 < fle 0 ∧ (((a % 11767) / 7) / 41) = (((b % 11767) / 7) / 41)) ∨ (fle 0 ≤ 0 ∧ (((a % 11767) / 7) / 41) ≤ (((b % 11767) / 7) / 41)))) ∨ (z3 = 0 ∧ ¬ ((0 < fle 0 ∧ (((a % 11767) / 7) / 41) = (((b % 11767) / 7) / 41)) ∨ (fle 0 ≤ 0 ∧ (((a % 11767) / 7) / 41) ≤ (((b % 11767) / 7) / 41))))) → G p l e ({ frames := 1, cells := 0, slots := 0, locals := 20 } : Room) s m ([.ref m0, .int (iI a), .int (iI b)] : List Value).toArray below meth c (dC, dI) stCl 5 A 0 0 Q [(m0, .inr (5, [.int (iI 0), .int (iI steps), .ref k_ch, .ref k_co, .ref k_ua, .ref k_ub, .ref k_ba, .int (iI (fle 0)), .int (iI (fle 1)), .int (iI (fmo 0)), .int (iI (fmo 1)), .int (iI (bI HM)), .ref k_rt, .ref k_rf, .ref k_ct, .ref k_cf, .ref k_nd, .ref k_na, .ref k_no, .ref k_bt, .ref k_bc, .ref k_br, .int (iI bg), .int (iI pn), .ref k_pc, .ref k_pr, .ref k_la, .ref k_lb, .ref k_ha, .ref k_hb, .ref k_ls, .ref k_wc, .int (iI wd), .int (iI mg), .int (iI mw), .int (iI mc)])), (k_ct, .inl (cI, aI 152971 gct))] 43 [(3, .int (iI z3)), (2, .int (iI b)), (1, .int (iI a)), (0, .ref m0)] [] := by
        intro z3 kz3
        refine g_aload_n C 3 std_M_dominates_43 rfl ?_
        refine g_get C (st_sub sti_M) 0 rfl rfl 8 (by decide) (List.mem_cons_of_mem _ kw_3_74) rfl rfl std_M_dominates_44 ?_
        refine g_if_le (tgt := 69) C std_M_dominates_47 (by decide) ⟨by omega, by omega⟩ (fun c134 => ?_) (fun c134 => ?_)
        · refine g_iload_n C 2 std_M_dominates_69 rfl ?_
          refine g_S_i (wc := []) (wr := [(m0, .inr (5, [.int (iI 0), .int (iI steps), .ref k_ch, .ref k_co, .ref k_ua, .ref k_ub, .ref k_ba, .int (iI (fle 0)), .int (iI (fle 1)), .int (iI (fmo 0)), .int (iI (fmo 1)), .int (iI (bI HM)), .ref k_rt, .ref k_rf, .ref k_ct, .ref k_cf, .ref k_nd, .ref k_na, .ref k_no, .ref k_bt, .ref k_bc, .ref k_br, .int (iI bg), .int (iI pn), .ref k_pc, .ref k_pr, .ref k_la, .ref k_lb, .ref k_ha, .ref k_hb, .ref k_ls, .ref k_wc, .int (iI wd), .int (iI mg), .int (iI mw), .int (iI mc)])), (k_ct, .inl (cI, aI 152971 gct))]) (rest := []) C (c_m_bOf l dC dI cI cJ cZ a (by omega)) (st_cS C kw_3_233 kw_3_231 kw_1_6 kw_3_232 sth_M_bOf ⟨Nat.le_of_ble_eq_true rfl, Nat.le_of_ble_eq_true rfl⟩) rfl rfl (Nat.le_of_ble_eq_true rfl) std_M_dominates_70 ⟨Nat.le_of_ble_eq_true rfl, Nat.le_of_ble_eq_true rfl⟩ [] [0, 1] rfl rfl rfl rfl (by decide) (fun r135 u136 h137 => ?_)
          subst h137
          refine g_ws (ws' := [(m0, .inr (5, [.int (iI 0), .int (iI steps), .ref k_ch, .ref k_co, .ref k_ua, .ref k_ub, .ref k_ba, .int (iI (fle 0)), .int (iI (fle 1)), .int (iI (fmo 0)), .int (iI (fmo 1)), .int (iI (bI HM)), .ref k_rt, .ref k_rf, .ref k_ct, .ref k_cf, .ref k_nd, .ref k_na, .ref k_no, .ref k_bt, .ref k_bc, .ref k_br, .int (iI bg), .int (iI pn), .ref k_pc, .ref k_pr, .ref k_la, .ref k_lb, .ref k_ha, .ref k_hb, .ref k_ls, .ref k_wc, .int (iI wd), .int (iI mg), .int (iI mw), .int (iI mc)])), (k_ct, .inl (cI, aI 152971 gct))]) rfl ?_
          refine g_iload_n C 1 std_M_dominates_73 rfl ?_
          refine g_S_i (wc := []) (wr := [(m0, .inr (5, [.int (iI 0), .int (iI steps), .ref k_ch, .ref k_co, .ref k_ua, .ref k_ub, .ref k_ba, .int (iI (fle 0)), .int (iI (fle 1)), .int (iI (fmo 0)), .int (iI (fmo 1)), .int (iI (bI HM)), .ref k_rt, .ref k_rf, .ref k_ct, .ref k_cf, .ref k_nd, .ref k_na, .ref k_no, .ref k_bt, .ref k_bc, .ref k_br, .int (iI bg), .int (iI pn), .ref k_pc, .ref k_pr, .ref k_la, .ref k_lb, .ref k_ha, .ref k_hb, .ref k_ls, .ref k_wc, .int (iI wd), .int (iI mg), .int (iI mw), .int (iI mc)])), (k_ct, .inl (cI, aI 152971 gct))]) (rest := [.int (iI (((a % 11767) / 7) % 41))]) C (c_m_bOf l dC dI cI cJ cZ b (by omega)) (st_cS C kw_3_233 kw_3_231 kw_1_6 kw_3_232 sth_M_bOf ⟨Nat.le_of_ble_eq_true rfl, Nat.le_of_ble_eq_true rfl⟩) rfl rfl (Nat.le_of_ble_eq_true rfl) std_M_dominates_74 ⟨Nat.le_of_ble_eq_true rfl, Nat.le_of_ble_eq_true rfl⟩ [] [0, 1] rfl rfl rfl rfl (by decide) (fun r138 u139 h140 => ?_)
          subst h140
          refine g_ws (ws' := [(m0, .inr (5, [.int (iI 0), .int (iI steps), .ref k_ch, .ref k_co, .ref k_ua, .ref k_ub, .ref k_ba, .int (iI (fle 0)), .int (iI (fle 1)), .int (iI (fmo 0)), .int (iI (fmo 1)), .int (iI (bI HM)), .ref k_rt, .ref k_rf, .ref k_ct, .ref k_cf, .ref k_nd, .ref k_na, .ref k_no, .ref k_bt, .ref k_bc, .ref k_br, .int (iI bg), .int (iI pn), .ref k_pc, .ref k_pr, .ref k_la, .ref k_lb, .ref k_ha, .ref k_hb, .ref k_ls, .ref k_wc, .int (iI wd), .int (iI mg), .int (iI mw), .int (iI mc)])), (k_ct, .inl (cI, aI 152971 gct))]) rfl ?_
          refine g_icmp_gt (tgt := 84) C std_M_dominates_77 (by decide) ⟨by omega, by omega⟩ ⟨by omega, by omega⟩ (fun c141 => ?_) (fun c141 => ?_)
          · refine g_iconst C std_M_dominates_84 ?_
            refine g_istore C (lv' := [(4, .int (iI 0)), (3, .int (iI z3)), (2, .int (iI b)), (1, .int (iI a)), (0, .ref m0)]) std_M_dominates_85 (by decide) rfl ?_
            have L87 : ∀ (z4 : Int), ((z4 = 1 ∧ ((0 < fle 1 ∧ (((a % 11767) / 7) % 41) = (((b % 11767) / 7) % 41)) ∨ (fle 1 ≤ 0 ∧ (((a % 11767) / 7) % 41) ≤ (((b % 11767) / 7) % 41)))) ∨ (z4 = 0 ∧ ¬ ((0 < fle 1 ∧ (((a % 11767) / 7) % 41) = (((b % 11767) / 7) % 41)) ∨ (fle 1 ≤ 0 ∧ (((a % 11767) / 7) % 41) ≤ (((b % 11767) / 7) % 41))))) → G p l e ({ frames := 1, cells := 0, slots := 0, locals := 20 } : Room) s m ([.ref m0, .int (iI a), .int (iI b)] : List Value).toArray below meth c (dC, dI) stCl 5 A 0 0 Q [(m0, .inr (5, [.int (iI 0), .int (iI steps), .ref k_ch, .ref k_co, .ref k_ua, .ref k_ub, .ref k_ba, .int (iI (fle 0)), .int (iI (fle 1)), .int (iI (fmo 0)), .int (iI (fmo 1)), .int (iI (bI HM)), .ref k_rt, .ref k_rf, .ref k_ct, .ref k_cf, .ref k_nd, .ref k_na, .ref k_no, .ref k_bt, .ref k_bc, .ref k_br, .int (iI bg), .int (iI pn), .ref k_pc, .ref k_pr, .ref k_la, .ref k_lb, .ref k_ha, .ref k_hb, .ref k_ls, .ref k_wc, .int (iI wd), .int (iI mg), .int (iI mw), .int (iI mc)])), (k_ct, .inl (cI, aI 152971 gct))] 87 [(4, .int (iI z4)), (3, .int (iI z3)), (2, .int (iI b)), (1, .int (iI a)), (0, .ref m0)] [] := by
              intro z4 kz4
              refine g_iload_n C 3 std_M_dominates_87 rfl ?_
              refine g_iload_n C 2 std_M_dominates_88 rfl ?_
              refine g_icmp_eq (tgt := 131) C std_M_dominates_89 (by decide) ⟨by omega, by omega⟩ ⟨by omega, by omega⟩ (fun c142 => ?_) (fun c142 => ?_)
              · refine g_iconst C std_M_dominates_131 ?_
                exact hret _ _ _ () (by rw [bI_f (by unfold DMp; omega)]) (by decide) std_M_dominates_132
              · refine g_iload_n C 1 std_M_dominates_92 rfl ?_
                refine g_if_eq (tgt := 131) C std_M_dominates_93 (by decide) ⟨by omega, by omega⟩ (fun c143 => ?_) (fun c143 => ?_)
                · refine g_iconst C std_M_dominates_131 ?_
                  exact hret _ _ _ () (by rw [bI_f (by unfold DMp; omega)]) (by decide) std_M_dominates_132
                · refine g_iload C 0 std_M_dominates_96 rfl ?_
                  refine g_if_eq (tgt := 131) C std_M_dominates_98 (by decide) ⟨by omega, by omega⟩ (fun c144 => ?_) (fun c144 => ?_)
                  · refine g_iconst C std_M_dominates_131 ?_
                    exact hret _ _ _ () (by rw [bI_f (by unfold DMp; omega)]) (by decide) std_M_dominates_132
                  · refine g_iload_n C 3 std_M_dominates_101 rfl ?_
                    refine g_S_i (wc := []) (wr := [(m0, .inr (5, [.int (iI 0), .int (iI steps), .ref k_ch, .ref k_co, .ref k_ua, .ref k_ub, .ref k_ba, .int (iI (fle 0)), .int (iI (fle 1)), .int (iI (fmo 0)), .int (iI (fmo 1)), .int (iI (bI HM)), .ref k_rt, .ref k_rf, .ref k_ct, .ref k_cf, .ref k_nd, .ref k_na, .ref k_no, .ref k_bt, .ref k_bc, .ref k_br, .int (iI bg), .int (iI pn), .ref k_pc, .ref k_pr, .ref k_la, .ref k_lb, .ref k_ha, .ref k_hb, .ref k_ls, .ref k_wc, .int (iI wd), .int (iI mg), .int (iI mw), .int (iI mc)])), (k_ct, .inl (cI, aI 152971 gct))]) (rest := []) C (c_m_lastOf l dC dI cI cJ cZ a (by omega)) (st_cS C kw_3_227 kw_3_225 kw_1_6 kw_3_226 sth_M_lastOf ⟨Nat.le_of_ble_eq_true rfl, Nat.le_of_ble_eq_true rfl⟩) rfl rfl (Nat.le_of_ble_eq_true rfl) std_M_dominates_102 ⟨Nat.le_of_ble_eq_true rfl, Nat.le_of_ble_eq_true rfl⟩ [] [0, 1] rfl rfl rfl rfl (by decide) (fun r145 u146 h147 => ?_)
                    subst h147
                    refine g_ws (ws' := [(m0, .inr (5, [.int (iI 0), .int (iI steps), .ref k_ch, .ref k_co, .ref k_ua, .ref k_ub, .ref k_ba, .int (iI (fle 0)), .int (iI (fle 1)), .int (iI (fmo 0)), .int (iI (fmo 1)), .int (iI (bI HM)), .ref k_rt, .ref k_rf, .ref k_ct, .ref k_cf, .ref k_nd, .ref k_na, .ref k_no, .ref k_bt, .ref k_bc, .ref k_br, .int (iI bg), .int (iI pn), .ref k_pc, .ref k_pr, .ref k_la, .ref k_lb, .ref k_ha, .ref k_hb, .ref k_ls, .ref k_wc, .int (iI wd), .int (iI mg), .int (iI mw), .int (iI mc)])), (k_ct, .inl (cI, aI 152971 gct))]) rfl ?_
                    refine g_iload_n C 2 std_M_dominates_105 rfl ?_
                    refine g_S_i (wc := []) (wr := [(m0, .inr (5, [.int (iI 0), .int (iI steps), .ref k_ch, .ref k_co, .ref k_ua, .ref k_ub, .ref k_ba, .int (iI (fle 0)), .int (iI (fle 1)), .int (iI (fmo 0)), .int (iI (fmo 1)), .int (iI (bI HM)), .ref k_rt, .ref k_rf, .ref k_ct, .ref k_cf, .ref k_nd, .ref k_na, .ref k_no, .ref k_bt, .ref k_bc, .ref k_br, .int (iI bg), .int (iI pn), .ref k_pc, .ref k_pr, .ref k_la, .ref k_lb, .ref k_ha, .ref k_hb, .ref k_ls, .ref k_wc, .int (iI wd), .int (iI mg), .int (iI mw), .int (iI mc)])), (k_ct, .inl (cI, aI 152971 gct))]) (rest := [.int (iI ((a % 7) - 1))]) C (c_m_lastOf l dC dI cI cJ cZ b (by omega)) (st_cS C kw_3_227 kw_3_225 kw_1_6 kw_3_226 sth_M_lastOf ⟨Nat.le_of_ble_eq_true rfl, Nat.le_of_ble_eq_true rfl⟩) rfl rfl (Nat.le_of_ble_eq_true rfl) std_M_dominates_106 ⟨Nat.le_of_ble_eq_true rfl, Nat.le_of_ble_eq_true rfl⟩ [] [0, 1] rfl rfl rfl rfl (by decide) (fun r148 u149 h150 => ?_)
                    subst h150
                    refine g_ws (ws' := [(m0, .inr (5, [.int (iI 0), .int (iI steps), .ref k_ch, .ref k_co, .ref k_ua, .ref k_ub, .ref k_ba, .int (iI (fle 0)), .int (iI (fle 1)), .int (iI (fmo 0)), .int (iI (fmo 1)), .int (iI (bI HM)), .ref k_rt, .ref k_rf, .ref k_ct, .ref k_cf, .ref k_nd, .ref k_na, .ref k_no, .ref k_bt, .ref k_bc, .ref k_br, .int (iI bg), .int (iI pn), .ref k_pc, .ref k_pr, .ref k_la, .ref k_lb, .ref k_ha, .ref k_hb, .ref k_ls, .ref k_wc, .int (iI wd), .int (iI mg), .int (iI mw), .int (iI mc)])), (k_ct, .inl (cI, aI 152971 gct))]) rfl ?_
                    refine g_icmp_ne (tgt := 131) C std_M_dominates_109 (by decide) ⟨by omega, by omega⟩ ⟨by omega, by omega⟩ (fun c151 => ?_) (fun c151 => ?_)
                    · refine g_iconst C std_M_dominates_131 ?_
                      refine g_wide (k := 0) (n := 0) (Nat.le_of_ble_eq_true rfl) (Nat.le_of_ble_eq_true rfl) ?_
                      exact hret _ _ _ () (by rw [bI_f (by unfold DMp; omega)]) (by decide) std_M_dominates_132
                    · refine g_aload_n C 4 std_M_dominates_112 rfl ?_
                      refine g_get C (st_sub sti_M) 0 rfl rfl 14 (by decide) (List.mem_cons_of_mem _ kw_3_80) rfl rfl std_M_dominates_113 ?_
                      refine g_iload_n C 3 std_M_dominates_116 rfl ?_
                      refine g_iald C 1 0 rfl rfl (by omega) (by omega) (by omega) std_M_dominates_117 ?_
                      refine g_aload_n C 4 std_M_dominates_118 rfl ?_
                      refine g_get C (st_sub sti_M) 0 rfl rfl 14 (by decide) (List.mem_cons_of_mem _ kw_3_80) rfl rfl std_M_dominates_119 ?_
                      refine g_iload_n C 2 std_M_dominates_122 rfl ?_
                      refine g_iald C 1 0 rfl rfl (by omega) (by omega) (by omega) std_M_dominates_123 ?_
                      refine g_icmp_gt (tgt := 131) C std_M_dominates_124 (by decide) ⟨by omega, by omega⟩ ⟨by omega, by omega⟩ (fun c152 => ?_) (fun c152 => ?_)
                      · refine g_iconst C std_M_dominates_131 ?_
                        refine g_wide (k := 0) (n := 0) (Nat.le_of_ble_eq_true rfl) (Nat.le_of_ble_eq_true rfl) ?_
                        exact hret _ _ _ () (by rw [bI_f (by unfold DMp; omega)]) (by decide) std_M_dominates_132
                      · refine g_iconst C std_M_dominates_127 ?_
                        refine g_goto (tgt := 132) C std_M_dominates_128 (by decide) ?_
                        refine g_wide (k := 0) (n := 0) (Nat.le_of_ble_eq_true rfl) (Nat.le_of_ble_eq_true rfl) ?_
                        exact hret _ _ _ () (by rw [bI_t (by unfold DMp; omega)]) (by decide) std_M_dominates_132
            refine g_wide (k := 0) (n := 0) (Nat.le_of_ble_eq_true rfl) (Nat.le_of_ble_eq_true rfl) ?_
            exact L87 0 (by omega)
          · refine g_iconst C std_M_dominates_80 ?_
            refine g_goto (tgt := 85) C std_M_dominates_81 (by decide) ?_
            refine g_istore C (lv' := [(4, .int (iI 1)), (3, .int (iI z3)), (2, .int (iI b)), (1, .int (iI a)), (0, .ref m0)]) std_M_dominates_85 (by decide) rfl ?_
            have L87 : ∀ (z4 : Int), ((z4 = 1 ∧ ((0 < fle 1 ∧ (((a % 11767) / 7) % 41) = (((b % 11767) / 7) % 41)) ∨ (fle 1 ≤ 0 ∧ (((a % 11767) / 7) % 41) ≤ (((b % 11767) / 7) % 41)))) ∨ (z4 = 0 ∧ ¬ ((0 < fle 1 ∧ (((a % 11767) / 7) % 41) = (((b % 11767) / 7) % 41)) ∨ (fle 1 ≤ 0 ∧ (((a % 11767) / 7) % 41) ≤ (((b % 11767) / 7) % 41))))) → G p l e ({ frames := 1, cells := 0, slots := 0, locals := 20 } : Room) s m ([.ref m0, .int (iI a), .int (iI b)] : List Value).toArray below meth c (dC, dI) stCl 5 A 0 0 Q [(m0, .inr (5, [.int (iI 0), .int (iI steps), .ref k_ch, .ref k_co, .ref k_ua, .ref k_ub, .ref k_ba, .int (iI (fle 0)), .int (iI (fle 1)), .int (iI (fmo 0)), .int (iI (fmo 1)), .int (iI (bI HM)), .ref k_rt, .ref k_rf, .ref k_ct, .ref k_cf, .ref k_nd, .ref k_na, .ref k_no, .ref k_bt, .ref k_bc, .ref k_br, .int (iI bg), .int (iI pn), .ref k_pc, .ref k_pr, .ref k_la, .ref k_lb, .ref k_ha, .ref k_hb, .ref k_ls, .ref k_wc, .int (iI wd), .int (iI mg), .int (iI mw), .int (iI mc)])), (k_ct, .inl (cI, aI 152971 gct))] 87 [(4, .int (iI z4)), (3, .int (iI z3)), (2, .int (iI b)), (1, .int (iI a)), (0, .ref m0)] [] := by
              intro z4 kz4
              refine g_iload_n C 3 std_M_dominates_87 rfl ?_
              refine g_iload_n C 2 std_M_dominates_88 rfl ?_
              refine g_icmp_eq (tgt := 131) C std_M_dominates_89 (by decide) ⟨by omega, by omega⟩ ⟨by omega, by omega⟩ (fun c153 => ?_) (fun c153 => ?_)
              · refine g_iconst C std_M_dominates_131 ?_
                exact hret _ _ _ () (by rw [bI_f (by unfold DMp; omega)]) (by decide) std_M_dominates_132
              · refine g_iload_n C 1 std_M_dominates_92 rfl ?_
                refine g_if_eq (tgt := 131) C std_M_dominates_93 (by decide) ⟨by omega, by omega⟩ (fun c154 => ?_) (fun c154 => ?_)
                · refine g_iconst C std_M_dominates_131 ?_
                  exact hret _ _ _ () (by rw [bI_f (by unfold DMp; omega)]) (by decide) std_M_dominates_132
                · refine g_iload C 0 std_M_dominates_96 rfl ?_
                  refine g_if_eq (tgt := 131) C std_M_dominates_98 (by decide) ⟨by omega, by omega⟩ (fun c155 => ?_) (fun c155 => ?_)
                  · refine g_iconst C std_M_dominates_131 ?_
                    exact hret _ _ _ () (by rw [bI_f (by unfold DMp; omega)]) (by decide) std_M_dominates_132
                  · refine g_iload_n C 3 std_M_dominates_101 rfl ?_
                    refine g_S_i (wc := []) (wr := [(m0, .inr (5, [.int (iI 0), .int (iI steps), .ref k_ch, .ref k_co, .ref k_ua, .ref k_ub, .ref k_ba, .int (iI (fle 0)), .int (iI (fle 1)), .int (iI (fmo 0)), .int (iI (fmo 1)), .int (iI (bI HM)), .ref k_rt, .ref k_rf, .ref k_ct, .ref k_cf, .ref k_nd, .ref k_na, .ref k_no, .ref k_bt, .ref k_bc, .ref k_br, .int (iI bg), .int (iI pn), .ref k_pc, .ref k_pr, .ref k_la, .ref k_lb, .ref k_ha, .ref k_hb, .ref k_ls, .ref k_wc, .int (iI wd), .int (iI mg), .int (iI mw), .int (iI mc)])), (k_ct, .inl (cI, aI 152971 gct))]) (rest := []) C (c_m_lastOf l dC dI cI cJ cZ a (by omega)) (st_cS C kw_3_227 kw_3_225 kw_1_6 kw_3_226 sth_M_lastOf ⟨Nat.le_of_ble_eq_true rfl, Nat.le_of_ble_eq_true rfl⟩) rfl rfl (Nat.le_of_ble_eq_true rfl) std_M_dominates_102 ⟨Nat.le_of_ble_eq_true rfl, Nat.le_of_ble_eq_true rfl⟩ [] [0, 1] rfl rfl rfl rfl (by decide) (fun r156 u157 h158 => ?_)
                    subst h158
                    refine g_ws (ws' := [(m0, .inr (5, [.int (iI 0), .int (iI steps), .ref k_ch, .ref k_co, .ref k_ua, .ref k_ub, .ref k_ba, .int (iI (fle 0)), .int (iI (fle 1)), .int (iI (fmo 0)), .int (iI (fmo 1)), .int (iI (bI HM)), .ref k_rt, .ref k_rf, .ref k_ct, .ref k_cf, .ref k_nd, .ref k_na, .ref k_no, .ref k_bt, .ref k_bc, .ref k_br, .int (iI bg), .int (iI pn), .ref k_pc, .ref k_pr, .ref k_la, .ref k_lb, .ref k_ha, .ref k_hb, .ref k_ls, .ref k_wc, .int (iI wd), .int (iI mg), .int (iI mw), .int (iI mc)])), (k_ct, .inl (cI, aI 152971 gct))]) rfl ?_
                    refine g_iload_n C 2 std_M_dominates_105 rfl ?_
                    refine g_S_i (wc := []) (wr := [(m0, .inr (5, [.int (iI 0), .int (iI steps), .ref k_ch, .ref k_co, .ref k_ua, .ref k_ub, .ref k_ba, .int (iI (fle 0)), .int (iI (fle 1)), .int (iI (fmo 0)), .int (iI (fmo 1)), .int (iI (bI HM)), .ref k_rt, .ref k_rf, .ref k_ct, .ref k_cf, .ref k_nd, .ref k_na, .ref k_no, .ref k_bt, .ref k_bc, .ref k_br, .int (iI bg), .int (iI pn), .ref k_pc, .ref k_pr, .ref k_la, .ref k_lb, .ref k_ha, .ref k_hb, .ref k_ls, .ref k_wc, .int (iI wd), .int (iI mg), .int (iI mw), .int (iI mc)])), (k_ct, .inl (cI, aI 152971 gct))]) (rest := [.int (iI ((a % 7) - 1))]) C (c_m_lastOf l dC dI cI cJ cZ b (by omega)) (st_cS C kw_3_227 kw_3_225 kw_1_6 kw_3_226 sth_M_lastOf ⟨Nat.le_of_ble_eq_true rfl, Nat.le_of_ble_eq_true rfl⟩) rfl rfl (Nat.le_of_ble_eq_true rfl) std_M_dominates_106 ⟨Nat.le_of_ble_eq_true rfl, Nat.le_of_ble_eq_true rfl⟩ [] [0, 1] rfl rfl rfl rfl (by decide) (fun r159 u160 h161 => ?_)
                    subst h161
                    refine g_ws (ws' := [(m0, .inr (5, [.int (iI 0), .int (iI steps), .ref k_ch, .ref k_co, .ref k_ua, .ref k_ub, .ref k_ba, .int (iI (fle 0)), .int (iI (fle 1)), .int (iI (fmo 0)), .int (iI (fmo 1)), .int (iI (bI HM)), .ref k_rt, .ref k_rf, .ref k_ct, .ref k_cf, .ref k_nd, .ref k_na, .ref k_no, .ref k_bt, .ref k_bc, .ref k_br, .int (iI bg), .int (iI pn), .ref k_pc, .ref k_pr, .ref k_la, .ref k_lb, .ref k_ha, .ref k_hb, .ref k_ls, .ref k_wc, .int (iI wd), .int (iI mg), .int (iI mw), .int (iI mc)])), (k_ct, .inl (cI, aI 152971 gct))]) rfl ?_
                    refine g_icmp_ne (tgt := 131) C std_M_dominates_109 (by decide) ⟨by omega, by omega⟩ ⟨by omega, by omega⟩ (fun c162 => ?_) (fun c162 => ?_)
                    · refine g_iconst C std_M_dominates_131 ?_
                      refine g_wide (k := 0) (n := 0) (Nat.le_of_ble_eq_true rfl) (Nat.le_of_ble_eq_true rfl) ?_
                      exact hret _ _ _ () (by rw [bI_f (by unfold DMp; omega)]) (by decide) std_M_dominates_132
                    · refine g_aload_n C 4 std_M_dominates_112 rfl ?_
                      refine g_get C (st_sub sti_M) 0 rfl rfl 14 (by decide) (List.mem_cons_of_mem _ kw_3_80) rfl rfl std_M_dominates_113 ?_
                      refine g_iload_n C 3 std_M_dominates_116 rfl ?_
                      refine g_iald C 1 0 rfl rfl (by omega) (by omega) (by omega) std_M_dominates_117 ?_
                      refine g_aload_n C 4 std_M_dominates_118 rfl ?_
                      refine g_get C (st_sub sti_M) 0 rfl rfl 14 (by decide) (List.mem_cons_of_mem _ kw_3_80) rfl rfl std_M_dominates_119 ?_
                      refine g_iload_n C 2 std_M_dominates_122 rfl ?_
                      refine g_iald C 1 0 rfl rfl (by omega) (by omega) (by omega) std_M_dominates_123 ?_
                      refine g_icmp_gt (tgt := 131) C std_M_dominates_124 (by decide) ⟨by omega, by omega⟩ ⟨by omega, by omega⟩ (fun c163 => ?_) (fun c163 => ?_)
                      · refine g_iconst C std_M_dominates_131 ?_
                        refine g_wide (k := 0) (n := 0) (Nat.le_of_ble_eq_true rfl) (Nat.le_of_ble_eq_true rfl) ?_
                        exact hret _ _ _ () (by rw [bI_f (by unfold DMp; omega)]) (by decide) std_M_dominates_132
                      · refine g_iconst C std_M_dominates_127 ?_
                        refine g_goto (tgt := 132) C std_M_dominates_128 (by decide) ?_
                        refine g_wide (k := 0) (n := 0) (Nat.le_of_ble_eq_true rfl) (Nat.le_of_ble_eq_true rfl) ?_
                        exact hret _ _ _ () (by rw [bI_t (by unfold DMp; omega)]) (by decide) std_M_dominates_132
            refine g_wide (k := 0) (n := 0) (Nat.le_of_ble_eq_true rfl) (Nat.le_of_ble_eq_true rfl) ?_
            exact L87 1 (by omega)
        · refine g_iload_n C 2 std_M_dominates_50 rfl ?_
          refine g_S_i (wc := []) (wr := [(m0, .inr (5, [.int (iI 0), .int (iI steps), .ref k_ch, .ref k_co, .ref k_ua, .ref k_ub, .ref k_ba, .int (iI (fle 0)), .int (iI (fle 1)), .int (iI (fmo 0)), .int (iI (fmo 1)), .int (iI (bI HM)), .ref k_rt, .ref k_rf, .ref k_ct, .ref k_cf, .ref k_nd, .ref k_na, .ref k_no, .ref k_bt, .ref k_bc, .ref k_br, .int (iI bg), .int (iI pn), .ref k_pc, .ref k_pr, .ref k_la, .ref k_lb, .ref k_ha, .ref k_hb, .ref k_ls, .ref k_wc, .int (iI wd), .int (iI mg), .int (iI mw), .int (iI mc)])), (k_ct, .inl (cI, aI 152971 gct))]) (rest := []) C (c_m_bOf l dC dI cI cJ cZ a (by omega)) (st_cS C kw_3_233 kw_3_231 kw_1_6 kw_3_232 sth_M_bOf ⟨Nat.le_of_ble_eq_true rfl, Nat.le_of_ble_eq_true rfl⟩) rfl rfl (Nat.le_of_ble_eq_true rfl) std_M_dominates_51 ⟨Nat.le_of_ble_eq_true rfl, Nat.le_of_ble_eq_true rfl⟩ [] [0, 1] rfl rfl rfl rfl (by decide) (fun r164 u165 h166 => ?_)
          subst h166
          refine g_ws (ws' := [(m0, .inr (5, [.int (iI 0), .int (iI steps), .ref k_ch, .ref k_co, .ref k_ua, .ref k_ub, .ref k_ba, .int (iI (fle 0)), .int (iI (fle 1)), .int (iI (fmo 0)), .int (iI (fmo 1)), .int (iI (bI HM)), .ref k_rt, .ref k_rf, .ref k_ct, .ref k_cf, .ref k_nd, .ref k_na, .ref k_no, .ref k_bt, .ref k_bc, .ref k_br, .int (iI bg), .int (iI pn), .ref k_pc, .ref k_pr, .ref k_la, .ref k_lb, .ref k_ha, .ref k_hb, .ref k_ls, .ref k_wc, .int (iI wd), .int (iI mg), .int (iI mw), .int (iI mc)])), (k_ct, .inl (cI, aI 152971 gct))]) rfl ?_
          refine g_iload_n C 1 std_M_dominates_54 rfl ?_
          refine g_S_i (wc := []) (wr := [(m0, .inr (5, [.int (iI 0), .int (iI steps), .ref k_ch, .ref k_co, .ref k_ua, .ref k_ub, .ref k_ba, .int (iI (fle 0)), .int (iI (fle 1)), .int (iI (fmo 0)), .int (iI (fmo 1)), .int (iI (bI HM)), .ref k_rt, .ref k_rf, .ref k_ct, .ref k_cf, .ref k_nd, .ref k_na, .ref k_no, .ref k_bt, .ref k_bc, .ref k_br, .int (iI bg), .int (iI pn), .ref k_pc, .ref k_pr, .ref k_la, .ref k_lb, .ref k_ha, .ref k_hb, .ref k_ls, .ref k_wc, .int (iI wd), .int (iI mg), .int (iI mw), .int (iI mc)])), (k_ct, .inl (cI, aI 152971 gct))]) (rest := [.int (iI (((a % 11767) / 7) % 41))]) C (c_m_bOf l dC dI cI cJ cZ b (by omega)) (st_cS C kw_3_233 kw_3_231 kw_1_6 kw_3_232 sth_M_bOf ⟨Nat.le_of_ble_eq_true rfl, Nat.le_of_ble_eq_true rfl⟩) rfl rfl (Nat.le_of_ble_eq_true rfl) std_M_dominates_55 ⟨Nat.le_of_ble_eq_true rfl, Nat.le_of_ble_eq_true rfl⟩ [] [0, 1] rfl rfl rfl rfl (by decide) (fun r167 u168 h169 => ?_)
          subst h169
          refine g_ws (ws' := [(m0, .inr (5, [.int (iI 0), .int (iI steps), .ref k_ch, .ref k_co, .ref k_ua, .ref k_ub, .ref k_ba, .int (iI (fle 0)), .int (iI (fle 1)), .int (iI (fmo 0)), .int (iI (fmo 1)), .int (iI (bI HM)), .ref k_rt, .ref k_rf, .ref k_ct, .ref k_cf, .ref k_nd, .ref k_na, .ref k_no, .ref k_bt, .ref k_bc, .ref k_br, .int (iI bg), .int (iI pn), .ref k_pc, .ref k_pr, .ref k_la, .ref k_lb, .ref k_ha, .ref k_hb, .ref k_ls, .ref k_wc, .int (iI wd), .int (iI mg), .int (iI mw), .int (iI mc)])), (k_ct, .inl (cI, aI 152971 gct))]) rfl ?_
          refine g_icmp_ne (tgt := 65) C std_M_dominates_58 (by decide) ⟨by omega, by omega⟩ ⟨by omega, by omega⟩ (fun c170 => ?_) (fun c170 => ?_)
          · refine g_iconst C std_M_dominates_65 ?_
            refine g_goto (tgt := 85) C std_M_dominates_66 (by decide) ?_
            refine g_istore C (lv' := [(4, .int (iI 0)), (3, .int (iI z3)), (2, .int (iI b)), (1, .int (iI a)), (0, .ref m0)]) std_M_dominates_85 (by decide) rfl ?_
            have L87 : ∀ (z4 : Int), ((z4 = 1 ∧ ((0 < fle 1 ∧ (((a % 11767) / 7) % 41) = (((b % 11767) / 7) % 41)) ∨ (fle 1 ≤ 0 ∧ (((a % 11767) / 7) % 41) ≤ (((b % 11767) / 7) % 41)))) ∨ (z4 = 0 ∧ ¬ ((0 < fle 1 ∧ (((a % 11767) / 7) % 41) = (((b % 11767) / 7) % 41)) ∨ (fle 1 ≤ 0 ∧ (((a % 11767) / 7) % 41) ≤ (((b % 11767) / 7) % 41))))) → G p l e ({ frames := 1, cells := 0, slots := 0, locals := 20 } : Room) s m ([.ref m0, .int (iI a), .int (iI b)] : List Value).toArray below meth c (dC, dI) stCl 5 A 0 0 Q [(m0, .inr (5, [.int (iI 0), .int (iI steps), .ref k_ch, .ref k_co, .ref k_ua, .ref k_ub, .ref k_ba, .int (iI (fle 0)), .int (iI (fle 1)), .int (iI (fmo 0)), .int (iI (fmo 1)), .int (iI (bI HM)), .ref k_rt, .ref k_rf, .ref k_ct, .ref k_cf, .ref k_nd, .ref k_na, .ref k_no, .ref k_bt, .ref k_bc, .ref k_br, .int (iI bg), .int (iI pn), .ref k_pc, .ref k_pr, .ref k_la, .ref k_lb, .ref k_ha, .ref k_hb, .ref k_ls, .ref k_wc, .int (iI wd), .int (iI mg), .int (iI mw), .int (iI mc)])), (k_ct, .inl (cI, aI 152971 gct))] 87 [(4, .int (iI z4)), (3, .int (iI z3)), (2, .int (iI b)), (1, .int (iI a)), (0, .ref m0)] [] := by
              intro z4 kz4
              refine g_iload_n C 3 std_M_dominates_87 rfl ?_
              refine g_iload_n C 2 std_M_dominates_88 rfl ?_
              refine g_icmp_eq (tgt := 131) C std_M_dominates_89 (by decide) ⟨by omega, by omega⟩ ⟨by omega, by omega⟩ (fun c171 => ?_) (fun c171 => ?_)
              · refine g_iconst C std_M_dominates_131 ?_
                exact hret _ _ _ () (by rw [bI_f (by unfold DMp; omega)]) (by decide) std_M_dominates_132
              · refine g_iload_n C 1 std_M_dominates_92 rfl ?_
                refine g_if_eq (tgt := 131) C std_M_dominates_93 (by decide) ⟨by omega, by omega⟩ (fun c172 => ?_) (fun c172 => ?_)
                · refine g_iconst C std_M_dominates_131 ?_
                  exact hret _ _ _ () (by rw [bI_f (by unfold DMp; omega)]) (by decide) std_M_dominates_132
                · refine g_iload C 0 std_M_dominates_96 rfl ?_
                  refine g_if_eq (tgt := 131) C std_M_dominates_98 (by decide) ⟨by omega, by omega⟩ (fun c173 => ?_) (fun c173 => ?_)
                  · refine g_iconst C std_M_dominates_131 ?_
                    exact hret _ _ _ () (by rw [bI_f (by unfold DMp; omega)]) (by decide) std_M_dominates_132
                  · refine g_iload_n C 3 std_M_dominates_101 rfl ?_
                    refine g_S_i (wc := []) (wr := [(m0, .inr (5, [.int (iI 0), .int (iI steps), .ref k_ch, .ref k_co, .ref k_ua, .ref k_ub, .ref k_ba, .int (iI (fle 0)), .int (iI (fle 1)), .int (iI (fmo 0)), .int (iI (fmo 1)), .int (iI (bI HM)), .ref k_rt, .ref k_rf, .ref k_ct, .ref k_cf, .ref k_nd, .ref k_na, .ref k_no, .ref k_bt, .ref k_bc, .ref k_br, .int (iI bg), .int (iI pn), .ref k_pc, .ref k_pr, .ref k_la, .ref k_lb, .ref k_ha, .ref k_hb, .ref k_ls, .ref k_wc, .int (iI wd), .int (iI mg), .int (iI mw), .int (iI mc)])), (k_ct, .inl (cI, aI 152971 gct))]) (rest := []) C (c_m_lastOf l dC dI cI cJ cZ a (by omega)) (st_cS C kw_3_227 kw_3_225 kw_1_6 kw_3_226 sth_M_lastOf ⟨Nat.le_of_ble_eq_true rfl, Nat.le_of_ble_eq_true rfl⟩) rfl rfl (Nat.le_of_ble_eq_true rfl) std_M_dominates_102 ⟨Nat.le_of_ble_eq_true rfl, Nat.le_of_ble_eq_true rfl⟩ [] [0, 1] rfl rfl rfl rfl (by decide) (fun r174 u175 h176 => ?_)
                    subst h176
                    refine g_ws (ws' := [(m0, .inr (5, [.int (iI 0), .int (iI steps), .ref k_ch, .ref k_co, .ref k_ua, .ref k_ub, .ref k_ba, .int (iI (fle 0)), .int (iI (fle 1)), .int (iI (fmo 0)), .int (iI (fmo 1)), .int (iI (bI HM)), .ref k_rt, .ref k_rf, .ref k_ct, .ref k_cf, .ref k_nd, .ref k_na, .ref k_no, .ref k_bt, .ref k_bc, .ref k_br, .int (iI bg), .int (iI pn), .ref k_pc, .ref k_pr, .ref k_la, .ref k_lb, .ref k_ha, .ref k_hb, .ref k_ls, .ref k_wc, .int (iI wd), .int (iI mg), .int (iI mw), .int (iI mc)])), (k_ct, .inl (cI, aI 152971 gct))]) rfl ?_
                    refine g_iload_n C 2 std_M_dominates_105 rfl ?_
                    refine g_S_i (wc := []) (wr := [(m0, .inr (5, [.int (iI 0), .int (iI steps), .ref k_ch, .ref k_co, .ref k_ua, .ref k_ub, .ref k_ba, .int (iI (fle 0)), .int (iI (fle 1)), .int (iI (fmo 0)), .int (iI (fmo 1)), .int (iI (bI HM)), .ref k_rt, .ref k_rf, .ref k_ct, .ref k_cf, .ref k_nd, .ref k_na, .ref k_no, .ref k_bt, .ref k_bc, .ref k_br, .int (iI bg), .int (iI pn), .ref k_pc, .ref k_pr, .ref k_la, .ref k_lb, .ref k_ha, .ref k_hb, .ref k_ls, .ref k_wc, .int (iI wd), .int (iI mg), .int (iI mw), .int (iI mc)])), (k_ct, .inl (cI, aI 152971 gct))]) (rest := [.int (iI ((a % 7) - 1))]) C (c_m_lastOf l dC dI cI cJ cZ b (by omega)) (st_cS C kw_3_227 kw_3_225 kw_1_6 kw_3_226 sth_M_lastOf ⟨Nat.le_of_ble_eq_true rfl, Nat.le_of_ble_eq_true rfl⟩) rfl rfl (Nat.le_of_ble_eq_true rfl) std_M_dominates_106 ⟨Nat.le_of_ble_eq_true rfl, Nat.le_of_ble_eq_true rfl⟩ [] [0, 1] rfl rfl rfl rfl (by decide) (fun r177 u178 h179 => ?_)
                    subst h179
                    refine g_ws (ws' := [(m0, .inr (5, [.int (iI 0), .int (iI steps), .ref k_ch, .ref k_co, .ref k_ua, .ref k_ub, .ref k_ba, .int (iI (fle 0)), .int (iI (fle 1)), .int (iI (fmo 0)), .int (iI (fmo 1)), .int (iI (bI HM)), .ref k_rt, .ref k_rf, .ref k_ct, .ref k_cf, .ref k_nd, .ref k_na, .ref k_no, .ref k_bt, .ref k_bc, .ref k_br, .int (iI bg), .int (iI pn), .ref k_pc, .ref k_pr, .ref k_la, .ref k_lb, .ref k_ha, .ref k_hb, .ref k_ls, .ref k_wc, .int (iI wd), .int (iI mg), .int (iI mw), .int (iI mc)])), (k_ct, .inl (cI, aI 152971 gct))]) rfl ?_
                    refine g_icmp_ne (tgt := 131) C std_M_dominates_109 (by decide) ⟨by omega, by omega⟩ ⟨by omega, by omega⟩ (fun c180 => ?_) (fun c180 => ?_)
                    · refine g_iconst C std_M_dominates_131 ?_
                      refine g_wide (k := 0) (n := 0) (Nat.le_of_ble_eq_true rfl) (Nat.le_of_ble_eq_true rfl) ?_
                      exact hret _ _ _ () (by rw [bI_f (by unfold DMp; omega)]) (by decide) std_M_dominates_132
                    · refine g_aload_n C 4 std_M_dominates_112 rfl ?_
                      refine g_get C (st_sub sti_M) 0 rfl rfl 14 (by decide) (List.mem_cons_of_mem _ kw_3_80) rfl rfl std_M_dominates_113 ?_
                      refine g_iload_n C 3 std_M_dominates_116 rfl ?_
                      refine g_iald C 1 0 rfl rfl (by omega) (by omega) (by omega) std_M_dominates_117 ?_
                      refine g_aload_n C 4 std_M_dominates_118 rfl ?_
                      refine g_get C (st_sub sti_M) 0 rfl rfl 14 (by decide) (List.mem_cons_of_mem _ kw_3_80) rfl rfl std_M_dominates_119 ?_
                      refine g_iload_n C 2 std_M_dominates_122 rfl ?_
                      refine g_iald C 1 0 rfl rfl (by omega) (by omega) (by omega) std_M_dominates_123 ?_
                      refine g_icmp_gt (tgt := 131) C std_M_dominates_124 (by decide) ⟨by omega, by omega⟩ ⟨by omega, by omega⟩ (fun c181 => ?_) (fun c181 => ?_)
                      · refine g_iconst C std_M_dominates_131 ?_
                        refine g_wide (k := 0) (n := 0) (Nat.le_of_ble_eq_true rfl) (Nat.le_of_ble_eq_true rfl) ?_
                        exact hret _ _ _ () (by rw [bI_f (by unfold DMp; omega)]) (by decide) std_M_dominates_132
                      · refine g_iconst C std_M_dominates_127 ?_
                        refine g_goto (tgt := 132) C std_M_dominates_128 (by decide) ?_
                        refine g_wide (k := 0) (n := 0) (Nat.le_of_ble_eq_true rfl) (Nat.le_of_ble_eq_true rfl) ?_
                        exact hret _ _ _ () (by rw [bI_t (by unfold DMp; omega)]) (by decide) std_M_dominates_132
            refine g_wide (k := 0) (n := 0) (Nat.le_of_ble_eq_true rfl) (Nat.le_of_ble_eq_true rfl) ?_
            exact L87 0 (by omega)
          · refine g_iconst C std_M_dominates_61 ?_
            refine g_goto (tgt := 85) C std_M_dominates_62 (by decide) ?_
            refine g_istore C (lv' := [(4, .int (iI 1)), (3, .int (iI z3)), (2, .int (iI b)), (1, .int (iI a)), (0, .ref m0)]) std_M_dominates_85 (by decide) rfl ?_
            have L87 : ∀ (z4 : Int), ((z4 = 1 ∧ ((0 < fle 1 ∧ (((a % 11767) / 7) % 41) = (((b % 11767) / 7) % 41)) ∨ (fle 1 ≤ 0 ∧ (((a % 11767) / 7) % 41) ≤ (((b % 11767) / 7) % 41)))) ∨ (z4 = 0 ∧ ¬ ((0 < fle 1 ∧ (((a % 11767) / 7) % 41) = (((b % 11767) / 7) % 41)) ∨ (fle 1 ≤ 0 ∧ (((a % 11767) / 7) % 41) ≤ (((b % 11767) / 7) % 41))))) → G p l e ({ frames := 1, cells := 0, slots := 0, locals := 20 } : Room) s m ([.ref m0, .int (iI a), .int (iI b)] : List Value).toArray below meth c (dC, dI) stCl 5 A 0 0 Q [(m0, .inr (5, [.int (iI 0), .int (iI steps), .ref k_ch, .ref k_co, .ref k_ua, .ref k_ub, .ref k_ba, .int (iI (fle 0)), .int (iI (fle 1)), .int (iI (fmo 0)), .int (iI (fmo 1)), .int (iI (bI HM)), .ref k_rt, .ref k_rf, .ref k_ct, .ref k_cf, .ref k_nd, .ref k_na, .ref k_no, .ref k_bt, .ref k_bc, .ref k_br, .int (iI bg), .int (iI pn), .ref k_pc, .ref k_pr, .ref k_la, .ref k_lb, .ref k_ha, .ref k_hb, .ref k_ls, .ref k_wc, .int (iI wd), .int (iI mg), .int (iI mw), .int (iI mc)])), (k_ct, .inl (cI, aI 152971 gct))] 87 [(4, .int (iI z4)), (3, .int (iI z3)), (2, .int (iI b)), (1, .int (iI a)), (0, .ref m0)] [] := by
              intro z4 kz4
              refine g_iload_n C 3 std_M_dominates_87 rfl ?_
              refine g_iload_n C 2 std_M_dominates_88 rfl ?_
              refine g_icmp_eq (tgt := 131) C std_M_dominates_89 (by decide) ⟨by omega, by omega⟩ ⟨by omega, by omega⟩ (fun c182 => ?_) (fun c182 => ?_)
              · refine g_iconst C std_M_dominates_131 ?_
                exact hret _ _ _ () (by rw [bI_f (by unfold DMp; omega)]) (by decide) std_M_dominates_132
              · refine g_iload_n C 1 std_M_dominates_92 rfl ?_
                refine g_if_eq (tgt := 131) C std_M_dominates_93 (by decide) ⟨by omega, by omega⟩ (fun c183 => ?_) (fun c183 => ?_)
                · refine g_iconst C std_M_dominates_131 ?_
                  exact hret _ _ _ () (by rw [bI_f (by unfold DMp; omega)]) (by decide) std_M_dominates_132
                · refine g_iload C 0 std_M_dominates_96 rfl ?_
                  refine g_if_eq (tgt := 131) C std_M_dominates_98 (by decide) ⟨by omega, by omega⟩ (fun c184 => ?_) (fun c184 => ?_)
                  · refine g_iconst C std_M_dominates_131 ?_
                    exact hret _ _ _ () (by rw [bI_f (by unfold DMp; omega)]) (by decide) std_M_dominates_132
                  · refine g_iload_n C 3 std_M_dominates_101 rfl ?_
                    refine g_S_i (wc := []) (wr := [(m0, .inr (5, [.int (iI 0), .int (iI steps), .ref k_ch, .ref k_co, .ref k_ua, .ref k_ub, .ref k_ba, .int (iI (fle 0)), .int (iI (fle 1)), .int (iI (fmo 0)), .int (iI (fmo 1)), .int (iI (bI HM)), .ref k_rt, .ref k_rf, .ref k_ct, .ref k_cf, .ref k_nd, .ref k_na, .ref k_no, .ref k_bt, .ref k_bc, .ref k_br, .int (iI bg), .int (iI pn), .ref k_pc, .ref k_pr, .ref k_la, .ref k_lb, .ref k_ha, .ref k_hb, .ref k_ls, .ref k_wc, .int (iI wd), .int (iI mg), .int (iI mw), .int (iI mc)])), (k_ct, .inl (cI, aI 152971 gct))]) (rest := []) C (c_m_lastOf l dC dI cI cJ cZ a (by omega)) (st_cS C kw_3_227 kw_3_225 kw_1_6 kw_3_226 sth_M_lastOf ⟨Nat.le_of_ble_eq_true rfl, Nat.le_of_ble_eq_true rfl⟩) rfl rfl (Nat.le_of_ble_eq_true rfl) std_M_dominates_102 ⟨Nat.le_of_ble_eq_true rfl, Nat.le_of_ble_eq_true rfl⟩ [] [0, 1] rfl rfl rfl rfl (by decide) (fun r185 u186 h187 => ?_)
                    subst h187
                    refine g_ws (ws' := [(m0, .inr (5, [.int (iI 0), .int (iI steps), .ref k_ch, .ref k_co, .ref k_ua, .ref k_ub, .ref k_ba, .int (iI (fle 0)), .int (iI (fle 1)), .int (iI (fmo 0)), .int (iI (fmo 1)), .int (iI (bI HM)), .ref k_rt, .ref k_rf, .ref k_ct, .ref k_cf, .ref k_nd, .ref k_na, .ref k_no, .ref k_bt, .ref k_bc, .ref k_br, .int (iI bg), .int (iI pn), .ref k_pc, .ref k_pr, .ref k_la, .ref k_lb, .ref k_ha, .ref k_hb, .ref k_ls, .ref k_wc, .int (iI wd), .int (iI mg), .int (iI mw), .int (iI mc)])), (k_ct, .inl (cI, aI 152971 gct))]) rfl ?_
                    refine g_iload_n C 2 std_M_dominates_105 rfl ?_
                    refine g_S_i (wc := []) (wr := [(m0, .inr (5, [.int (iI 0), .int (iI steps), .ref k_ch, .ref k_co, .ref k_ua, .ref k_ub, .ref k_ba, .int (iI (fle 0)), .int (iI (fle 1)), .int (iI (fmo 0)), .int (iI (fmo 1)), .int (iI (bI HM)), .ref k_rt, .ref k_rf, .ref k_ct, .ref k_cf, .ref k_nd, .ref k_na, .ref k_no, .ref k_bt, .ref k_bc, .ref k_br, .int (iI bg), .int (iI pn), .ref k_pc, .ref k_pr, .ref k_la, .ref k_lb, .ref k_ha, .ref k_hb, .ref k_ls, .ref k_wc, .int (iI wd), .int (iI mg), .int (iI mw), .int (iI mc)])), (k_ct, .inl (cI, aI 152971 gct))]) (rest := [.int (iI ((a % 7) - 1))]) C (c_m_lastOf l dC dI cI cJ cZ b (by omega)) (st_cS C kw_3_227 kw_3_225 kw_1_6 kw_3_226 sth_M_lastOf ⟨Nat.le_of_ble_eq_true rfl, Nat.le_of_ble_eq_true rfl⟩) rfl rfl (Nat.le_of_ble_eq_true rfl) std_M_dominates_106 ⟨Nat.le_of_ble_eq_true rfl, Nat.le_of_ble_eq_true rfl⟩ [] [0, 1] rfl rfl rfl rfl (by decide) (fun r188 u189 h190 => ?_)
                    subst h190
                    refine g_ws (ws' := [(m0, .inr (5, [.int (iI 0), .int (iI steps), .ref k_ch, .ref k_co, .ref k_ua, .ref k_ub, .ref k_ba, .int (iI (fle 0)), .int (iI (fle 1)), .int (iI (fmo 0)), .int (iI (fmo 1)), .int (iI (bI HM)), .ref k_rt, .ref k_rf, .ref k_ct, .ref k_cf, .ref k_nd, .ref k_na, .ref k_no, .ref k_bt, .ref k_bc, .ref k_br, .int (iI bg), .int (iI pn), .ref k_pc, .ref k_pr, .ref k_la, .ref k_lb, .ref k_ha, .ref k_hb, .ref k_ls, .ref k_wc, .int (iI wd), .int (iI mg), .int (iI mw), .int (iI mc)])), (k_ct, .inl (cI, aI 152971 gct))]) rfl ?_
                    refine g_icmp_ne (tgt := 131) C std_M_dominates_109 (by decide) ⟨by omega, by omega⟩ ⟨by omega, by omega⟩ (fun c191 => ?_) (fun c191 => ?_)
                    · refine g_iconst C std_M_dominates_131 ?_
                      refine g_wide (k := 0) (n := 0) (Nat.le_of_ble_eq_true rfl) (Nat.le_of_ble_eq_true rfl) ?_
                      exact hret _ _ _ () (by rw [bI_f (by unfold DMp; omega)]) (by decide) std_M_dominates_132
                    · refine g_aload_n C 4 std_M_dominates_112 rfl ?_
                      refine g_get C (st_sub sti_M) 0 rfl rfl 14 (by decide) (List.mem_cons_of_mem _ kw_3_80) rfl rfl std_M_dominates_113 ?_
                      refine g_iload_n C 3 std_M_dominates_116 rfl ?_
                      refine g_iald C 1 0 rfl rfl (by omega) (by omega) (by omega) std_M_dominates_117 ?_
                      refine g_aload_n C 4 std_M_dominates_118 rfl ?_
                      refine g_get C (st_sub sti_M) 0 rfl rfl 14 (by decide) (List.mem_cons_of_mem _ kw_3_80) rfl rfl std_M_dominates_119 ?_
                      refine g_iload_n C 2 std_M_dominates_122 rfl ?_
                      refine g_iald C 1 0 rfl rfl (by omega) (by omega) (by omega) std_M_dominates_123 ?_
                      refine g_icmp_gt (tgt := 131) C std_M_dominates_124 (by decide) ⟨by omega, by omega⟩ ⟨by omega, by omega⟩ (fun c192 => ?_) (fun c192 => ?_)
                      · refine g_iconst C std_M_dominates_131 ?_
                        refine g_wide (k := 0) (n := 0) (Nat.le_of_ble_eq_true rfl) (Nat.le_of_ble_eq_true rfl) ?_
                        exact hret _ _ _ () (by rw [bI_f (by unfold DMp; omega)]) (by decide) std_M_dominates_132
                      · refine g_iconst C std_M_dominates_127 ?_
                        refine g_goto (tgt := 132) C std_M_dominates_128 (by decide) ?_
                        refine g_wide (k := 0) (n := 0) (Nat.le_of_ble_eq_true rfl) (Nat.le_of_ble_eq_true rfl) ?_
                        exact hret _ _ _ () (by rw [bI_t (by unfold DMp; omega)]) (by decide) std_M_dominates_132
            refine g_wide (k := 0) (n := 0) (Nat.le_of_ble_eq_true rfl) (Nat.le_of_ble_eq_true rfl) ?_
            exact L87 1 (by omega)
      refine g_lv (lv' := [(3, .int (iI 0)), (2, .int (iI b)), (1, .int (iI a)), (0, .ref m0)]) [0, 3, 2, 1] rfl ?_
      refine g_wide (k := 0) (n := 0) (Nat.le_of_ble_eq_true rfl) (Nat.le_of_ble_eq_true rfl) ?_
      exact L43 0 (by omega)
    · refine g_iconst C std_M_dominates_18 ?_
      refine g_goto (tgt := 42) C std_M_dominates_19 (by decide) ?_
      refine g_istore_n C (lv' := [(3, .int (iI 1)), (0, .ref m0), (1, .int (iI a)), (2, .int (iI b))]) std_M_dominates_42 (by decide) rfl ?_
      have L43 : ∀ (z3 : Int), ((z3 = 1 ∧ ((0 < fle 0 ∧ (((a % 11767) / 7) / 41) = (((b % 11767) / 7) / 41)) ∨ (fle 0 ≤ 0 ∧ (((a % 11767) / 7) / 41) ≤ (((b % 11767) / 7) / 41)))) ∨ (z3 = 0 ∧ ¬ ((0 < fle 0 ∧ (((a % 11767) / 7) / 41) = (((b % 11767) / 7) / 41)) ∨ (fle 0 ≤ 0 ∧ (((a % 11767) / 7) / 41) ≤ (((b % 11767) / 7) / 41))))) → G p l e ({ frames := 1, cells := 0, slots := 0, locals := 20 } : Room) s m ([.ref m0, .int (iI a), .int (iI b)] : List Value).toArray below meth c (dC, dI) stCl 5 A 0 0 Q [(m0, .inr (5, [.int (iI 0), .int (iI steps), .ref k_ch, .ref k_co, .ref k_ua, .ref k_ub, .ref k_ba, .int (iI (fle 0)), .int (iI (fle 1)), .int (iI (fmo 0)), .int (iI (fmo 1)), .int (iI (bI HM)), .ref k_rt, .ref k_rf, .ref k_ct, .ref k_cf, .ref k_nd, .ref k_na, .ref k_no, .ref k_bt, .ref k_bc, .ref k_br, .int (iI bg), .int (iI pn), .ref k_pc, .ref k_pr, .ref k_la, .ref k_lb, .ref k_ha, .ref k_hb, .ref k_ls, .ref k_wc, .int (iI wd), .int (iI mg), .int (iI mw), .int (iI mc)])), (k_ct, .inl (cI, aI 152971 gct))] 43 [(3, .int (iI z3)), (2, .int (iI b)), (1, .int (iI a)), (0, .ref m0)] [] := by
        intro z3 kz3
        refine g_aload_n C 3 std_M_dominates_43 rfl ?_
        refine g_get C (st_sub sti_M) 0 rfl rfl 8 (by decide) (List.mem_cons_of_mem _ kw_3_74) rfl rfl std_M_dominates_44 ?_
        refine g_if_le (tgt := 69) C std_M_dominates_47 (by decide) ⟨by omega, by omega⟩ (fun c193 => ?_) (fun c193 => ?_)
        · refine g_iload_n C 2 std_M_dominates_69 rfl ?_
          refine g_S_i (wc := []) (wr := [(m0, .inr (5, [.int (iI 0), .int (iI steps), .ref k_ch, .ref k_co, .ref k_ua, .ref k_ub, .ref k_ba, .int (iI (fle 0)), .int (iI (fle 1)), .int (iI (fmo 0)), .int (iI (fmo 1)), .int (iI (bI HM)), .ref k_rt, .ref k_rf, .ref k_ct, .ref k_cf, .ref k_nd, .ref k_na, .ref k_no, .ref k_bt, .ref k_bc, .ref k_br, .int (iI bg), .int (iI pn), .ref k_pc, .ref k_pr, .ref k_la, .ref k_lb, .ref k_ha, .ref k_hb, .ref k_ls, .ref k_wc, .int (iI wd), .int (iI mg), .int (iI mw), .int (iI mc)])), (k_ct, .inl (cI, aI 152971 gct))]) (rest := []) C (c_m_bOf l dC dI cI cJ cZ a (by omega)) (st_cS C kw_3_233 kw_3_231 kw_1_6 kw_3_232 sth_M_bOf ⟨Nat.le_of_ble_eq_true rfl, Nat.le_of_ble_eq_true rfl⟩) rfl rfl (Nat.le_of_ble_eq_true rfl) std_M_dominates_70 ⟨Nat.le_of_ble_eq_true rfl, Nat.le_of_ble_eq_true rfl⟩ [] [0, 1] rfl rfl rfl rfl (by decide) (fun r194 u195 h196 => ?_)
          subst h196
          refine g_ws (ws' := [(m0, .inr (5, [.int (iI 0), .int (iI steps), .ref k_ch, .ref k_co, .ref k_ua, .ref k_ub, .ref k_ba, .int (iI (fle 0)), .int (iI (fle 1)), .int (iI (fmo 0)), .int (iI (fmo 1)), .int (iI (bI HM)), .ref k_rt, .ref k_rf, .ref k_ct, .ref k_cf, .ref k_nd, .ref k_na, .ref k_no, .ref k_bt, .ref k_bc, .ref k_br, .int (iI bg), .int (iI pn), .ref k_pc, .ref k_pr, .ref k_la, .ref k_lb, .ref k_ha, .ref k_hb, .ref k_ls, .ref k_wc, .int (iI wd), .int (iI mg), .int (iI mw), .int (iI mc)])), (k_ct, .inl (cI, aI 152971 gct))]) rfl ?_
          refine g_iload_n C 1 std_M_dominates_73 rfl ?_
          refine g_S_i (wc := []) (wr := [(m0, .inr (5, [.int (iI 0), .int (iI steps), .ref k_ch, .ref k_co, .ref k_ua, .ref k_ub, .ref k_ba, .int (iI (fle 0)), .int (iI (fle 1)), .int (iI (fmo 0)), .int (iI (fmo 1)), .int (iI (bI HM)), .ref k_rt, .ref k_rf, .ref k_ct, .ref k_cf, .ref k_nd, .ref k_na, .ref k_no, .ref k_bt, .ref k_bc, .ref k_br, .int (iI bg), .int (iI pn), .ref k_pc, .ref k_pr, .ref k_la, .ref k_lb, .ref k_ha, .ref k_hb, .ref k_ls, .ref k_wc, .int (iI wd), .int (iI mg), .int (iI mw), .int (iI mc)])), (k_ct, .inl (cI, aI 152971 gct))]) (rest := [.int (iI (((a % 11767) / 7) % 41))]) C (c_m_bOf l dC dI cI cJ cZ b (by omega)) (st_cS C kw_3_233 kw_3_231 kw_1_6 kw_3_232 sth_M_bOf ⟨Nat.le_of_ble_eq_true rfl, Nat.le_of_ble_eq_true rfl⟩) rfl rfl (Nat.le_of_ble_eq_true rfl) std_M_dominates_74 ⟨Nat.le_of_ble_eq_true rfl, Nat.le_of_ble_eq_true rfl⟩ [] [0, 1] rfl rfl rfl rfl (by decide) (fun r197 u198 h199 => ?_)
          subst h199
          refine g_ws (ws' := [(m0, .inr (5, [.int (iI 0), .int (iI steps), .ref k_ch, .ref k_co, .ref k_ua, .ref k_ub, .ref k_ba, .int (iI (fle 0)), .int (iI (fle 1)), .int (iI (fmo 0)), .int (iI (fmo 1)), .int (iI (bI HM)), .ref k_rt, .ref k_rf, .ref k_ct, .ref k_cf, .ref k_nd, .ref k_na, .ref k_no, .ref k_bt, .ref k_bc, .ref k_br, .int (iI bg), .int (iI pn), .ref k_pc, .ref k_pr, .ref k_la, .ref k_lb, .ref k_ha, .ref k_hb, .ref k_ls, .ref k_wc, .int (iI wd), .int (iI mg), .int (iI mw), .int (iI mc)])), (k_ct, .inl (cI, aI 152971 gct))]) rfl ?_
          refine g_icmp_gt (tgt := 84) C std_M_dominates_77 (by decide) ⟨by omega, by omega⟩ ⟨by omega, by omega⟩ (fun c200 => ?_) (fun c200 => ?_)
          · refine g_iconst C std_M_dominates_84 ?_
            refine g_istore C (lv' := [(4, .int (iI 0)), (3, .int (iI z3)), (2, .int (iI b)), (1, .int (iI a)), (0, .ref m0)]) std_M_dominates_85 (by decide) rfl ?_
            have L87 : ∀ (z4 : Int), ((z4 = 1 ∧ ((0 < fle 1 ∧ (((a % 11767) / 7) % 41) = (((b % 11767) / 7) % 41)) ∨ (fle 1 ≤ 0 ∧ (((a % 11767) / 7) % 41) ≤ (((b % 11767) / 7) % 41)))) ∨ (z4 = 0 ∧ ¬ ((0 < fle 1 ∧ (((a % 11767) / 7) % 41) = (((b % 11767) / 7) % 41)) ∨ (fle 1 ≤ 0 ∧ (((a % 11767) / 7) % 41) ≤ (((b % 11767) / 7) % 41))))) → G p l e ({ frames := 1, cells := 0, slots := 0, locals := 20 } : Room) s m ([.ref m0, .int (iI a), .int (iI b)] : List Value).toArray below meth c (dC, dI) stCl 5 A 0 0 Q [(m0, .inr (5, [.int (iI 0), .int (iI steps), .ref k_ch, .ref k_co, .ref k_ua, .ref k_ub, .ref k_ba, .int (iI (fle 0)), .int (iI (fle 1)), .int (iI (fmo 0)), .int (iI (fmo 1)), .int (iI (bI HM)), .ref k_rt, .ref k_rf, .ref k_ct, .ref k_cf, .ref k_nd, .ref k_na, .ref k_no, .ref k_bt, .ref k_bc, .ref k_br, .int (iI bg), .int (iI pn), .ref k_pc, .ref k_pr, .ref k_la, .ref k_lb, .ref k_ha, .ref k_hb, .ref k_ls, .ref k_wc, .int (iI wd), .int (iI mg), .int (iI mw), .int (iI mc)])), (k_ct, .inl (cI, aI 152971 gct))] 87 [(4, .int (iI z4)), (3, .int (iI z3)), (2, .int (iI b)), (1, .int (iI a)), (0, .ref m0)] [] := by
              intro z4 kz4
              refine g_iload_n C 3 std_M_dominates_87 rfl ?_
              refine g_iload_n C 2 std_M_dominates_88 rfl ?_
              refine g_icmp_eq (tgt := 131) C std_M_dominates_89 (by decide) ⟨by omega, by omega⟩ ⟨by omega, by omega⟩ (fun c201 => ?_) (fun c201 => ?_)
              · refine g_iconst C std_M_dominates_131 ?_
                exact hret _ _ _ () (by rw [bI_f (by unfold DMp; omega)]) (by decide) std_M_dominates_132
              · refine g_iload_n C 1 std_M_dominates_92 rfl ?_
                refine g_if_eq (tgt := 131) C std_M_dominates_93 (by decide) ⟨by omega, by omega⟩ (fun c202 => ?_) (fun c202 => ?_)
                · refine g_iconst C std_M_dominates_131 ?_
                  exact hret _ _ _ () (by rw [bI_f (by unfold DMp; omega)]) (by decide) std_M_dominates_132
                · refine g_iload C 0 std_M_dominates_96 rfl ?_
                  refine g_if_eq (tgt := 131) C std_M_dominates_98 (by decide) ⟨by omega, by omega⟩ (fun c203 => ?_) (fun c203 => ?_)
                  · refine g_iconst C std_M_dominates_131 ?_
                    exact hret _ _ _ () (by rw [bI_f (by unfold DMp; omega)]) (by decide) std_M_dominates_132
                  · refine g_iload_n C 3 std_M_dominates_101 rfl ?_
                    refine g_S_i (wc := []) (wr := [(m0, .inr (5, [.int (iI 0), .int (iI steps), .ref k_ch, .ref k_co, .ref k_ua, .ref k_ub, .ref k_ba, .int (iI (fle 0)), .int (iI (fle 1)), .int (iI (fmo 0)), .int (iI (fmo 1)), .int (iI (bI HM)), .ref k_rt, .ref k_rf, .ref k_ct, .ref k_cf, .ref k_nd, .ref k_na, .ref k_no, .ref k_bt, .ref k_bc, .ref k_br, .int (iI bg), .int (iI pn), .ref k_pc, .ref k_pr, .ref k_la, .ref k_lb, .ref k_ha, .ref k_hb, .ref k_ls, .ref k_wc, .int (iI wd), .int (iI mg), .int (iI mw), .int (iI mc)])), (k_ct, .inl (cI, aI 152971 gct))]) (rest := []) C (c_m_lastOf l dC dI cI cJ cZ a (by omega)) (st_cS C kw_3_227 kw_3_225 kw_1_6 kw_3_226 sth_M_lastOf ⟨Nat.le_of_ble_eq_true rfl, Nat.le_of_ble_eq_true rfl⟩) rfl rfl (Nat.le_of_ble_eq_true rfl) std_M_dominates_102 ⟨Nat.le_of_ble_eq_true rfl, Nat.le_of_ble_eq_true rfl⟩ [] [0, 1] rfl rfl rfl rfl (by decide) (fun r204 u205 h206 => ?_)
                    subst h206
                    refine g_ws (ws' := [(m0, .inr (5, [.int (iI 0), .int (iI steps), .ref k_ch, .ref k_co, .ref k_ua, .ref k_ub, .ref k_ba, .int (iI (fle 0)), .int (iI (fle 1)), .int (iI (fmo 0)), .int (iI (fmo 1)), .int (iI (bI HM)), .ref k_rt, .ref k_rf, .ref k_ct, .ref k_cf, .ref k_nd, .ref k_na, .ref k_no, .ref k_bt, .ref k_bc, .ref k_br, .int (iI bg), .int (iI pn), .ref k_pc, .ref k_pr, .ref k_la, .ref k_lb, .ref k_ha, .ref k_hb, .ref k_ls, .ref k_wc, .int (iI wd), .int (iI mg), .int (iI mw), .int (iI mc)])), (k_ct, .inl (cI, aI 152971 gct))]) rfl ?_
                    refine g_iload_n C 2 std_M_dominates_105 rfl ?_
                    refine g_S_i (wc := []) (wr := [(m0, .inr (5, [.int (iI 0), .int (iI steps), .ref k_ch, .ref k_co, .ref k_ua, .ref k_ub, .ref k_ba, .int (iI (fle 0)), .int (iI (fle 1)), .int (iI (fmo 0)), .int (iI (fmo 1)), .int (iI (bI HM)), .ref k_rt, .ref k_rf, .ref k_ct, .ref k_cf, .ref k_nd, .ref k_na, .ref k_no, .ref k_bt, .ref k_bc, .ref k_br, .int (iI bg), .int (iI pn), .ref k_pc, .ref k_pr, .ref k_la, .ref k_lb, .ref k_ha, .ref k_hb, .ref k_ls, .ref k_wc, .int (iI wd), .int (iI mg), .int (iI mw), .int (iI mc)])), (k_ct, .inl (cI, aI 152971 gct))]) (rest := [.int (iI ((a % 7) - 1))]) C (c_m_lastOf l dC dI cI cJ cZ b (by omega)) (st_cS C kw_3_227 kw_3_225 kw_1_6 kw_3_226 sth_M_lastOf ⟨Nat.le_of_ble_eq_true rfl, Nat.le_of_ble_eq_true rfl⟩) rfl rfl (Nat.le_of_ble_eq_true rfl) std_M_dominates_106 ⟨Nat.le_of_ble_eq_true rfl, Nat.le_of_ble_eq_true rfl⟩ [] [0, 1] rfl rfl rfl rfl (by decide) (fun r207 u208 h209 => ?_)
                    subst h209
                    refine g_ws (ws' := [(m0, .inr (5, [.int (iI 0), .int (iI steps), .ref k_ch, .ref k_co, .ref k_ua, .ref k_ub, .ref k_ba, .int (iI (fle 0)), .int (iI (fle 1)), .int (iI (fmo 0)), .int (iI (fmo 1)), .int (iI (bI HM)), .ref k_rt, .ref k_rf, .ref k_ct, .ref k_cf, .ref k_nd, .ref k_na, .ref k_no, .ref k_bt, .ref k_bc, .ref k_br, .int (iI bg), .int (iI pn), .ref k_pc, .ref k_pr, .ref k_la, .ref k_lb, .ref k_ha, .ref k_hb, .ref k_ls, .ref k_wc, .int (iI wd), .int (iI mg), .int (iI mw), .int (iI mc)])), (k_ct, .inl (cI, aI 152971 gct))]) rfl ?_
                    refine g_icmp_ne (tgt := 131) C std_M_dominates_109 (by decide) ⟨by omega, by omega⟩ ⟨by omega, by omega⟩ (fun c210 => ?_) (fun c210 => ?_)
                    · refine g_iconst C std_M_dominates_131 ?_
                      refine g_wide (k := 0) (n := 0) (Nat.le_of_ble_eq_true rfl) (Nat.le_of_ble_eq_true rfl) ?_
                      exact hret _ _ _ () (by rw [bI_f (by unfold DMp; omega)]) (by decide) std_M_dominates_132
                    · refine g_aload_n C 4 std_M_dominates_112 rfl ?_
                      refine g_get C (st_sub sti_M) 0 rfl rfl 14 (by decide) (List.mem_cons_of_mem _ kw_3_80) rfl rfl std_M_dominates_113 ?_
                      refine g_iload_n C 3 std_M_dominates_116 rfl ?_
                      refine g_iald C 1 0 rfl rfl (by omega) (by omega) (by omega) std_M_dominates_117 ?_
                      refine g_aload_n C 4 std_M_dominates_118 rfl ?_
                      refine g_get C (st_sub sti_M) 0 rfl rfl 14 (by decide) (List.mem_cons_of_mem _ kw_3_80) rfl rfl std_M_dominates_119 ?_
                      refine g_iload_n C 2 std_M_dominates_122 rfl ?_
                      refine g_iald C 1 0 rfl rfl (by omega) (by omega) (by omega) std_M_dominates_123 ?_
                      refine g_icmp_gt (tgt := 131) C std_M_dominates_124 (by decide) ⟨by omega, by omega⟩ ⟨by omega, by omega⟩ (fun c211 => ?_) (fun c211 => ?_)
                      · refine g_iconst C std_M_dominates_131 ?_
                        refine g_wide (k := 0) (n := 0) (Nat.le_of_ble_eq_true rfl) (Nat.le_of_ble_eq_true rfl) ?_
                        exact hret _ _ _ () (by rw [bI_f (by unfold DMp; omega)]) (by decide) std_M_dominates_132
                      · refine g_iconst C std_M_dominates_127 ?_
                        refine g_goto (tgt := 132) C std_M_dominates_128 (by decide) ?_
                        refine g_wide (k := 0) (n := 0) (Nat.le_of_ble_eq_true rfl) (Nat.le_of_ble_eq_true rfl) ?_
                        exact hret _ _ _ () (by rw [bI_t (by unfold DMp; omega)]) (by decide) std_M_dominates_132
            refine g_wide (k := 0) (n := 0) (Nat.le_of_ble_eq_true rfl) (Nat.le_of_ble_eq_true rfl) ?_
            exact L87 0 (by omega)
          · refine g_iconst C std_M_dominates_80 ?_
            refine g_goto (tgt := 85) C std_M_dominates_81 (by decide) ?_
            refine g_istore C (lv' := [(4, .int (iI 1)), (3, .int (iI z3)), (2, .int (iI b)), (1, .int (iI a)), (0, .ref m0)]) std_M_dominates_85 (by decide) rfl ?_
            have L87 : ∀ (z4 : Int), ((z4 = 1 ∧ ((0 < fle 1 ∧ (((a % 11767) / 7) % 41) = (((b % 11767) / 7) % 41)) ∨ (fle 1 ≤ 0 ∧ (((a % 11767) / 7) % 41) ≤ (((b % 11767) / 7) % 41)))) ∨ (z4 = 0 ∧ ¬ ((0 < fle 1 ∧ (((a % 11767) / 7) % 41) = (((b % 11767) / 7) % 41)) ∨ (fle 1 ≤ 0 ∧ (((a % 11767) / 7) % 41) ≤ (((b % 11767) / 7) % 41))))) → G p l e ({ frames := 1, cells := 0, slots := 0, locals := 20 } : Room) s m ([.ref m0, .int (iI a), .int (iI b)] : List Value).toArray below meth c (dC, dI) stCl 5 A 0 0 Q [(m0, .inr (5, [.int (iI 0), .int (iI steps), .ref k_ch, .ref k_co, .ref k_ua, .ref k_ub, .ref k_ba, .int (iI (fle 0)), .int (iI (fle 1)), .int (iI (fmo 0)), .int (iI (fmo 1)), .int (iI (bI HM)), .ref k_rt, .ref k_rf, .ref k_ct, .ref k_cf, .ref k_nd, .ref k_na, .ref k_no, .ref k_bt, .ref k_bc, .ref k_br, .int (iI bg), .int (iI pn), .ref k_pc, .ref k_pr, .ref k_la, .ref k_lb, .ref k_ha, .ref k_hb, .ref k_ls, .ref k_wc, .int (iI wd), .int (iI mg), .int (iI mw), .int (iI mc)])), (k_ct, .inl (cI, aI 152971 gct))] 87 [(4, .int (iI z4)), (3, .int (iI z3)), (2, .int (iI b)), (1, .int (iI a)), (0, .ref m0)] [] := by
              intro z4 kz4
              refine g_iload_n C 3 std_M_dominates_87 rfl ?_
              refine g_iload_n C 2 std_M_dominates_88 rfl ?_
              refine g_icmp_eq (tgt := 131) C std_M_dominates_89 (by decide) ⟨by omega, by omega⟩ ⟨by omega, by omega⟩ (fun c212 => ?_) (fun c212 => ?_)
              · refine g_iconst C std_M_dominates_131 ?_
                exact hret _ _ _ () (by rw [bI_f (by unfold DMp; omega)]) (by decide) std_M_dominates_132
              · refine g_iload_n C 1 std_M_dominates_92 rfl ?_
                refine g_if_eq (tgt := 131) C std_M_dominates_93 (by decide) ⟨by omega, by omega⟩ (fun c213 => ?_) (fun c213 => ?_)
                · refine g_iconst C std_M_dominates_131 ?_
                  exact hret _ _ _ () (by rw [bI_f (by unfold DMp; omega)]) (by decide) std_M_dominates_132
                · refine g_iload C 0 std_M_dominates_96 rfl ?_
                  refine g_if_eq (tgt := 131) C std_M_dominates_98 (by decide) ⟨by omega, by omega⟩ (fun c214 => ?_) (fun c214 => ?_)
                  · refine g_iconst C std_M_dominates_131 ?_
                    exact hret _ _ _ () (by rw [bI_f (by unfold DMp; omega)]) (by decide) std_M_dominates_132
                  · refine g_iload_n C 3 std_M_dominates_101 rfl ?_
                    refine g_S_i (wc := []) (wr := [(m0, .inr (5, [.int (iI 0), .int (iI steps), .ref k_ch, .ref k_co, .ref k_ua, .ref k_ub, .ref k_ba, .int (iI (fle 0)), .int (iI (fle 1)), .int (iI (fmo 0)), .int (iI (fmo 1)), .int (iI (bI HM)), .ref k_rt, .ref k_rf, .ref k_ct, .ref k_cf, .ref k_nd, .ref k_na, .ref k_no, .ref k_bt, .ref k_bc, .ref k_br, .int (iI bg), .int (iI pn), .ref k_pc, .ref k_pr, .ref k_la, .ref k_lb, .ref k_ha, .ref k_hb, .ref k_ls, .ref k_wc, .int (iI wd), .int (iI mg), .int (iI mw), .int (iI mc)])), (k_ct, .inl (cI, aI 152971 gct))]) (rest := []) C (c_m_lastOf l dC dI cI cJ cZ a (by omega)) (st_cS C kw_3_227 kw_3_225 kw_1_6 kw_3_226 sth_M_lastOf ⟨Nat.le_of_ble_eq_true rfl, Nat.le_of_ble_eq_true rfl⟩) rfl rfl (Nat.le_of_ble_eq_true rfl) std_M_dominates_102 ⟨Nat.le_of_ble_eq_true rfl, Nat.le_of_ble_eq_true rfl⟩ [] [0, 1] rfl rfl rfl rfl (by decide) (fun r215 u216 h217 => ?_)
                    subst h217
                    refine g_ws (ws' := [(m0, .inr (5, [.int (iI 0), .int (iI steps), .ref k_ch, .ref k_co, .ref k_ua, .ref k_ub, .ref k_ba, .int (iI (fle 0)), .int (iI (fle 1)), .int (iI (fmo 0)), .int (iI (fmo 1)), .int (iI (bI HM)), .ref k_rt, .ref k_rf, .ref k_ct, .ref k_cf, .ref k_nd, .ref k_na, .ref k_no, .ref k_bt, .ref k_bc, .ref k_br, .int (iI bg), .int (iI pn), .ref k_pc, .ref k_pr, .ref k_la, .ref k_lb, .ref k_ha, .ref k_hb, .ref k_ls, .ref k_wc, .int (iI wd), .int (iI mg), .int (iI mw), .int (iI mc)])), (k_ct, .inl (cI, aI 152971 gct))]) rfl ?_
                    refine g_iload_n C 2 std_M_dominates_105 rfl ?_
                    refine g_S_i (wc := []) (wr := [(m0, .inr (5, [.int (iI 0), .int (iI steps), .ref k_ch, .ref k_co, .ref k_ua, .ref k_ub, .ref k_ba, .int (iI (fle 0)), .int (iI (fle 1)), .int (iI (fmo 0)), .int (iI (fmo 1)), .int (iI (bI HM)), .ref k_rt, .ref k_rf, .ref k_ct, .ref k_cf, .ref k_nd, .ref k_na, .ref k_no, .ref k_bt, .ref k_bc, .ref k_br, .int (iI bg), .int (iI pn), .ref k_pc, .ref k_pr, .ref k_la, .ref k_lb, .ref k_ha, .ref k_hb, .ref k_ls, .ref k_wc, .int (iI wd), .int (iI mg), .int (iI mw), .int (iI mc)])), (k_ct, .inl (cI, aI 152971 gct))]) (rest := [.int (iI ((a % 7) - 1))]) C (c_m_lastOf l dC dI cI cJ cZ b (by omega)) (st_cS C kw_3_227 kw_3_225 kw_1_6 kw_3_226 sth_M_lastOf ⟨Nat.le_of_ble_eq_true rfl, Nat.le_of_ble_eq_true rfl⟩) rfl rfl (Nat.le_of_ble_eq_true rfl) std_M_dominates_106 ⟨Nat.le_of_ble_eq_true rfl, Nat.le_of_ble_eq_true rfl⟩ [] [0, 1] rfl rfl rfl rfl (by decide) (fun r218 u219 h220 => ?_)
                    subst h220
                    refine g_ws (ws' := [(m0, .inr (5, [.int (iI 0), .int (iI steps), .ref k_ch, .ref k_co, .ref k_ua, .ref k_ub, .ref k_ba, .int (iI (fle 0)), .int (iI (fle 1)), .int (iI (fmo 0)), .int (iI (fmo 1)), .int (iI (bI HM)), .ref k_rt, .ref k_rf, .ref k_ct, .ref k_cf, .ref k_nd, .ref k_na, .ref k_no, .ref k_bt, .ref k_bc, .ref k_br, .int (iI bg), .int (iI pn), .ref k_pc, .ref k_pr, .ref k_la, .ref k_lb, .ref k_ha, .ref k_hb, .ref k_ls, .ref k_wc, .int (iI wd), .int (iI mg), .int (iI mw), .int (iI mc)])), (k_ct, .inl (cI, aI 152971 gct))]) rfl ?_
                    refine g_icmp_ne (tgt := 131) C std_M_dominates_109 (by decide) ⟨by omega, by omega⟩ ⟨by omega, by omega⟩ (fun c221 => ?_) (fun c221 => ?_)
                    · refine g_iconst C std_M_dominates_131 ?_
                      refine g_wide (k := 0) (n := 0) (Nat.le_of_ble_eq_true rfl) (Nat.le_of_ble_eq_true rfl) ?_
                      exact hret _ _ _ () (by rw [bI_f (by unfold DMp; omega)]) (by decide) std_M_dominates_132
                    · refine g_aload_n C 4 std_M_dominates_112 rfl ?_
                      refine g_get C (st_sub sti_M) 0 rfl rfl 14 (by decide) (List.mem_cons_of_mem _ kw_3_80) rfl rfl std_M_dominates_113 ?_
                      refine g_iload_n C 3 std_M_dominates_116 rfl ?_
                      refine g_iald C 1 0 rfl rfl (by omega) (by omega) (by omega) std_M_dominates_117 ?_
                      refine g_aload_n C 4 std_M_dominates_118 rfl ?_
                      refine g_get C (st_sub sti_M) 0 rfl rfl 14 (by decide) (List.mem_cons_of_mem _ kw_3_80) rfl rfl std_M_dominates_119 ?_
                      refine g_iload_n C 2 std_M_dominates_122 rfl ?_
                      refine g_iald C 1 0 rfl rfl (by omega) (by omega) (by omega) std_M_dominates_123 ?_
                      refine g_icmp_gt (tgt := 131) C std_M_dominates_124 (by decide) ⟨by omega, by omega⟩ ⟨by omega, by omega⟩ (fun c222 => ?_) (fun c222 => ?_)
                      · refine g_iconst C std_M_dominates_131 ?_
                        refine g_wide (k := 0) (n := 0) (Nat.le_of_ble_eq_true rfl) (Nat.le_of_ble_eq_true rfl) ?_
                        exact hret _ _ _ () (by rw [bI_f (by unfold DMp; omega)]) (by decide) std_M_dominates_132
                      · refine g_iconst C std_M_dominates_127 ?_
                        refine g_goto (tgt := 132) C std_M_dominates_128 (by decide) ?_
                        refine g_wide (k := 0) (n := 0) (Nat.le_of_ble_eq_true rfl) (Nat.le_of_ble_eq_true rfl) ?_
                        exact hret _ _ _ () (by rw [bI_t (by unfold DMp; omega)]) (by decide) std_M_dominates_132
            refine g_wide (k := 0) (n := 0) (Nat.le_of_ble_eq_true rfl) (Nat.le_of_ble_eq_true rfl) ?_
            exact L87 1 (by omega)
        · refine g_iload_n C 2 std_M_dominates_50 rfl ?_
          refine g_S_i (wc := []) (wr := [(m0, .inr (5, [.int (iI 0), .int (iI steps), .ref k_ch, .ref k_co, .ref k_ua, .ref k_ub, .ref k_ba, .int (iI (fle 0)), .int (iI (fle 1)), .int (iI (fmo 0)), .int (iI (fmo 1)), .int (iI (bI HM)), .ref k_rt, .ref k_rf, .ref k_ct, .ref k_cf, .ref k_nd, .ref k_na, .ref k_no, .ref k_bt, .ref k_bc, .ref k_br, .int (iI bg), .int (iI pn), .ref k_pc, .ref k_pr, .ref k_la, .ref k_lb, .ref k_ha, .ref k_hb, .ref k_ls, .ref k_wc, .int (iI wd), .int (iI mg), .int (iI mw), .int (iI mc)])), (k_ct, .inl (cI, aI 152971 gct))]) (rest := []) C (c_m_bOf l dC dI cI cJ cZ a (by omega)) (st_cS C kw_3_233 kw_3_231 kw_1_6 kw_3_232 sth_M_bOf ⟨Nat.le_of_ble_eq_true rfl, Nat.le_of_ble_eq_true rfl⟩) rfl rfl (Nat.le_of_ble_eq_true rfl) std_M_dominates_51 ⟨Nat.le_of_ble_eq_true rfl, Nat.le_of_ble_eq_true rfl⟩ [] [0, 1] rfl rfl rfl rfl (by decide) (fun r223 u224 h225 => ?_)
          subst h225
          refine g_ws (ws' := [(m0, .inr (5, [.int (iI 0), .int (iI steps), .ref k_ch, .ref k_co, .ref k_ua, .ref k_ub, .ref k_ba, .int (iI (fle 0)), .int (iI (fle 1)), .int (iI (fmo 0)), .int (iI (fmo 1)), .int (iI (bI HM)), .ref k_rt, .ref k_rf, .ref k_ct, .ref k_cf, .ref k_nd, .ref k_na, .ref k_no, .ref k_bt, .ref k_bc, .ref k_br, .int (iI bg), .int (iI pn), .ref k_pc, .ref k_pr, .ref k_la, .ref k_lb, .ref k_ha, .ref k_hb, .ref k_ls, .ref k_wc, .int (iI wd), .int (iI mg), .int (iI mw), .int (iI mc)])), (k_ct, .inl (cI, aI 152971 gct))]) rfl ?_
          refine g_iload_n C 1 std_M_dominates_54 rfl ?_
          refine g_S_i (wc := []) (wr := [(m0, .inr (5, [.int (iI 0), .int (iI steps), .ref k_ch, .ref k_co, .ref k_ua, .ref k_ub, .ref k_ba, .int (iI (fle 0)), .int (iI (fle 1)), .int (iI (fmo 0)), .int (iI (fmo 1)), .int (iI (bI HM)), .ref k_rt, .ref k_rf, .ref k_ct, .ref k_cf, .ref k_nd, .ref k_na, .ref k_no, .ref k_bt, .ref k_bc, .ref k_br, .int (iI bg), .int (iI pn), .ref k_pc, .ref k_pr, .ref k_la, .ref k_lb, .ref k_ha, .ref k_hb, .ref k_ls, .ref k_wc, .int (iI wd), .int (iI mg), .int (iI mw), .int (iI mc)])), (k_ct, .inl (cI, aI 152971 gct))]) (rest := [.int (iI (((a % 11767) / 7) % 41))]) C (c_m_bOf l dC dI cI cJ cZ b (by omega)) (st_cS C kw_3_233 kw_3_231 kw_1_6 kw_3_232 sth_M_bOf ⟨Nat.le_of_ble_eq_true rfl, Nat.le_of_ble_eq_true rfl⟩) rfl rfl (Nat.le_of_ble_eq_true rfl) std_M_dominates_55 ⟨Nat.le_of_ble_eq_true rfl, Nat.le_of_ble_eq_true rfl⟩ [] [0, 1] rfl rfl rfl rfl (by decide) (fun r226 u227 h228 => ?_)
          subst h228
          refine g_ws (ws' := [(m0, .inr (5, [.int (iI 0), .int (iI steps), .ref k_ch, .ref k_co, .ref k_ua, .ref k_ub, .ref k_ba, .int (iI (fle 0)), .int (iI (fle 1)), .int (iI (fmo 0)), .int (iI (fmo 1)), .int (iI (bI HM)), .ref k_rt, .ref k_rf, .ref k_ct, .ref k_cf, .ref k_nd, .ref k_na, .ref k_no, .ref k_bt, .ref k_bc, .ref k_br, .int (iI bg), .int (iI pn), .ref k_pc, .ref k_pr, .ref k_la, .ref k_lb, .ref k_ha, .ref k_hb, .ref k_ls, .ref k_wc, .int (iI wd), .int (iI mg), .int (iI mw), .int (iI mc)])), (k_ct, .inl (cI, aI 152971 gct))]) rfl ?_
          refine g_icmp_ne (tgt := 65) C std_M_dominates_58 (by decide) ⟨by omega, by omega⟩ ⟨by omega, by omega⟩ (fun c229 => ?_) (fun c229 => ?_)
          · refine g_iconst C std_M_dominates_65 ?_
            refine g_goto (tgt := 85) C std_M_dominates_66 (by decide) ?_
            refine g_istore C (lv' := [(4, .int (iI 0)), (3, .int (iI z3)), (2, .int (iI b)), (1, .int (iI a)), (0, .ref m0)]) std_M_dominates_85 (by decide) rfl ?_
            have L87 : ∀ (z4 : Int), ((z4 = 1 ∧ ((0 < fle 1 ∧ (((a % 11767) / 7) % 41) = (((b % 11767) / 7) % 41)) ∨ (fle 1 ≤ 0 ∧ (((a % 11767) / 7) % 41) ≤ (((b % 11767) / 7) % 41)))) ∨ (z4 = 0 ∧ ¬ ((0 < fle 1 ∧ (((a % 11767) / 7) % 41) = (((b % 11767) / 7) % 41)) ∨ (fle 1 ≤ 0 ∧ (((a % 11767) / 7) % 41) ≤ (((b % 11767) / 7) % 41))))) → G p l e ({ frames := 1, cells := 0, slots := 0, locals := 20 } : Room) s m ([.ref m0, .int (iI a), .int (iI b)] : List Value).toArray below meth c (dC, dI) stCl 5 A 0 0 Q [(m0, .inr (5, [.int (iI 0), .int (iI steps), .ref k_ch, .ref k_co, .ref k_ua, .ref k_ub, .ref k_ba, .int (iI (fle 0)), .int (iI (fle 1)), .int (iI (fmo 0)), .int (iI (fmo 1)), .int (iI (bI HM)), .ref k_rt, .ref k_rf, .ref k_ct, .ref k_cf, .ref k_nd, .ref k_na, .ref k_no, .ref k_bt, .ref k_bc, .ref k_br, .int (iI bg), .int (iI pn), .ref k_pc, .ref k_pr, .ref k_la, .ref k_lb, .ref k_ha, .ref k_hb, .ref k_ls, .ref k_wc, .int (iI wd), .int (iI mg), .int (iI mw), .int (iI mc)])), (k_ct, .inl (cI, aI 152971 gct))] 87 [(4, .int (iI z4)), (3, .int (iI z3)), (2, .int (iI b)), (1, .int (iI a)), (0, .ref m0)] [] := by
              intro z4 kz4
              refine g_iload_n C 3 std_M_dominates_87 rfl ?_
              refine g_iload_n C 2 std_M_dominates_88 rfl ?_
              refine g_icmp_eq (tgt := 131) C std_M_dominates_89 (by decide) ⟨by omega, by omega⟩ ⟨by omega, by omega⟩ (fun c230 => ?_) (fun c230 => ?_)
              · refine g_iconst C std_M_dominates_131 ?_
                exact hret _ _ _ () (by rw [bI_f (by unfold DMp; omega)]) (by decide) std_M_dominates_132
              · refine g_iload_n C 1 std_M_dominates_92 rfl ?_
                refine g_if_eq (tgt := 131) C std_M_dominates_93 (by decide) ⟨by omega, by omega⟩ (fun c231 => ?_) (fun c231 => ?_)
                · refine g_iconst C std_M_dominates_131 ?_
                  exact hret _ _ _ () (by rw [bI_f (by unfold DMp; omega)]) (by decide) std_M_dominates_132
                · refine g_iload C 0 std_M_dominates_96 rfl ?_
                  refine g_if_eq (tgt := 131) C std_M_dominates_98 (by decide) ⟨by omega, by omega⟩ (fun c232 => ?_) (fun c232 => ?_)
                  · refine g_iconst C std_M_dominates_131 ?_
                    exact hret _ _ _ () (by rw [bI_f (by unfold DMp; omega)]) (by decide) std_M_dominates_132
                  · refine g_iload_n C 3 std_M_dominates_101 rfl ?_
                    refine g_S_i (wc := []) (wr := [(m0, .inr (5, [.int (iI 0), .int (iI steps), .ref k_ch, .ref k_co, .ref k_ua, .ref k_ub, .ref k_ba, .int (iI (fle 0)), .int (iI (fle 1)), .int (iI (fmo 0)), .int (iI (fmo 1)), .int (iI (bI HM)), .ref k_rt, .ref k_rf, .ref k_ct, .ref k_cf, .ref k_nd, .ref k_na, .ref k_no, .ref k_bt, .ref k_bc, .ref k_br, .int (iI bg), .int (iI pn), .ref k_pc, .ref k_pr, .ref k_la, .ref k_lb, .ref k_ha, .ref k_hb, .ref k_ls, .ref k_wc, .int (iI wd), .int (iI mg), .int (iI mw), .int (iI mc)])), (k_ct, .inl (cI, aI 152971 gct))]) (rest := []) C (c_m_lastOf l dC dI cI cJ cZ a (by omega)) (st_cS C kw_3_227 kw_3_225 kw_1_6 kw_3_226 sth_M_lastOf ⟨Nat.le_of_ble_eq_true rfl, Nat.le_of_ble_eq_true rfl⟩) rfl rfl (Nat.le_of_ble_eq_true rfl) std_M_dominates_102 ⟨Nat.le_of_ble_eq_true rfl, Nat.le_of_ble_eq_true rfl⟩ [] [0, 1] rfl rfl rfl rfl (by decide) (fun r233 u234 h235 => ?_)
                    subst h235
                    refine g_ws (ws' := [(m0, .inr (5, [.int (iI 0), .int (iI steps), .ref k_ch, .ref k_co, .ref k_ua, .ref k_ub, .ref k_ba, .int (iI (fle 0)), .int (iI (fle 1)), .int (iI (fmo 0)), .int (iI (fmo 1)), .int (iI (bI HM)), .ref k_rt, .ref k_rf, .ref k_ct, .ref k_cf, .ref k_nd, .ref k_na, .ref k_no, .ref k_bt, .ref k_bc, .ref k_br, .int (iI bg), .int (iI pn), .ref k_pc, .ref k_pr, .ref k_la, .ref k_lb, .ref k_ha, .ref k_hb, .ref k_ls, .ref k_wc, .int (iI wd), .int (iI mg), .int (iI mw), .int (iI mc)])), (k_ct, .inl (cI, aI 152971 gct))]) rfl ?_
                    refine g_iload_n C 2 std_M_dominates_105 rfl ?_
                    refine g_S_i (wc := []) (wr := [(m0, .inr (5, [.int (iI 0), .int (iI steps), .ref k_ch, .ref k_co, .ref k_ua, .ref k_ub, .ref k_ba, .int (iI (fle 0)), .int (iI (fle 1)), .int (iI (fmo 0)), .int (iI (fmo 1)), .int (iI (bI HM)), .ref k_rt, .ref k_rf, .ref k_ct, .ref k_cf, .ref k_nd, .ref k_na, .ref k_no, .ref k_bt, .ref k_bc, .ref k_br, .int (iI bg), .int (iI pn), .ref k_pc, .ref k_pr, .ref k_la, .ref k_lb, .ref k_ha, .ref k_hb, .ref k_ls, .ref k_wc, .int (iI wd), .int (iI mg), .int (iI mw), .int (iI mc)])), (k_ct, .inl (cI, aI 152971 gct))]) (rest := [.int (iI ((a % 7) - 1))]) C (c_m_lastOf l dC dI cI cJ cZ b (by omega)) (st_cS C kw_3_227 kw_3_225 kw_1_6 kw_3_226 sth_M_lastOf ⟨Nat.le_of_ble_eq_true rfl, Nat.le_of_ble_eq_true rfl⟩) rfl rfl (Nat.le_of_ble_eq_true rfl) std_M_dominates_106 ⟨Nat.le_of_ble_eq_true rfl, Nat.le_of_ble_eq_true rfl⟩ [] [0, 1] rfl rfl rfl rfl (by decide) (fun r236 u237 h238 => ?_)
                    subst h238
                    refine g_ws (ws' := [(m0, .inr (5, [.int (iI 0), .int (iI steps), .ref k_ch, .ref k_co, .ref k_ua, .ref k_ub, .ref k_ba, .int (iI (fle 0)), .int (iI (fle 1)), .int (iI (fmo 0)), .int (iI (fmo 1)), .int (iI (bI HM)), .ref k_rt, .ref k_rf, .ref k_ct, .ref k_cf, .ref k_nd, .ref k_na, .ref k_no, .ref k_bt, .ref k_bc, .ref k_br, .int (iI bg), .int (iI pn), .ref k_pc, .ref k_pr, .ref k_la, .ref k_lb, .ref k_ha, .ref k_hb, .ref k_ls, .ref k_wc, .int (iI wd), .int (iI mg), .int (iI mw), .int (iI mc)])), (k_ct, .inl (cI, aI 152971 gct))]) rfl ?_
                    refine g_icmp_ne (tgt := 131) C std_M_dominates_109 (by decide) ⟨by omega, by omega⟩ ⟨by omega, by omega⟩ (fun c239 => ?_) (fun c239 => ?_)
                    · refine g_iconst C std_M_dominates_131 ?_
                      refine g_wide (k := 0) (n := 0) (Nat.le_of_ble_eq_true rfl) (Nat.le_of_ble_eq_true rfl) ?_
                      exact hret _ _ _ () (by rw [bI_f (by unfold DMp; omega)]) (by decide) std_M_dominates_132
                    · refine g_aload_n C 4 std_M_dominates_112 rfl ?_
                      refine g_get C (st_sub sti_M) 0 rfl rfl 14 (by decide) (List.mem_cons_of_mem _ kw_3_80) rfl rfl std_M_dominates_113 ?_
                      refine g_iload_n C 3 std_M_dominates_116 rfl ?_
                      refine g_iald C 1 0 rfl rfl (by omega) (by omega) (by omega) std_M_dominates_117 ?_
                      refine g_aload_n C 4 std_M_dominates_118 rfl ?_
                      refine g_get C (st_sub sti_M) 0 rfl rfl 14 (by decide) (List.mem_cons_of_mem _ kw_3_80) rfl rfl std_M_dominates_119 ?_
                      refine g_iload_n C 2 std_M_dominates_122 rfl ?_
                      refine g_iald C 1 0 rfl rfl (by omega) (by omega) (by omega) std_M_dominates_123 ?_
                      refine g_icmp_gt (tgt := 131) C std_M_dominates_124 (by decide) ⟨by omega, by omega⟩ ⟨by omega, by omega⟩ (fun c240 => ?_) (fun c240 => ?_)
                      · refine g_iconst C std_M_dominates_131 ?_
                        refine g_wide (k := 0) (n := 0) (Nat.le_of_ble_eq_true rfl) (Nat.le_of_ble_eq_true rfl) ?_
                        exact hret _ _ _ () (by rw [bI_f (by unfold DMp; omega)]) (by decide) std_M_dominates_132
                      · refine g_iconst C std_M_dominates_127 ?_
                        refine g_goto (tgt := 132) C std_M_dominates_128 (by decide) ?_
                        refine g_wide (k := 0) (n := 0) (Nat.le_of_ble_eq_true rfl) (Nat.le_of_ble_eq_true rfl) ?_
                        exact hret _ _ _ () (by rw [bI_t (by unfold DMp; omega)]) (by decide) std_M_dominates_132
            refine g_wide (k := 0) (n := 0) (Nat.le_of_ble_eq_true rfl) (Nat.le_of_ble_eq_true rfl) ?_
            exact L87 0 (by omega)
          · refine g_iconst C std_M_dominates_61 ?_
            refine g_goto (tgt := 85) C std_M_dominates_62 (by decide) ?_
            refine g_istore C (lv' := [(4, .int (iI 1)), (3, .int (iI z3)), (2, .int (iI b)), (1, .int (iI a)), (0, .ref m0)]) std_M_dominates_85 (by decide) rfl ?_
            have L87 : ∀ (z4 : Int), ((z4 = 1 ∧ ((0 < fle 1 ∧ (((a % 11767) / 7) % 41) = (((b % 11767) / 7) % 41)) ∨ (fle 1 ≤ 0 ∧ (((a % 11767) / 7) % 41) ≤ (((b % 11767) / 7) % 41)))) ∨ (z4 = 0 ∧ ¬ ((0 < fle 1 ∧ (((a % 11767) / 7) % 41) = (((b % 11767) / 7) % 41)) ∨ (fle 1 ≤ 0 ∧ (((a % 11767) / 7) % 41) ≤ (((b % 11767) / 7) % 41))))) → G p l e ({ frames := 1, cells := 0, slots := 0, locals := 20 } : Room) s m ([.ref m0, .int (iI a), .int (iI b)] : List Value).toArray below meth c (dC, dI) stCl 5 A 0 0 Q [(m0, .inr (5, [.int (iI 0), .int (iI steps), .ref k_ch, .ref k_co, .ref k_ua, .ref k_ub, .ref k_ba, .int (iI (fle 0)), .int (iI (fle 1)), .int (iI (fmo 0)), .int (iI (fmo 1)), .int (iI (bI HM)), .ref k_rt, .ref k_rf, .ref k_ct, .ref k_cf, .ref k_nd, .ref k_na, .ref k_no, .ref k_bt, .ref k_bc, .ref k_br, .int (iI bg), .int (iI pn), .ref k_pc, .ref k_pr, .ref k_la, .ref k_lb, .ref k_ha, .ref k_hb, .ref k_ls, .ref k_wc, .int (iI wd), .int (iI mg), .int (iI mw), .int (iI mc)])), (k_ct, .inl (cI, aI 152971 gct))] 87 [(4, .int (iI z4)), (3, .int (iI z3)), (2, .int (iI b)), (1, .int (iI a)), (0, .ref m0)] [] := by
              intro z4 kz4
              refine g_iload_n C 3 std_M_dominates_87 rfl ?_
              refine g_iload_n C 2 std_M_dominates_88 rfl ?_
              refine g_icmp_eq (tgt := 131) C std_M_dominates_89 (by decide) ⟨by omega, by omega⟩ ⟨by omega, by omega⟩ (fun c241 => ?_) (fun c241 => ?_)
              · refine g_iconst C std_M_dominates_131 ?_
                exact hret _ _ _ () (by rw [bI_f (by unfold DMp; omega)]) (by decide) std_M_dominates_132
              · refine g_iload_n C 1 std_M_dominates_92 rfl ?_
                refine g_if_eq (tgt := 131) C std_M_dominates_93 (by decide) ⟨by omega, by omega⟩ (fun c242 => ?_) (fun c242 => ?_)
                · refine g_iconst C std_M_dominates_131 ?_
                  exact hret _ _ _ () (by rw [bI_f (by unfold DMp; omega)]) (by decide) std_M_dominates_132
                · refine g_iload C 0 std_M_dominates_96 rfl ?_
                  refine g_if_eq (tgt := 131) C std_M_dominates_98 (by decide) ⟨by omega, by omega⟩ (fun c243 => ?_) (fun c243 => ?_)
                  · refine g_iconst C std_M_dominates_131 ?_
                    exact hret _ _ _ () (by rw [bI_f (by unfold DMp; omega)]) (by decide) std_M_dominates_132
                  · refine g_iload_n C 3 std_M_dominates_101 rfl ?_
                    refine g_S_i (wc := []) (wr := [(m0, .inr (5, [.int (iI 0), .int (iI steps), .ref k_ch, .ref k_co, .ref k_ua, .ref k_ub, .ref k_ba, .int (iI (fle 0)), .int (iI (fle 1)), .int (iI (fmo 0)), .int (iI (fmo 1)), .int (iI (bI HM)), .ref k_rt, .ref k_rf, .ref k_ct, .ref k_cf, .ref k_nd, .ref k_na, .ref k_no, .ref k_bt, .ref k_bc, .ref k_br, .int (iI bg), .int (iI pn), .ref k_pc, .ref k_pr, .ref k_la, .ref k_lb, .ref k_ha, .ref k_hb, .ref k_ls, .ref k_wc, .int (iI wd), .int (iI mg), .int (iI mw), .int (iI mc)])), (k_ct, .inl (cI, aI 152971 gct))]) (rest := []) C (c_m_lastOf l dC dI cI cJ cZ a (by omega)) (st_cS C kw_3_227 kw_3_225 kw_1_6 kw_3_226 sth_M_lastOf ⟨Nat.le_of_ble_eq_true rfl, Nat.le_of_ble_eq_true rfl⟩) rfl rfl (Nat.le_of_ble_eq_true rfl) std_M_dominates_102 ⟨Nat.le_of_ble_eq_true rfl, Nat.le_of_ble_eq_true rfl⟩ [] [0, 1] rfl rfl rfl rfl (by decide) (fun r244 u245 h246 => ?_)
                    subst h246
                    refine g_ws (ws' := [(m0, .inr (5, [.int (iI 0), .int (iI steps), .ref k_ch, .ref k_co, .ref k_ua, .ref k_ub, .ref k_ba, .int (iI (fle 0)), .int (iI (fle 1)), .int (iI (fmo 0)), .int (iI (fmo 1)), .int (iI (bI HM)), .ref k_rt, .ref k_rf, .ref k_ct, .ref k_cf, .ref k_nd, .ref k_na, .ref k_no, .ref k_bt, .ref k_bc, .ref k_br, .int (iI bg), .int (iI pn), .ref k_pc, .ref k_pr, .ref k_la, .ref k_lb, .ref k_ha, .ref k_hb, .ref k_ls, .ref k_wc, .int (iI wd), .int (iI mg), .int (iI mw), .int (iI mc)])), (k_ct, .inl (cI, aI 152971 gct))]) rfl ?_
                    refine g_iload_n C 2 std_M_dominates_105 rfl ?_
                    refine g_S_i (wc := []) (wr := [(m0, .inr (5, [.int (iI 0), .int (iI steps), .ref k_ch, .ref k_co, .ref k_ua, .ref k_ub, .ref k_ba, .int (iI (fle 0)), .int (iI (fle 1)), .int (iI (fmo 0)), .int (iI (fmo 1)), .int (iI (bI HM)), .ref k_rt, .ref k_rf, .ref k_ct, .ref k_cf, .ref k_nd, .ref k_na, .ref k_no, .ref k_bt, .ref k_bc, .ref k_br, .int (iI bg), .int (iI pn), .ref k_pc, .ref k_pr, .ref k_la, .ref k_lb, .ref k_ha, .ref k_hb, .ref k_ls, .ref k_wc, .int (iI wd), .int (iI mg), .int (iI mw), .int (iI mc)])), (k_ct, .inl (cI, aI 152971 gct))]) (rest := [.int (iI ((a % 7) - 1))]) C (c_m_lastOf l dC dI cI cJ cZ b (by omega)) (st_cS C kw_3_227 kw_3_225 kw_1_6 kw_3_226 sth_M_lastOf ⟨Nat.le_of_ble_eq_true rfl, Nat.le_of_ble_eq_true rfl⟩) rfl rfl (Nat.le_of_ble_eq_true rfl) std_M_dominates_106 ⟨Nat.le_of_ble_eq_true rfl, Nat.le_of_ble_eq_true rfl⟩ [] [0, 1] rfl rfl rfl rfl (by decide) (fun r247 u248 h249 => ?_)
                    subst h249
                    refine g_ws (ws' := [(m0, .inr (5, [.int (iI 0), .int (iI steps), .ref k_ch, .ref k_co, .ref k_ua, .ref k_ub, .ref k_ba, .int (iI (fle 0)), .int (iI (fle 1)), .int (iI (fmo 0)), .int (iI (fmo 1)), .int (iI (bI HM)), .ref k_rt, .ref k_rf, .ref k_ct, .ref k_cf, .ref k_nd, .ref k_na, .ref k_no, .ref k_bt, .ref k_bc, .ref k_br, .int (iI bg), .int (iI pn), .ref k_pc, .ref k_pr, .ref k_la, .ref k_lb, .ref k_ha, .ref k_hb, .ref k_ls, .ref k_wc, .int (iI wd), .int (iI mg), .int (iI mw), .int (iI mc)])), (k_ct, .inl (cI, aI 152971 gct))]) rfl ?_
                    refine g_icmp_ne (tgt := 131) C std_M_dominates_109 (by decide) ⟨by omega, by omega⟩ ⟨by omega, by omega⟩ (fun c250 => ?_) (fun c250 => ?_)
                    · refine g_iconst C std_M_dominates_131 ?_
                      refine g_wide (k := 0) (n := 0) (Nat.le_of_ble_eq_true rfl) (Nat.le_of_ble_eq_true rfl) ?_
                      exact hret _ _ _ () (by rw [bI_f (by unfold DMp; omega)]) (by decide) std_M_dominates_132
                    · refine g_aload_n C 4 std_M_dominates_112 rfl ?_
                      refine g_get C (st_sub sti_M) 0 rfl rfl 14 (by decide) (List.mem_cons_of_mem _ kw_3_80) rfl rfl std_M_dominates_113 ?_
                      refine g_iload_n C 3 std_M_dominates_116 rfl ?_
                      refine g_iald C 1 0 rfl rfl (by omega) (by omega) (by omega) std_M_dominates_117 ?_
                      refine g_aload_n C 4 std_M_dominates_118 rfl ?_
                      refine g_get C (st_sub sti_M) 0 rfl rfl 14 (by decide) (List.mem_cons_of_mem _ kw_3_80) rfl rfl std_M_dominates_119 ?_
                      refine g_iload_n C 2 std_M_dominates_122 rfl ?_
                      refine g_iald C 1 0 rfl rfl (by omega) (by omega) (by omega) std_M_dominates_123 ?_
                      refine g_icmp_gt (tgt := 131) C std_M_dominates_124 (by decide) ⟨by omega, by omega⟩ ⟨by omega, by omega⟩ (fun c251 => ?_) (fun c251 => ?_)
                      · refine g_iconst C std_M_dominates_131 ?_
                        refine g_wide (k := 0) (n := 0) (Nat.le_of_ble_eq_true rfl) (Nat.le_of_ble_eq_true rfl) ?_
                        exact hret _ _ _ () (by rw [bI_f (by unfold DMp; omega)]) (by decide) std_M_dominates_132
                      · refine g_iconst C std_M_dominates_127 ?_
                        refine g_goto (tgt := 132) C std_M_dominates_128 (by decide) ?_
                        refine g_wide (k := 0) (n := 0) (Nat.le_of_ble_eq_true rfl) (Nat.le_of_ble_eq_true rfl) ?_
                        exact hret _ _ _ () (by rw [bI_t (by unfold DMp; omega)]) (by decide) std_M_dominates_132
            refine g_wide (k := 0) (n := 0) (Nat.le_of_ble_eq_true rfl) (Nat.le_of_ble_eq_true rfl) ?_
            exact L87 1 (by omega)
      refine g_lv (lv' := [(3, .int (iI 1)), (2, .int (iI b)), (1, .int (iI a)), (0, .ref m0)]) [0, 3, 2, 1] rfl ?_
      refine g_wide (k := 0) (n := 0) (Nat.le_of_ble_eq_true rfl) (Nat.le_of_ble_eq_true rfl) ?_
      exact L43 1 (by omega)

