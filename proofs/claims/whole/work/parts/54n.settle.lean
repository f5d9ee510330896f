/-! the model: settle -/
abbrev sty_M_settle : MethodName := ⟨"StateTablesModel", "settle", "(I)Z"⟩
abbrev stc_M_settle : ByteArray := prog_7_method_16_code
theorem sth_M_settle : (sty_M_settle).cls ≠ "java/lang/invoke/MethodHandle" ∧ (sty_M_settle).cls ≠ "java/lang/invoke/VarHandle" ∧ (parseMethodDescriptor (sty_M_settle).desc).map (fun d => d.parameters.length) = some 1 := by decide +kernel
theorem std_M_settle_0 : decode stc_M_settle 0 = .ok (.aload_n 0, 1) := by decide +kernel
theorem std_M_settle_1 : decode stc_M_settle 1 = .ok (.getfield 50, 3) := by decide +kernel
theorem kw_3_82 : Cond.fieldLink "StateTablesModel" 50 "StateTablesModel" "nodes" "[I" ∈ stGW := st_t3 (List.mem_of_getElem? (i := 82) (by decide +kernel)) (by decide +kernel)
theorem std_M_settle_4 : decode stc_M_settle 4 = .ok (.iload_n 1, 1) := by decide +kernel
theorem std_M_settle_5 : decode stc_M_settle 5 = .ok (.iconst 0, 1) := by decide +kernel
theorem std_M_settle_6 : decode stc_M_settle 6 = .ok (.iastore, 1) := by decide +kernel
theorem std_M_settle_7 : decode stc_M_settle 7 = .ok (.sipush 11767, 3) := by decide +kernel
theorem std_M_settle_10 : decode stc_M_settle 10 = .ok (.iload_n 1, 1) := by decide +kernel
theorem std_M_settle_11 : decode stc_M_settle 11 = .ok (.imul, 1) := by decide +kernel
theorem std_M_settle_12 : decode stc_M_settle 12 = .ok (.istore_n 2, 1) := by decide +kernel
theorem std_M_settle_13 : decode stc_M_settle 13 = .ok (.iload_n 2, 1) := by decide +kernel
theorem std_M_settle_14 : decode stc_M_settle 14 = .ok (.sipush 11767, 3) := by decide +kernel
theorem std_M_settle_17 : decode stc_M_settle 17 = .ok (.iload_n 1, 1) := by decide +kernel
theorem std_M_settle_18 : decode stc_M_settle 18 = .ok (.imul, 1) := by decide +kernel
theorem std_M_settle_19 : decode stc_M_settle 19 = .ok (.sipush 11767, 3) := by decide +kernel
theorem std_M_settle_22 : decode stc_M_settle 22 = .ok (.iadd, 1) := by decide +kernel
theorem std_M_settle_23 : decode stc_M_settle 23 = .ok (.if_icmp .ge 74, 3) := by decide +kernel
theorem std_M_settle_97 : decode stc_M_settle 97 = .ok (.iconst 1, 1) := by decide +kernel
theorem std_M_settle_98 : decode stc_M_settle 98 = .ok (.ireturn, 1) := by decide +kernel
theorem std_M_settle_26 : decode stc_M_settle 26 = .ok (.aload_n 0, 1) := by decide +kernel
theorem std_M_settle_27 : decode stc_M_settle 27 = .ok (.getfield 37, 3) := by decide +kernel
theorem kw_3_78 : Cond.fieldLink "StateTablesModel" 37 "StateTablesModel" "rowsTo" "[J" ∈ stGW := st_t3 (List.mem_of_getElem? (i := 78) (by decide +kernel)) (by decide +kernel)
theorem std_M_settle_30 : decode stc_M_settle 30 = .ok (.iload_n 2, 1) := by decide +kernel
theorem std_M_settle_31 : decode stc_M_settle 31 = .ok (.laload, 1) := by decide +kernel
theorem std_M_settle_32 : decode stc_M_settle 32 = .ok (.lconst 0, 1) := by decide +kernel
theorem std_M_settle_33 : decode stc_M_settle 33 = .ok (.lcmp, 1) := by decide +kernel
theorem std_M_settle_34 : decode stc_M_settle 34 = .ok (.ifCond .le 57, 3) := by decide +kernel
theorem std_M_settle_91 : decode stc_M_settle 91 = .ok (.iinc 2 1, 3) := by decide +kernel
theorem std_M_settle_94 : decode stc_M_settle 94 = .ok (.goto (-81), 3) := by decide +kernel
theorem std_M_settle_37 : decode stc_M_settle 37 = .ok (.aload_n 0, 1) := by decide +kernel
theorem std_M_settle_38 : decode stc_M_settle 38 = .ok (.getfield 50, 3) := by decide +kernel
theorem std_M_settle_41 : decode stc_M_settle 41 = .ok (.iload_n 1, 1) := by decide +kernel
theorem std_M_settle_42 : decode stc_M_settle 42 = .ok (.iaload, 1) := by decide +kernel
theorem std_M_settle_43 : decode stc_M_settle 43 = .ok (.sipush 400, 3) := by decide +kernel
theorem std_M_settle_46 : decode stc_M_settle 46 = .ok (.if_icmp .ne 5, 3) := by decide +kernel
theorem std_M_settle_51 : decode stc_M_settle 51 = .ok (.aload_n 0, 1) := by decide +kernel
theorem std_M_settle_52 : decode stc_M_settle 52 = .ok (.getfield 53, 3) := by decide +kernel
theorem kw_3_83 : Cond.fieldLink "StateTablesModel" 53 "StateTablesModel" "nodeAt" "[I" ∈ stGW := st_t3 (List.mem_of_getElem? (i := 83) (by decide +kernel)) (by decide +kernel)
theorem std_M_settle_55 : decode stc_M_settle 55 = .ok (.sipush 400, 3) := by decide +kernel
theorem std_M_settle_58 : decode stc_M_settle 58 = .ok (.iload_n 1, 1) := by decide +kernel
theorem std_M_settle_59 : decode stc_M_settle 59 = .ok (.imul, 1) := by decide +kernel
theorem std_M_settle_60 : decode stc_M_settle 60 = .ok (.aload_n 0, 1) := by decide +kernel
theorem std_M_settle_61 : decode stc_M_settle 61 = .ok (.getfield 50, 3) := by decide +kernel
theorem std_M_settle_64 : decode stc_M_settle 64 = .ok (.iload_n 1, 1) := by decide +kernel
theorem std_M_settle_65 : decode stc_M_settle 65 = .ok (.iaload, 1) := by decide +kernel
theorem std_M_settle_66 : decode stc_M_settle 66 = .ok (.iadd, 1) := by decide +kernel
theorem std_M_settle_67 : decode stc_M_settle 67 = .ok (.iload_n 2, 1) := by decide +kernel
theorem std_M_settle_68 : decode stc_M_settle 68 = .ok (.iastore, 1) := by decide +kernel
theorem std_M_settle_69 : decode stc_M_settle 69 = .ok (.aload_n 0, 1) := by decide +kernel
theorem std_M_settle_70 : decode stc_M_settle 70 = .ok (.getfield 56, 3) := by decide +kernel
theorem kw_3_84 : Cond.fieldLink "StateTablesModel" 56 "StateTablesModel" "numberOf" "[I" ∈ stGW := st_t3 (List.mem_of_getElem? (i := 84) (by decide +kernel)) (by decide +kernel)
theorem std_M_settle_73 : decode stc_M_settle 73 = .ok (.iload_n 2, 1) := by decide +kernel
theorem std_M_settle_74 : decode stc_M_settle 74 = .ok (.aload_n 0, 1) := by decide +kernel
theorem std_M_settle_75 : decode stc_M_settle 75 = .ok (.getfield 50, 3) := by decide +kernel
theorem std_M_settle_78 : decode stc_M_settle 78 = .ok (.iload_n 1, 1) := by decide +kernel
theorem std_M_settle_79 : decode stc_M_settle 79 = .ok (.iaload, 1) := by decide +kernel
theorem std_M_settle_80 : decode stc_M_settle 80 = .ok (.iastore, 1) := by decide +kernel
theorem std_M_settle_81 : decode stc_M_settle 81 = .ok (.aload_n 0, 1) := by decide +kernel
theorem std_M_settle_82 : decode stc_M_settle 82 = .ok (.getfield 50, 3) := by decide +kernel
theorem std_M_settle_85 : decode stc_M_settle 85 = .ok (.iload_n 1, 1) := by decide +kernel
theorem std_M_settle_86 : decode stc_M_settle 86 = .ok (.dup2, 1) := by decide +kernel
theorem std_M_settle_87 : decode stc_M_settle 87 = .ok (.iaload, 1) := by decide +kernel
theorem std_M_settle_88 : decode stc_M_settle 88 = .ok (.iconst 1, 1) := by decide +kernel
theorem std_M_settle_89 : decode stc_M_settle 89 = .ok (.iadd, 1) := by decide +kernel
theorem std_M_settle_90 : decode stc_M_settle 90 = .ok (.iastore, 1) := by decide +kernel
theorem std_M_settle_49 : decode stc_M_settle 49 = .ok (.iconst 0, 1) := by decide +kernel
theorem std_M_settle_50 : decode stc_M_settle 50 = .ok (.ireturn, 1) := by decide +kernel
set_option maxHeartbeats 4000000 in
set_option maxRecDepth 100000 in
theorem c_m_settle (l : Launch) (dC : Nat → ClassId) (dI : Nat → Nat → Nat) (cI cJ cZ : ClassId) (m0 : Nat) (k_ch : Nat) (k_co : Nat) (k_ua : Nat) (k_ub : Nat) (k_ba : Nat) (k_rt : Nat) (k_rf : Nat) (k_ct : Nat) (k_cf : Nat) (k_nd : Nat) (k_na : Nat) (k_no : Nat) (k_bt : Nat) (k_bc : Nat) (k_br : Nat) (k_pc : Nat) (k_pr : Nat) (k_la : Nat) (k_lb : Nat) (k_ha : Nat) (k_hb : Nat) (k_ls : Nat) (k_wc : Nat) (HM : Prop) (bg : Int) (pn : Int) (wd : Int) (mg : Int) (mw : Int) (mc : Int) (steps : Int) (d : Nat) (fle : Int → Int) (grt : Int → Int) (gnd : Int → Int) (gna : Int → Int) (gno : Int → Int) (fsz : Int → Int) (fco : Int → Int) (ffu : Int → Int) (fsu : Int → Int) (fbb : Int → Int) (fmo : Int → Int) (kd : d ≤ 12) (kT : TB fsz fco ffu fsu fbb fmo) (kRT : ∀ x, 0 ≤ x → x < 11767 → grt (11767 * ((d : Nat) : Int) + x) = wt fsz ffu fsu fbb fmo d (kk x)) : ∀ sz, Met l sty_M_settle (Cond.code sty_M_settle stc_M_settle 3 (some .boolean) :: stGW) ({ frames := 0, cells := 0, slots := 0, locals := 0 } : Room) (va_Pc [.ref m0, .int (iI ((d : Nat) : Int))] (zPre (dC, dI) stCl [(cI, .int), (cJ, .long), (cZ, .boolean)] st_nw [(m0, .inr (5, [.int (iI 0), .int (iI steps), .ref k_ch, .ref k_co, .ref k_ua, .ref k_ub, .ref k_ba, .int (iI (fle 0)), .int (iI (fle 1)), .int (iI (fmo 0)), .int (iI (fmo 1)), .int (iI (bI HM)), .ref k_rt, .ref k_rf, .ref k_ct, .ref k_cf, .ref k_nd, .ref k_na, .ref k_no, .ref k_bt, .ref k_bc, .ref k_br, .int (iI bg), .int (iI pn), .ref k_pc, .ref k_pr, .ref k_la, .ref k_lb, .ref k_ha, .ref k_hb, .ref k_ls, .ref k_wc, .int (iI wd), .int (iI mg), .int (iI mw), .int (iI mc)])), (k_rt, .inl (cJ, aL 152971 grt)), (k_nd, .inl (cI, aI 13 gnd)), (k_na, .inl (cI, aI 5200 gna)), (k_no, .inl (cI, aI 152971 gno))] sz)) (va_Qi (fun (r : Int32) (u : (Int → Int) × (Int → Int) × (Int → Int)) => r = iI (bI (cn fsz ffu fsu fbb fmo d ≤ 400)) ∧ (∀ j, ¬ j = ((d : Nat) : Int) → u.1 j = gnd j) ∧ (∀ j, j < 400 * ((d : Nat) : Int) → u.2.1 j = gna j) ∧ (∀ j, j < 11767 * ((d : Nat) : Int) → u.2.2 j = gno j) ∧ (cn fsz ffu fsu fbb fmo d ≤ 400 → ME fsz ffu fsu fbb fmo d (u.1 ((d : Nat) : Int)) u.2.1 u.2.2)) (zPost (dC, dI) stCl [(cI, .int), (cJ, .long), (cZ, .boolean)] [(m0, .inr (5, [.int (iI 0), .int (iI steps), .ref k_ch, .ref k_co, .ref k_ua, .ref k_ub, .ref k_ba, .int (iI (fle 0)), .int (iI (fle 1)), .int (iI (fmo 0)), .int (iI (fmo 1)), .int (iI (bI HM)), .ref k_rt, .ref k_rf, .ref k_ct, .ref k_cf, .ref k_nd, .ref k_na, .ref k_no, .ref k_bt, .ref k_bc, .ref k_br, .int (iI bg), .int (iI pn), .ref k_pc, .ref k_pr, .ref k_la, .ref k_lb, .ref k_ha, .ref k_hb, .ref k_ls, .ref k_wc, .int (iI wd), .int (iI mg), .int (iI mw), .int (iI mc)])), (k_rt, .inl (cJ, aL 152971 grt)), (k_nd, .inl (cI, aI 13 gnd)), (k_na, .inl (cI, aI 5200 gna)), (k_no, .inl (cI, aI 152971 gno))] sz (fun u : (Int → Int) × (Int → Int) × (Int → Int) => [(m0, .inr (5, [.int (iI 0), .int (iI steps), .ref k_ch, .ref k_co, .ref k_ua, .ref k_ub, .ref k_ba, .int (iI (fle 0)), .int (iI (fle 1)), .int (iI (fmo 0)), .int (iI (fmo 1)), .int (iI (bI HM)), .ref k_rt, .ref k_rf, .ref k_ct, .ref k_cf, .ref k_nd, .ref k_na, .ref k_no, .ref k_bt, .ref k_bc, .ref k_br, .int (iI bg), .int (iI pn), .ref k_pc, .ref k_pr, .ref k_la, .ref k_lb, .ref k_ha, .ref k_hb, .ref k_ls, .ref k_wc, .int (iI wd), .int (iI mg), .int (iI mw), .int (iI mc)])), (k_rt, .inl (cJ, aL 152971 grt)), (k_nd, .inl (cI, aI 13 (u.1))), (k_na, .inl (cI, aI 5200 (u.2.1))), (k_no, .inl (cI, aI 152971 (u.2.2)))])) (va_A [(m0, .inr (5, [.int (iI 0), .int (iI steps), .ref k_ch, .ref k_co, .ref k_ua, .ref k_ub, .ref k_ba, .int (iI (fle 0)), .int (iI (fle 1)), .int (iI (fmo 0)), .int (iI (fmo 1)), .int (iI (bI HM)), .ref k_rt, .ref k_rf, .ref k_ct, .ref k_cf, .ref k_nd, .ref k_na, .ref k_no, .ref k_bt, .ref k_bc, .ref k_br, .int (iI bg), .int (iI pn), .ref k_pc, .ref k_pr, .ref k_la, .ref k_lb, .ref k_ha, .ref k_hb, .ref k_ls, .ref k_wc, .int (iI wd), .int (iI mg), .int (iI mw), .int (iI mc)])), (k_rt, .inl (cJ, aL 152971 grt)), (k_nd, .inl (cI, aI 13 gnd)), (k_na, .inl (cI, aI 5200 gna)), (k_no, .inl (cI, aI 152971 gno))] sz)) 0 0 (va_A [(m0, .inr (5, [.int (iI 0), .int (iI steps), .ref k_ch, .ref k_co, .ref k_ua, .ref k_ub, .ref k_ba, .int (iI (fle 0)), .int (iI (fle 1)), .int (iI (fmo 0)), .int (iI (fmo 1)), .int (iI (bI HM)), .ref k_rt, .ref k_rf, .ref k_ct, .ref k_cf, .ref k_nd, .ref k_na, .ref k_no, .ref k_bt, .ref k_bc, .ref k_br, .int (iI bg), .int (iI pn), .ref k_pc, .ref k_pr, .ref k_la, .ref k_lb, .ref k_ha, .ref k_hb, .ref k_ls, .ref k_wc, .int (iI wd), .int (iI mg), .int (iI mw), .int (iI mc)])), (k_rt, .inl (cJ, aL 152971 grt)), (k_nd, .inl (cI, aI 13 gnd)), (k_na, .inl (cI, aI 5200 gna)), (k_no, .inl (cI, aI 152971 gno))] sz) := by
  refine met_z (by decide) rfl (Nat.le_of_ble_eq_true rfl) ?_
  intro p e s m below meth c A Q C hmn hret
  refine g_aload_n C 0 std_M_settle_0 rfl ?_
  refine g_get C (st_sub sti_M) 0 rfl rfl 16 (by decide) (List.mem_cons_of_mem _ kw_3_82) rfl rfl std_M_settle_1 ?_
  refine g_iload_n C 1 std_M_settle_4 rfl ?_
  refine g_iconst C std_M_settle_5 ?_
  refine g_iast C (ws' := [(m0, .inr (5, [.int (iI 0), .int (iI steps), .ref k_ch, .ref k_co, .ref k_ua, .ref k_ub, .ref k_ba, .int (iI (fle 0)), .int (iI (fle 1)), .int (iI (fmo 0)), .int (iI (fmo 1)), .int (iI (bI HM)), .ref k_rt, .ref k_rf, .ref k_ct, .ref k_cf, .ref k_nd, .ref k_na, .ref k_no, .ref k_bt, .ref k_bc, .ref k_br, .int (iI bg), .int (iI pn), .ref k_pc, .ref k_pr, .ref k_la, .ref k_lb, .ref k_ha, .ref k_hb, .ref k_ls, .ref k_wc, .int (iI wd), .int (iI mg), .int (iI mw), .int (iI mc)])), (k_rt, .inl (cJ, aL 152971 grt)), (k_nd, .inl (cI, aI 13 (uZ gnd ((d : Nat) : Int) 0))), (k_na, .inl (cI, aI 5200 gna)), (k_no, .inl (cI, aI 152971 gno))]) 2 0 rfl rfl (by omega) (by omega) (by omega) std_M_settle_6 rfl ?_
  refine g_sipush C std_M_settle_7 (by decide) ?_
  refine g_iload_n C 1 std_M_settle_10 rfl ?_
  refine g_imul C std_M_settle_11 ?_
  refine g_istore_n C (lv' := [(2, .int (iI (11767 * ((d : Nat) : Int)))), (0, .ref m0), (1, .int (iI ((d : Nat) : Int)))]) std_M_settle_12 (by decide) rfl ?_
  have L13 : ∀ (nn13 : Nat) (x : Int) (y : Int) (mm : Int) (ND : Int → Int) (NA : Int → Int) (NO : Int → Int), (0 ≤ x ∧ x ≤ 11767) → (y = 11767 * ((d : Nat) : Int) + x) → SEp (fun k => 0 < wt fsz ffu fsu fbb fmo d k) ((d : Nat) : Int) x mm NA NO → (∀ j, ¬ j = ((d : Nat) : Int) → ND j = gnd j) → (∀ j, j < 400 * ((d : Nat) : Int) → NA j = gna j) → (∀ j, j < 11767 * ((d : Nat) : Int) → NO j = gno j) → (11767 - x) < (nn13 : Int) → G p l e ({ frames := 0, cells := 0, slots := 0, locals := 0 } : Room) s m ([.ref m0, .int (iI ((d : Nat) : Int))] : List Value).toArray below meth c (dC, dI) stCl 3 A 0 0 Q [(m0, .inr (5, [.int (iI 0), .int (iI steps), .ref k_ch, .ref k_co, .ref k_ua, .ref k_ub, .ref k_ba, .int (iI (fle 0)), .int (iI (fle 1)), .int (iI (fmo 0)), .int (iI (fmo 1)), .int (iI (bI HM)), .ref k_rt, .ref k_rf, .ref k_ct, .ref k_cf, .ref k_nd, .ref k_na, .ref k_no, .ref k_bt, .ref k_bc, .ref k_br, .int (iI bg), .int (iI pn), .ref k_pc, .ref k_pr, .ref k_la, .ref k_lb, .ref k_ha, .ref k_hb, .ref k_ls, .ref k_wc, .int (iI wd), .int (iI mg), .int (iI mw), .int (iI mc)])), (k_rt, .inl (cJ, aL 152971 grt)), (k_nd, .inl (cI, aI 13 (uZ ND ((d : Nat) : Int) mm))), (k_na, .inl (cI, aI 5200 NA)), (k_no, .inl (cI, aI 152971 NO))] 13 [(2, .int (iI y)), (0, .ref m0), (1, .int (iI ((d : Nat) : Int)))] [] := by
    intro nn13
    induction nn13 with
    | zero =>
      intro x y mm ND NA NO kx ky kS kN kA kO hnn13
      exact absurd hnn13 (by omega)
    | succ nn13 ih13 =>
      intro x y mm ND NA NO kx ky kS kN kA kO hnn13
      refine g_iload_n C 0 std_M_settle_13 rfl ?_
      refine g_sipush C std_M_settle_14 (by decide) ?_
      refine g_iload_n C 2 std_M_settle_17 rfl ?_
      refine g_imul C std_M_settle_18 ?_
      refine g_sipush C std_M_settle_19 (by decide) ?_
      refine g_iadd C std_M_settle_22 ?_
      refine g_icmp_ge (tgt := 97) C std_M_settle_23 (by decide) ⟨by omega, by omega⟩ ⟨by omega, by omega⟩ (fun c1 => ?_) (fun c1 => ?_)
      · have hME := se_e kT kd kS (by omega)
        have hok : cn fsz ffu fsu fbb fmo d ≤ 400 := by have := hME.1; omega
        refine g_iconst C std_M_settle_97 ?_
        exact hret _ _ _ ((uZ ND ((d : Nat) : Int) mm), NA, NO) (⟨by rw [bI_t hok], fun j h => by dsimp only; rw [uZ_n h]; exact kN j h, kA, kO, fun _ => by dsimp only; rw [uZ_s]; exact hME⟩) (by decide) std_M_settle_98
      · have hrt := kRT x (by omega) (by omega)
        rw [← ky] at hrt
        have hwn := wt_nn (fsz := fsz) (ffu := ffu) (fsu := fsu) (fbb := fbb) (fmo := fmo) d (kk x)
        have hwu := wt_ub kT d (kk x) (by omega)
        have hp8 := p8_12 (d := d) (by omega)
        have hm := kS.1
        refine g_aload_n C 1 std_M_settle_26 rfl ?_
        refine g_get C (st_sub sti_M) 0 rfl rfl 12 (by decide) (List.mem_cons_of_mem _ kw_3_78) rfl rfl std_M_settle_27 ?_
        refine g_iload_n C 0 std_M_settle_30 rfl ?_
        refine g_lald C 1 1 rfl rfl (by omega) (by omega) (by omega) std_M_settle_31 ?_
        refine g_lconst C (z := 0) std_M_settle_32 (by decide) ?_
        refine g_lcmp_le (tgt := 91) C std_M_settle_33 std_M_settle_34 (by decide) ⟨by omega, by omega⟩ ⟨by omega, by omega⟩ (fun c2 => ?_) (fun c2 => ?_)
        · have hX : ¬ 0 < wt fsz ffu fsu fbb fmo d (kk x) := by omega
          refine g_iinc C (lv' := [(2, .int (iI (y + 1))), (0, .ref m0), (1, .int (iI ((d : Nat) : Int)))]) 0 std_M_settle_91 rfl (by decide) rfl ?_
          refine g_goto (tgt := 13) C std_M_settle_94 (by decide) ?_
          exact ih13 (x + 1) (y + 1) mm ND NA NO (by omega) (by omega) (se_n kS (by omega) hX) (kN) (kA) (kO) (by omega)
        · have hX : 0 < wt fsz ffu fsu fbb fmo d (kk x) := by omega
          refine g_aload_n C 1 std_M_settle_37 rfl ?_
          refine g_get C (st_sub sti_M) 0 rfl rfl 16 (by decide) (List.mem_cons_of_mem _ kw_3_82) rfl rfl std_M_settle_38 ?_
          refine g_iload_n C 2 std_M_settle_41 rfl ?_
          refine g_iald C 2 0 rfl rfl (by omega) (by omega) (by omega) std_M_settle_42 ?_
          refine g_st (st' := [.int (iI mm)]) (by rw [uZ_s]) ?_
          refine g_sipush C std_M_settle_43 (by decide) ?_
          refine g_icmp_ne (tgt := 51) C std_M_settle_46 (by decide) ⟨by omega, by omega⟩ ⟨by omega, by omega⟩ (fun c3 => ?_) (fun c3 => ?_)
          · refine g_aload_n C 1 std_M_settle_51 rfl ?_
            refine g_get C (st_sub sti_M) 0 rfl rfl 17 (by decide) (List.mem_cons_of_mem _ kw_3_83) rfl rfl std_M_settle_52 ?_
            refine g_sipush C std_M_settle_55 (by decide) ?_
            refine g_iload_n C 2 std_M_settle_58 rfl ?_
            refine g_imul C std_M_settle_59 ?_
            refine g_aload_n C 1 std_M_settle_60 rfl ?_
            refine g_get C (st_sub sti_M) 0 rfl rfl 16 (by decide) (List.mem_cons_of_mem _ kw_3_82) rfl rfl std_M_settle_61 ?_
            refine g_iload_n C 2 std_M_settle_64 rfl ?_
            refine g_iald C 2 0 rfl rfl (by omega) (by omega) (by omega) std_M_settle_65 ?_
            refine g_st (st' := [.int (iI mm), .int (iI (400 * ((d : Nat) : Int))), .ref k_na]) (by rw [uZ_s]) ?_
            refine g_iadd C std_M_settle_66 ?_
            refine g_iload_n C 0 std_M_settle_67 rfl ?_
            refine g_iast C (ws' := [(m0, .inr (5, [.int (iI 0), .int (iI steps), .ref k_ch, .ref k_co, .ref k_ua, .ref k_ub, .ref k_ba, .int (iI (fle 0)), .int (iI (fle 1)), .int (iI (fmo 0)), .int (iI (fmo 1)), .int (iI (bI HM)), .ref k_rt, .ref k_rf, .ref k_ct, .ref k_cf, .ref k_nd, .ref k_na, .ref k_no, .ref k_bt, .ref k_bc, .ref k_br, .int (iI bg), .int (iI pn), .ref k_pc, .ref k_pr, .ref k_la, .ref k_lb, .ref k_ha, .ref k_hb, .ref k_ls, .ref k_wc, .int (iI wd), .int (iI mg), .int (iI mw), .int (iI mc)])), (k_rt, .inl (cJ, aL 152971 grt)), (k_nd, .inl (cI, aI 13 (uZ ND ((d : Nat) : Int) mm))), (k_na, .inl (cI, aI 5200 (uZ NA ((400 * ((d : Nat) : Int)) + mm) y))), (k_no, .inl (cI, aI 152971 NO))]) 3 0 rfl rfl (by omega) (by omega) (by omega) std_M_settle_68 rfl ?_
            refine g_aload_n C 1 std_M_settle_69 rfl ?_
            refine g_get C (st_sub sti_M) 0 rfl rfl 18 (by decide) (List.mem_cons_of_mem _ kw_3_84) rfl rfl std_M_settle_70 ?_
            refine g_iload_n C 0 std_M_settle_73 rfl ?_
            refine g_aload_n C 1 std_M_settle_74 rfl ?_
            refine g_get C (st_sub sti_M) 0 rfl rfl 16 (by decide) (List.mem_cons_of_mem _ kw_3_82) rfl rfl std_M_settle_75 ?_
            refine g_iload_n C 2 std_M_settle_78 rfl ?_
            refine g_iald C 2 0 rfl rfl (by omega) (by omega) (by omega) std_M_settle_79 ?_
            refine g_st (st' := [.int (iI mm), .int (iI y), .ref k_no]) (by rw [uZ_s]) ?_
            refine g_iast C (ws' := [(m0, .inr (5, [.int (iI 0), .int (iI steps), .ref k_ch, .ref k_co, .ref k_ua, .ref k_ub, .ref k_ba, .int (iI (fle 0)), .int (iI (fle 1)), .int (iI (fmo 0)), .int (iI (fmo 1)), .int (iI (bI HM)), .ref k_rt, .ref k_rf, .ref k_ct, .ref k_cf, .ref k_nd, .ref k_na, .ref k_no, .ref k_bt, .ref k_bc, .ref k_br, .int (iI bg), .int (iI pn), .ref k_pc, .ref k_pr, .ref k_la, .ref k_lb, .ref k_ha, .ref k_hb, .ref k_ls, .ref k_wc, .int (iI wd), .int (iI mg), .int (iI mw), .int (iI mc)])), (k_rt, .inl (cJ, aL 152971 grt)), (k_nd, .inl (cI, aI 13 (uZ ND ((d : Nat) : Int) mm))), (k_na, .inl (cI, aI 5200 (uZ NA ((400 * ((d : Nat) : Int)) + mm) y))), (k_no, .inl (cI, aI 152971 (uZ NO y mm)))]) 4 0 rfl rfl (by omega) (by omega) (by omega) std_M_settle_80 rfl ?_
            refine g_aload_n C 1 std_M_settle_81 rfl ?_
            refine g_get C (st_sub sti_M) 0 rfl rfl 16 (by decide) (List.mem_cons_of_mem _ kw_3_82) rfl rfl std_M_settle_82 ?_
            refine g_iload_n C 2 std_M_settle_85 rfl ?_
            refine g_dup2 C std_M_settle_86 rfl rfl ?_
            refine g_iald C 2 0 rfl rfl (by omega) (by omega) (by omega) std_M_settle_87 ?_
            refine g_st (st' := [.int (iI mm), .int (iI ((d : Nat) : Int)), .ref k_nd]) (by rw [uZ_s]) ?_
            refine g_iconst C std_M_settle_88 ?_
            refine g_iadd C std_M_settle_89 ?_
            refine g_iast C (ws' := [(m0, .inr (5, [.int (iI 0), .int (iI steps), .ref k_ch, .ref k_co, .ref k_ua, .ref k_ub, .ref k_ba, .int (iI (fle 0)), .int (iI (fle 1)), .int (iI (fmo 0)), .int (iI (fmo 1)), .int (iI (bI HM)), .ref k_rt, .ref k_rf, .ref k_ct, .ref k_cf, .ref k_nd, .ref k_na, .ref k_no, .ref k_bt, .ref k_bc, .ref k_br, .int (iI bg), .int (iI pn), .ref k_pc, .ref k_pr, .ref k_la, .ref k_lb, .ref k_ha, .ref k_hb, .ref k_ls, .ref k_wc, .int (iI wd), .int (iI mg), .int (iI mw), .int (iI mc)])), (k_rt, .inl (cJ, aL 152971 grt)), (k_nd, .inl (cI, aI 13 (uZ (uZ ND ((d : Nat) : Int) mm) ((d : Nat) : Int) (mm + 1)))), (k_na, .inl (cI, aI 5200 (uZ NA ((400 * ((d : Nat) : Int)) + mm) y))), (k_no, .inl (cI, aI 152971 (uZ NO y mm)))]) 2 0 rfl rfl (by omega) (by omega) (by omega) std_M_settle_90 rfl ?_
            refine g_iinc C (lv' := [(2, .int (iI (y + 1))), (0, .ref m0), (1, .int (iI ((d : Nat) : Int)))]) 0 std_M_settle_91 rfl (by decide) rfl ?_
            refine g_goto (tgt := 13) C std_M_settle_94 (by decide) ?_
            exact ih13 (x + 1) (y + 1) (mm + 1) (uZ ND ((d : Nat) : Int) mm) (uZ NA ((400 * ((d : Nat) : Int)) + mm) y) (uZ NO y mm) (by omega) (by omega) (by rw [ky]; exact se_y kS (by omega) hX (by omega)) (fun j h => by rw [uZ_n h]; exact kN j h) (fun j h => by rw [uZ_n (by omega)]; exact kA j h) (fun j h => by rw [uZ_n (by omega)]; exact kO j h) (by omega)
          · have hfull := se_full (fco := fco) ((show mm = 400 by omega) ▸ kS) (by omega) hX
            refine g_iconst C std_M_settle_49 ?_
            exact hret _ _ _ ((uZ ND ((d : Nat) : Int) mm), NA, NO) (⟨by rw [bI_f hfull], fun j h => by dsimp only; rw [uZ_n h]; exact kN j h, kA, kO, fun q => absurd q hfull⟩) (by decide) std_M_settle_50
  obtain ⟨nn0, hnn0⟩ : ∃ nn0 : Nat, (11767 - 0) < (nn0 : Int) := z_nat _
  exact L13 nn0 0 (11767 * ((d : Nat) : Int)) 0 gnd gna gno (by omega) (by omega) (se_0) (fun _ _ => rfl) (fun _ _ => rfl) (fun _ _ => rfl) hnn0

