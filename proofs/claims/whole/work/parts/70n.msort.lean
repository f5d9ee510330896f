/-! the model: sort, join -/
abbrev sty_M_sort : MethodName := ⟨"StateTablesModel", "sort", "()V"⟩
abbrev stc_M_sort : ByteArray := prog_7_method_38_code
theorem sth_M_sort : (sty_M_sort).cls ≠ "java/lang/invoke/MethodHandle" ∧ (sty_M_sort).cls ≠ "java/lang/invoke/VarHandle" ∧ (parseMethodDescriptor (sty_M_sort).desc).map (fun d => d.parameters.length) = some 0 := by decide +kernel
theorem std_M_sort_0 : decode stc_M_sort 0 = .ok (.iconst 1, 1) := by decide +kernel
theorem std_M_sort_1 : decode stc_M_sort 1 = .ok (.istore_n 1, 1) := by decide +kernel
theorem std_M_sort_2 : decode stc_M_sort 2 = .ok (.iload_n 1, 1) := by decide +kernel
theorem std_M_sort_3 : decode stc_M_sort 3 = .ok (.aload_n 0, 1) := by decide +kernel
theorem std_M_sort_4 : decode stc_M_sort 4 = .ok (.getfield 175, 3) := by decide +kernel
theorem std_M_sort_7 : decode stc_M_sort 7 = .ok (.if_icmp .ge 58, 3) := by decide +kernel
theorem std_M_sort_65 : decode stc_M_sort 65 = .ok (.return_, 1) := by decide +kernel
theorem std_M_sort_10 : decode stc_M_sort 10 = .ok (.aload_n 0, 1) := by decide +kernel
theorem std_M_sort_11 : decode stc_M_sort 11 = .ok (.iload_n 1, 1) := by decide +kernel
theorem std_M_sort_12 : decode stc_M_sort 12 = .ok (.sipush 799, 3) := by decide +kernel
theorem std_M_sort_15 : decode stc_M_sort 15 = .ok (.invokevirtual 181, 3) := by decide +kernel
theorem kw_4_78 : Cond.code sty_M_move stc_M_move 3 none ∈ stGW := st_t4 (List.mem_of_getElem? (i := 78) (by decide +kernel)) (by decide +kernel)
theorem kw_4_75 : Cond.methodLink "StateTablesModel" 181 (sty_M_move) ∈ stGW := st_t4 (List.mem_of_getElem? (i := 75) (by decide +kernel)) (by decide +kernel)
theorem kw_4_77 : Cond.instanceMethod (sty_M_move) ∈ stGW := st_t4 (List.mem_of_getElem? (i := 77) (by decide +kernel)) (by decide +kernel)
theorem kw_0_31 : Cond.selects "StateTablesModel" (sty_M_move) (sty_M_move) ∈ stGW := st_t0 (List.mem_of_getElem? (i := 31) (by decide +kernel)) (by decide +kernel)
theorem std_M_sort_18 : decode stc_M_sort 18 = .ok (.iload_n 1, 1) := by decide +kernel
theorem std_M_sort_19 : decode stc_M_sort 19 = .ok (.istore_n 2, 1) := by decide +kernel
theorem std_M_sort_20 : decode stc_M_sort 20 = .ok (.iload_n 2, 1) := by decide +kernel
theorem std_M_sort_21 : decode stc_M_sort 21 = .ok (.ifCond .le 30, 3) := by decide +kernel
theorem std_M_sort_51 : decode stc_M_sort 51 = .ok (.aload_n 0, 1) := by decide +kernel
theorem std_M_sort_52 : decode stc_M_sort 52 = .ok (.sipush 799, 3) := by decide +kernel
theorem std_M_sort_55 : decode stc_M_sort 55 = .ok (.iload_n 2, 1) := by decide +kernel
theorem std_M_sort_56 : decode stc_M_sort 56 = .ok (.invokevirtual 181, 3) := by decide +kernel
theorem std_M_sort_59 : decode stc_M_sort 59 = .ok (.iinc 1 1, 3) := by decide +kernel
theorem std_M_sort_62 : decode stc_M_sort 62 = .ok (.goto (-60), 3) := by decide +kernel
theorem std_M_sort_24 : decode stc_M_sort 24 = .ok (.aload_n 0, 1) := by decide +kernel
theorem std_M_sort_25 : decode stc_M_sort 25 = .ok (.iload_n 2, 1) := by decide +kernel
theorem std_M_sort_26 : decode stc_M_sort 26 = .ok (.iconst 1, 1) := by decide +kernel
theorem std_M_sort_27 : decode stc_M_sort 27 = .ok (.isub, 1) := by decide +kernel
theorem std_M_sort_28 : decode stc_M_sort 28 = .ok (.sipush 799, 3) := by decide +kernel
theorem std_M_sort_31 : decode stc_M_sort 31 = .ok (.invokevirtual 185, 3) := by decide +kernel
theorem kw_4_86 : Cond.code sty_M_order stc_M_order 4 (some .int) ∈ stGW := st_t4 (List.mem_of_getElem? (i := 86) (by decide +kernel)) (by decide +kernel)
theorem kw_4_83 : Cond.methodLink "StateTablesModel" 185 (sty_M_order) ∈ stGW := st_t4 (List.mem_of_getElem? (i := 83) (by decide +kernel)) (by decide +kernel)
theorem kw_4_85 : Cond.instanceMethod (sty_M_order) ∈ stGW := st_t4 (List.mem_of_getElem? (i := 85) (by decide +kernel)) (by decide +kernel)
theorem kw_0_33 : Cond.selects "StateTablesModel" (sty_M_order) (sty_M_order) ∈ stGW := st_t0 (List.mem_of_getElem? (i := 33) (by decide +kernel)) (by decide +kernel)
theorem std_M_sort_34 : decode stc_M_sort 34 = .ok (.ifCond .le 17, 3) := by decide +kernel
theorem std_M_sort_37 : decode stc_M_sort 37 = .ok (.aload_n 0, 1) := by decide +kernel
theorem std_M_sort_38 : decode stc_M_sort 38 = .ok (.iload_n 2, 1) := by decide +kernel
theorem std_M_sort_39 : decode stc_M_sort 39 = .ok (.iconst 1, 1) := by decide +kernel
theorem std_M_sort_40 : decode stc_M_sort 40 = .ok (.isub, 1) := by decide +kernel
theorem std_M_sort_41 : decode stc_M_sort 41 = .ok (.iload_n 2, 1) := by decide +kernel
theorem std_M_sort_42 : decode stc_M_sort 42 = .ok (.invokevirtual 181, 3) := by decide +kernel
theorem std_M_sort_45 : decode stc_M_sort 45 = .ok (.iinc 2 (-1), 3) := by decide +kernel
theorem std_M_sort_48 : decode stc_M_sort 48 = .ok (.goto (-28), 3) := by decide +kernel
set_option maxHeartbeats 4000000 in
set_option maxRecDepth 100000 in
theorem c_m_sort (l : Launch) (dC : Nat → ClassId) (dI : Nat → Nat → Nat) (cI cJ cZ : ClassId) (m0 : Nat) (k_ch : Nat) (k_co : Nat) (k_ua : Nat) (k_ub : Nat) (k_ba : Nat) (k_rt : Nat) (k_rf : Nat) (k_ct : Nat) (k_cf : Nat) (k_nd : Nat) (k_na : Nat) (k_no : Nat) (k_bt : Nat) (k_bc : Nat) (k_br : Nat) (k_pc : Nat) (k_pr : Nat) (k_la : Nat) (k_lb : Nat) (k_ha : Nat) (k_hb : Nat) (k_ls : Nat) (k_wc : Nat) (HM : Prop) (bg : Int) (pn : Int) (wd : Int) (mg : Int) (mw : Int) (mc : Int) (steps : Int) (fle : Int → Int) (fmo : Int → Int) (VV : Int → Int) (d2 : Int) (kw : 0 ≤ wd ∧ wd ≤ 400) (kV : ∀ i, 0 ≤ i → i < wd → WN d2 (VV i)) (kdd : d2 ≤ 12000) : ∀ sz, Met l sty_M_sort (Cond.code sty_M_sort stc_M_sort 3 none :: stGW) ({ frames := 1, cells := 0, slots := 0, locals := 23 } : Room) (va_Pc [.ref m0] (zPre (dC, dI) stCl [(cI, .int), (cJ, .long), (cZ, .boolean)] st_nw [(m0, .inr (5, [.int (iI 0), .int (iI steps), .ref k_ch, .ref k_co, .ref k_ua, .ref k_ub, .ref k_ba, .int (iI (fle 0)), .int (iI (fle 1)), .int (iI (fmo 0)), .int (iI (fmo 1)), .int (iI (bI HM)), .ref k_rt, .ref k_rf, .ref k_ct, .ref k_cf, .ref k_nd, .ref k_na, .ref k_no, .ref k_bt, .ref k_bc, .ref k_br, .int (iI bg), .int (iI pn), .ref k_pc, .ref k_pr, .ref k_la, .ref k_lb, .ref k_ha, .ref k_hb, .ref k_ls, .ref k_wc, .int (iI wd), .int (iI mg), .int (iI mw), .int (iI mc)])), (k_la, .inl (cI, aI 800 (fA VV))), (k_lb, .inl (cI, aI 800 (fB VV))), (k_ha, .inl (cI, aI 800 (fC VV))), (k_hb, .inl (cI, aI 800 (fD VV))), (k_ls, .inl (cI, aI 800 (fL VV))), (k_wc, .inl (cI, aI 800 (fW VV)))] sz)) (va_Qv (fun (u : (Int → Int)) => SO VV u wd) (zPost (dC, dI) stCl [(cI, .int), (cJ, .long), (cZ, .boolean)] [(m0, .inr (5, [.int (iI 0), .int (iI steps), .ref k_ch, .ref k_co, .ref k_ua, .ref k_ub, .ref k_ba, .int (iI (fle 0)), .int (iI (fle 1)), .int (iI (fmo 0)), .int (iI (fmo 1)), .int (iI (bI HM)), .ref k_rt, .ref k_rf, .ref k_ct, .ref k_cf, .ref k_nd, .ref k_na, .ref k_no, .ref k_bt, .ref k_bc, .ref k_br, .int (iI bg), .int (iI pn), .ref k_pc, .ref k_pr, .ref k_la, .ref k_lb, .ref k_ha, .ref k_hb, .ref k_ls, .ref k_wc, .int (iI wd), .int (iI mg), .int (iI mw), .int (iI mc)])), (k_la, .inl (cI, aI 800 (fA VV))), (k_lb, .inl (cI, aI 800 (fB VV))), (k_ha, .inl (cI, aI 800 (fC VV))), (k_hb, .inl (cI, aI 800 (fD VV))), (k_ls, .inl (cI, aI 800 (fL VV))), (k_wc, .inl (cI, aI 800 (fW VV)))] sz (fun u : (Int → Int) => [(m0, .inr (5, [.int (iI 0), .int (iI steps), .ref k_ch, .ref k_co, .ref k_ua, .ref k_ub, .ref k_ba, .int (iI (fle 0)), .int (iI (fle 1)), .int (iI (fmo 0)), .int (iI (fmo 1)), .int (iI (bI HM)), .ref k_rt, .ref k_rf, .ref k_ct, .ref k_cf, .ref k_nd, .ref k_na, .ref k_no, .ref k_bt, .ref k_bc, .ref k_br, .int (iI bg), .int (iI pn), .ref k_pc, .ref k_pr, .ref k_la, .ref k_lb, .ref k_ha, .ref k_hb, .ref k_ls, .ref k_wc, .int (iI wd), .int (iI mg), .int (iI mw), .int (iI mc)])), (k_la, .inl (cI, aI 800 (fA u))), (k_lb, .inl (cI, aI 800 (fB u))), (k_ha, .inl (cI, aI 800 (fC u))), (k_hb, .inl (cI, aI 800 (fD u))), (k_ls, .inl (cI, aI 800 (fL u))), (k_wc, .inl (cI, aI 800 (fW u)))])) (va_A [(m0, .inr (5, [.int (iI 0), .int (iI steps), .ref k_ch, .ref k_co, .ref k_ua, .ref k_ub, .ref k_ba, .int (iI (fle 0)), .int (iI (fle 1)), .int (iI (fmo 0)), .int (iI (fmo 1)), .int (iI (bI HM)), .ref k_rt, .ref k_rf, .ref k_ct, .ref k_cf, .ref k_nd, .ref k_na, .ref k_no, .ref k_bt, .ref k_bc, .ref k_br, .int (iI bg), .int (iI pn), .ref k_pc, .ref k_pr, .ref k_la, .ref k_lb, .ref k_ha, .ref k_hb, .ref k_ls, .ref k_wc, .int (iI wd), .int (iI mg), .int (iI mw), .int (iI mc)])), (k_la, .inl (cI, aI 800 (fA VV))), (k_lb, .inl (cI, aI 800 (fB VV))), (k_ha, .inl (cI, aI 800 (fC VV))), (k_hb, .inl (cI, aI 800 (fD VV))), (k_ls, .inl (cI, aI 800 (fL VV))), (k_wc, .inl (cI, aI 800 (fW VV)))] sz)) 0 0 (va_A [(m0, .inr (5, [.int (iI 0), .int (iI steps), .ref k_ch, .ref k_co, .ref k_ua, .ref k_ub, .ref k_ba, .int (iI (fle 0)), .int (iI (fle 1)), .int (iI (fmo 0)), .int (iI (fmo 1)), .int (iI (bI HM)), .ref k_rt, .ref k_rf, .ref k_ct, .ref k_cf, .ref k_nd, .ref k_na, .ref k_no, .ref k_bt, .ref k_bc, .ref k_br, .int (iI bg), .int (iI pn), .ref k_pc, .ref k_pr, .ref k_la, .ref k_lb, .ref k_ha, .ref k_hb, .ref k_ls, .ref k_wc, .int (iI wd), .int (iI mg), .int (iI mw), .int (iI mc)])), (k_la, .inl (cI, aI 800 (fA VV))), (k_lb, .inl (cI, aI 800 (fB VV))), (k_ha, .inl (cI, aI 800 (fC VV))), (k_hb, .inl (cI, aI 800 (fD VV))), (k_ls, .inl (cI, aI 800 (fL VV))), (k_wc, .inl (cI, aI 800 (fW VV)))] sz) := by
  refine met_v (by decide) rfl (Nat.le_of_ble_eq_true rfl) ?_
  intro p e s m below meth c A Q C hmn hret
  refine g_iconst C std_M_sort_0 ?_
  refine g_istore_n C (lv' := [(1, .int (iI 1)), (0, .ref m0)]) std_M_sort_1 (by decide) rfl ?_
  have L2 : ∀ (nn2 : Nat) (x : Int) (TT : Int → Int), (1 ≤ x ∧ (x ≤ wd ∨ x = 1)) → (∀ i j, 0 ≤ i → i < j → j < x → TT i ≤ TT j) → (∀ v, ctZ TT v wd = ctZ VV v wd) → (wd + 1 - x) < (nn2 : Int) → G p l e ({ frames := 1, cells := 0, slots := 0, locals := 23 } : Room) s m ([.ref m0] : List Value).toArray below meth c (dC, dI) stCl 3 A 0 0 Q [(m0, .inr (5, [.int (iI 0), .int (iI steps), .ref k_ch, .ref k_co, .ref k_ua, .ref k_ub, .ref k_ba, .int (iI (fle 0)), .int (iI (fle 1)), .int (iI (fmo 0)), .int (iI (fmo 1)), .int (iI (bI HM)), .ref k_rt, .ref k_rf, .ref k_ct, .ref k_cf, .ref k_nd, .ref k_na, .ref k_no, .ref k_bt, .ref k_bc, .ref k_br, .int (iI bg), .int (iI pn), .ref k_pc, .ref k_pr, .ref k_la, .ref k_lb, .ref k_ha, .ref k_hb, .ref k_ls, .ref k_wc, .int (iI wd), .int (iI mg), .int (iI mw), .int (iI mc)])), (k_la, .inl (cI, aI 800 (fA TT))), (k_lb, .inl (cI, aI 800 (fB TT))), (k_ha, .inl (cI, aI 800 (fC TT))), (k_hb, .inl (cI, aI 800 (fD TT))), (k_ls, .inl (cI, aI 800 (fL TT))), (k_wc, .inl (cI, aI 800 (fW TT)))] 2 [(1, .int (iI x)), (0, .ref m0)] [] := by
    intro nn2
    induction nn2 with
    | zero =>
      intro x TT kx kS kct hnn2
      exact absurd hnn2 (by omega)
    | succ nn2 ih2 =>
      intro x TT kx kS kct hnn2
      refine g_iload_n C 0 std_M_sort_2 rfl ?_
      refine g_aload_n C 1 std_M_sort_3 rfl ?_
      refine g_get C (st_sub sti_M) 0 rfl rfl 32 (by decide) (List.mem_cons_of_mem _ kw_3_98) rfl rfl std_M_sort_4 ?_
      refine g_icmp_ge (tgt := 65) C std_M_sort_7 (by decide) ⟨by omega, by omega⟩ ⟨by omega, by omega⟩ (fun c1 => ?_) (fun c1 => ?_)
      · exact hret _ _ TT (⟨fun i j h1 h2 h3 => kS i j h1 h2 (by omega), kct⟩) std_M_sort_65
      · refine g_aload_n C 1 std_M_sort_10 rfl ?_
        refine g_iload_n C 0 std_M_sort_11 rfl ?_
        refine g_sipush C std_M_sort_12 (by decide) ?_
        refine g_V_v (wc := [(m0, .inr (5, [.int (iI 0), .int (iI steps), .ref k_ch, .ref k_co, .ref k_ua, .ref k_ub, .ref k_ba, .int (iI (fle 0)), .int (iI (fle 1)), .int (iI (fmo 0)), .int (iI (fmo 1)), .int (iI (bI HM)), .ref k_rt, .ref k_rf, .ref k_ct, .ref k_cf, .ref k_nd, .ref k_na, .ref k_no, .ref k_bt, .ref k_bc, .ref k_br, .int (iI bg), .int (iI pn), .ref k_pc, .ref k_pr, .ref k_la, .ref k_lb, .ref k_ha, .ref k_hb, .ref k_ls, .ref k_wc, .int (iI wd), .int (iI mg), .int (iI mw), .int (iI mc)])), (k_la, .inl (cI, aI 800 (fA TT))), (k_lb, .inl (cI, aI 800 (fB TT))), (k_ha, .inl (cI, aI 800 (fC TT))), (k_hb, .inl (cI, aI 800 (fD TT))), (k_ls, .inl (cI, aI 800 (fL TT))), (k_wc, .inl (cI, aI 800 (fW TT)))]) (wr := []) (rest := []) C (c_m_move l dC dI cI cJ cZ m0 k_ch k_co k_ua k_ub k_ba k_rt k_rf k_ct k_cf k_nd k_na k_no k_bt k_bc k_br k_pc k_pr k_la k_lb k_ha k_hb k_ls k_wc HM bg pn wd mg mw mc steps fle fmo TT x 799 (by omega) (by omega)) (st_cV C kw_4_78 kw_4_75 kw_1_6 kw_4_77 kw_0_31 sth_M_move ⟨Nat.le_of_ble_eq_true rfl, Nat.le_of_ble_eq_true rfl⟩) 0 rfl rfl rfl rfl (Nat.le_of_ble_eq_true rfl) std_M_sort_15 ⟨Nat.le_of_ble_eq_true rfl, Nat.le_of_ble_eq_true rfl⟩ [0, 1, 2, 3, 4, 5, 6] [] rfl rfl rfl rfl (by decide) (fun u3 h4 => ?_)
        refine g_ws (ws' := [(m0, .inr (5, [.int (iI 0), .int (iI steps), .ref k_ch, .ref k_co, .ref k_ua, .ref k_ub, .ref k_ba, .int (iI (fle 0)), .int (iI (fle 1)), .int (iI (fmo 0)), .int (iI (fmo 1)), .int (iI (bI HM)), .ref k_rt, .ref k_rf, .ref k_ct, .ref k_cf, .ref k_nd, .ref k_na, .ref k_no, .ref k_bt, .ref k_bc, .ref k_br, .int (iI bg), .int (iI pn), .ref k_pc, .ref k_pr, .ref k_la, .ref k_lb, .ref k_ha, .ref k_hb, .ref k_ls, .ref k_wc, .int (iI wd), .int (iI mg), .int (iI mw), .int (iI mc)])), (k_la, .inl (cI, aI 800 (fA (uZ TT 799 (TT x))))), (k_lb, .inl (cI, aI 800 (fB (uZ TT 799 (TT x))))), (k_ha, .inl (cI, aI 800 (fC (uZ TT 799 (TT x))))), (k_hb, .inl (cI, aI 800 (fD (uZ TT 799 (TT x))))), (k_ls, .inl (cI, aI 800 (fL (uZ TT 799 (TT x))))), (k_wc, .inl (cI, aI 800 (fW (uZ TT 799 (TT x)))))]) rfl ?_
        refine g_iload_n C 0 std_M_sort_18 rfl ?_
        refine g_istore_n C (lv' := [(2, .int (iI x)), (1, .int (iI x)), (0, .ref m0)]) std_M_sort_19 (by decide) rfl ?_
        have L20 : ∀ (nn20 : Nat) (y : Int) (T2 : Int → Int), IS TT T2 x y → y < (nn20 : Int) → G p l e ({ frames := 1, cells := 0, slots := 0, locals := 23 } : Room) s m ([.ref m0] : List Value).toArray below meth c (dC, dI) stCl 3 A 0 0 Q [(m0, .inr (5, [.int (iI 0), .int (iI steps), .ref k_ch, .ref k_co, .ref k_ua, .ref k_ub, .ref k_ba, .int (iI (fle 0)), .int (iI (fle 1)), .int (iI (fmo 0)), .int (iI (fmo 1)), .int (iI (bI HM)), .ref k_rt, .ref k_rf, .ref k_ct, .ref k_cf, .ref k_nd, .ref k_na, .ref k_no, .ref k_bt, .ref k_bc, .ref k_br, .int (iI bg), .int (iI pn), .ref k_pc, .ref k_pr, .ref k_la, .ref k_lb, .ref k_ha, .ref k_hb, .ref k_ls, .ref k_wc, .int (iI wd), .int (iI mg), .int (iI mw), .int (iI mc)])), (k_la, .inl (cI, aI 800 (fA T2))), (k_lb, .inl (cI, aI 800 (fB T2))), (k_ha, .inl (cI, aI 800 (fC T2))), (k_hb, .inl (cI, aI 800 (fD T2))), (k_ls, .inl (cI, aI 800 (fL T2))), (k_wc, .inl (cI, aI 800 (fW T2)))] 20 [(2, .int (iI y)), (1, .int (iI x)), (0, .ref m0)] [] := by
          intro nn20
          induction nn20 with
          | zero =>
            intro y T2 kI hnn20
            exact absurd hnn20 (by have := kI.1; omega)
          | succ nn20 ih20 =>
            intro y T2 kI hnn20
            have hy := kI.1
            refine g_iload_n C 0 std_M_sort_20 rfl ?_
            refine g_if_le (tgt := 51) C std_M_sort_21 (by decide) ⟨by omega, by omega⟩ (fun c5 => ?_) (fun c5 => ?_)
            · refine g_aload_n C 2 std_M_sort_51 rfl ?_
              refine g_sipush C std_M_sort_52 (by decide) ?_
              refine g_iload_n C 0 std_M_sort_55 rfl ?_
              refine g_V_v (wc := [(m0, .inr (5, [.int (iI 0), .int (iI steps), .ref k_ch, .ref k_co, .ref k_ua, .ref k_ub, .ref k_ba, .int (iI (fle 0)), .int (iI (fle 1)), .int (iI (fmo 0)), .int (iI (fmo 1)), .int (iI (bI HM)), .ref k_rt, .ref k_rf, .ref k_ct, .ref k_cf, .ref k_nd, .ref k_na, .ref k_no, .ref k_bt, .ref k_bc, .ref k_br, .int (iI bg), .int (iI pn), .ref k_pc, .ref k_pr, .ref k_la, .ref k_lb, .ref k_ha, .ref k_hb, .ref k_ls, .ref k_wc, .int (iI wd), .int (iI mg), .int (iI mw), .int (iI mc)])), (k_la, .inl (cI, aI 800 (fA T2))), (k_lb, .inl (cI, aI 800 (fB T2))), (k_ha, .inl (cI, aI 800 (fC T2))), (k_hb, .inl (cI, aI 800 (fD T2))), (k_ls, .inl (cI, aI 800 (fL T2))), (k_wc, .inl (cI, aI 800 (fW T2)))]) (wr := []) (rest := []) C (c_m_move l dC dI cI cJ cZ m0 k_ch k_co k_ua k_ub k_ba k_rt k_rf k_ct k_cf k_nd k_na k_no k_bt k_bc k_br k_pc k_pr k_la k_lb k_ha k_hb k_ls k_wc HM bg pn wd mg mw mc steps fle fmo T2 799 y (by omega) (by omega)) (st_cV C kw_4_78 kw_4_75 kw_1_6 kw_4_77 kw_0_31 sth_M_move ⟨Nat.le_of_ble_eq_true rfl, Nat.le_of_ble_eq_true rfl⟩) 0 rfl rfl rfl rfl (Nat.le_of_ble_eq_true rfl) std_M_sort_56 ⟨Nat.le_of_ble_eq_true rfl, Nat.le_of_ble_eq_true rfl⟩ [0, 1, 2, 3, 4, 5, 6] [] rfl rfl rfl rfl (by decide) (fun u7 h8 => ?_)
              refine g_ws (ws' := [(m0, .inr (5, [.int (iI 0), .int (iI steps), .ref k_ch, .ref k_co, .ref k_ua, .ref k_ub, .ref k_ba, .int (iI (fle 0)), .int (iI (fle 1)), .int (iI (fmo 0)), .int (iI (fmo 1)), .int (iI (bI HM)), .ref k_rt, .ref k_rf, .ref k_ct, .ref k_cf, .ref k_nd, .ref k_na, .ref k_no, .ref k_bt, .ref k_bc, .ref k_br, .int (iI bg), .int (iI pn), .ref k_pc, .ref k_pr, .ref k_la, .ref k_lb, .ref k_ha, .ref k_hb, .ref k_ls, .ref k_wc, .int (iI wd), .int (iI mg), .int (iI mw), .int (iI mc)])), (k_la, .inl (cI, aI 800 (fA (uZ T2 y (T2 799))))), (k_lb, .inl (cI, aI 800 (fB (uZ T2 y (T2 799))))), (k_ha, .inl (cI, aI 800 (fC (uZ T2 y (T2 799))))), (k_hb, .inl (cI, aI 800 (fD (uZ T2 y (T2 799))))), (k_ls, .inl (cI, aI 800 (fL (uZ T2 y (T2 799))))), (k_wc, .inl (cI, aI 800 (fW (uZ T2 y (T2 799)))))]) rfl ?_
              have hIE := is_e kI ⟨by omega, by omega, by omega⟩ kS kct (Or.inl (by omega))
              refine g_iinc C (lv' := [(1, .int (iI (x + 1))), (2, .int (iI y)), (0, .ref m0)]) 1 std_M_sort_59 rfl (by decide) rfl ?_
              refine g_goto (tgt := 2) C std_M_sort_62 (by decide) ?_
              refine g_lv (lv' := [(1, .int (iI (x + 1))), (0, .ref m0)]) [0, 2] rfl ?_
              refine g_wide (k := 0) (n := 0) (Nat.le_of_ble_eq_true rfl) (Nat.le_of_ble_eq_true rfl) ?_
              exact ih2 (x + 1) (uZ T2 y (T2 799)) (by omega) (hIE.1) (hIE.2) (by omega)
            · have hWT := ct_p (P := WN d2) kct kV
              have hwy := wn_m (hWT (y - 1) (by omega) (by omega))
              have hwx := wn_m (hWT x (by omega) (by omega))
              have hy1 : fW T2 (y - 1) = fW TT (y - 1) := by show T2 (y - 1) / 1073741824 - 12000 = TT (y - 1) / 1073741824 - 12000; rw [kI.2.1 (y - 1) (by omega) (by omega)]
              have hy2 : fW T2 799 = fW TT x := by show T2 799 / 1073741824 - 12000 = TT x / 1073741824 - 12000; rw [kI.2.2.2.2]
              refine g_aload_n C 2 std_M_sort_24 rfl ?_
              refine g_iload_n C 0 std_M_sort_25 rfl ?_
              refine g_iconst C std_M_sort_26 ?_
              refine g_isub C std_M_sort_27 ?_
              refine g_sipush C std_M_sort_28 (by decide) ?_
              refine g_V_i (wc := [(m0, .inr (5, [.int (iI 0), .int (iI steps), .ref k_ch, .ref k_co, .ref k_ua, .ref k_ub, .ref k_ba, .int (iI (fle 0)), .int (iI (fle 1)), .int (iI (fmo 0)), .int (iI (fmo 1)), .int (iI (bI HM)), .ref k_rt, .ref k_rf, .ref k_ct, .ref k_cf, .ref k_nd, .ref k_na, .ref k_no, .ref k_bt, .ref k_bc, .ref k_br, .int (iI bg), .int (iI pn), .ref k_pc, .ref k_pr, .ref k_la, .ref k_lb, .ref k_ha, .ref k_hb, .ref k_ls, .ref k_wc, .int (iI wd), .int (iI mg), .int (iI mw), .int (iI mc)])), (k_la, .inl (cI, aI 800 (fA T2))), (k_lb, .inl (cI, aI 800 (fB T2))), (k_ha, .inl (cI, aI 800 (fC T2))), (k_hb, .inl (cI, aI 800 (fD T2))), (k_ls, .inl (cI, aI 800 (fL T2))), (k_wc, .inl (cI, aI 800 (fW T2)))]) (wr := []) (rest := []) C (c_m_order l dC dI cI cJ cZ m0 k_ch k_co k_ua k_ub k_ba k_rt k_rf k_ct k_cf k_nd k_na k_no k_bt k_bc k_br k_pc k_pr k_la k_lb k_ha k_hb k_ls k_wc HM bg pn wd mg mw mc steps fle fmo T2 (y - 1) 799 (⟨⟨by omega, by omega⟩, by omega, by omega⟩) (⟨⟨by omega, by omega⟩, by omega, by omega⟩)) (st_cV C kw_4_86 kw_4_83 kw_1_6 kw_4_85 kw_0_33 sth_M_order ⟨Nat.le_of_ble_eq_true rfl, Nat.le_of_ble_eq_true rfl⟩) 0 rfl rfl rfl rfl (Nat.le_of_ble_eq_true rfl) std_M_sort_31 ⟨Nat.le_of_ble_eq_true rfl, Nat.le_of_ble_eq_true rfl⟩ [0, 1, 2, 3, 4, 5, 6] [] rfl rfl rfl rfl (by decide) (fun r9 u10 h11 => ?_)
              obtain ⟨h11r, h11p⟩ := h11
              subst h11r
              refine g_ws (ws' := [(m0, .inr (5, [.int (iI 0), .int (iI steps), .ref k_ch, .ref k_co, .ref k_ua, .ref k_ub, .ref k_ba, .int (iI (fle 0)), .int (iI (fle 1)), .int (iI (fmo 0)), .int (iI (fmo 1)), .int (iI (bI HM)), .ref k_rt, .ref k_rf, .ref k_ct, .ref k_cf, .ref k_nd, .ref k_na, .ref k_no, .ref k_bt, .ref k_bc, .ref k_br, .int (iI bg), .int (iI pn), .ref k_pc, .ref k_pr, .ref k_la, .ref k_lb, .ref k_ha, .ref k_hb, .ref k_ls, .ref k_wc, .int (iI wd), .int (iI mg), .int (iI mw), .int (iI mc)])), (k_la, .inl (cI, aI 800 (fA T2))), (k_lb, .inl (cI, aI 800 (fB T2))), (k_ha, .inl (cI, aI 800 (fC T2))), (k_hb, .inl (cI, aI 800 (fD T2))), (k_ls, .inl (cI, aI 800 (fL T2))), (k_wc, .inl (cI, aI 800 (fW T2)))]) rfl ?_
              refine g_if_le (tgt := 51) C std_M_sort_34 (by decide) ⟨by omega, by omega⟩ (fun c12 => ?_) (fun c12 => ?_)
              · refine g_aload_n C 2 std_M_sort_51 rfl ?_
                refine g_sipush C std_M_sort_52 (by decide) ?_
                refine g_iload_n C 0 std_M_sort_55 rfl ?_
                refine g_V_v (wc := [(m0, .inr (5, [.int (iI 0), .int (iI steps), .ref k_ch, .ref k_co, .ref k_ua, .ref k_ub, .ref k_ba, .int (iI (fle 0)), .int (iI (fle 1)), .int (iI (fmo 0)), .int (iI (fmo 1)), .int (iI (bI HM)), .ref k_rt, .ref k_rf, .ref k_ct, .ref k_cf, .ref k_nd, .ref k_na, .ref k_no, .ref k_bt, .ref k_bc, .ref k_br, .int (iI bg), .int (iI pn), .ref k_pc, .ref k_pr, .ref k_la, .ref k_lb, .ref k_ha, .ref k_hb, .ref k_ls, .ref k_wc, .int (iI wd), .int (iI mg), .int (iI mw), .int (iI mc)])), (k_la, .inl (cI, aI 800 (fA T2))), (k_lb, .inl (cI, aI 800 (fB T2))), (k_ha, .inl (cI, aI 800 (fC T2))), (k_hb, .inl (cI, aI 800 (fD T2))), (k_ls, .inl (cI, aI 800 (fL T2))), (k_wc, .inl (cI, aI 800 (fW T2)))]) (wr := []) (rest := []) C (c_m_move l dC dI cI cJ cZ m0 k_ch k_co k_ua k_ub k_ba k_rt k_rf k_ct k_cf k_nd k_na k_no k_bt k_bc k_br k_pc k_pr k_la k_lb k_ha k_hb k_ls k_wc HM bg pn wd mg mw mc steps fle fmo T2 799 y (by omega) (by omega)) (st_cV C kw_4_78 kw_4_75 kw_1_6 kw_4_77 kw_0_31 sth_M_move ⟨Nat.le_of_ble_eq_true rfl, Nat.le_of_ble_eq_true rfl⟩) 0 rfl rfl rfl rfl (Nat.le_of_ble_eq_true rfl) std_M_sort_56 ⟨Nat.le_of_ble_eq_true rfl, Nat.le_of_ble_eq_true rfl⟩ [0, 1, 2, 3, 4, 5, 6] [] rfl rfl rfl rfl (by decide) (fun u14 h15 => ?_)
                refine g_ws (ws' := [(m0, .inr (5, [.int (iI 0), .int (iI steps), .ref k_ch, .ref k_co, .ref k_ua, .ref k_ub, .ref k_ba, .int (iI (fle 0)), .int (iI (fle 1)), .int (iI (fmo 0)), .int (iI (fmo 1)), .int (iI (bI HM)), .ref k_rt, .ref k_rf, .ref k_ct, .ref k_cf, .ref k_nd, .ref k_na, .ref k_no, .ref k_bt, .ref k_bc, .ref k_br, .int (iI bg), .int (iI pn), .ref k_pc, .ref k_pr, .ref k_la, .ref k_lb, .ref k_ha, .ref k_hb, .ref k_ls, .ref k_wc, .int (iI wd), .int (iI mg), .int (iI mw), .int (iI mc)])), (k_la, .inl (cI, aI 800 (fA (uZ T2 y (T2 799))))), (k_lb, .inl (cI, aI 800 (fB (uZ T2 y (T2 799))))), (k_ha, .inl (cI, aI 800 (fC (uZ T2 y (T2 799))))), (k_hb, .inl (cI, aI 800 (fD (uZ T2 y (T2 799))))), (k_ls, .inl (cI, aI 800 (fL (uZ T2 y (T2 799))))), (k_wc, .inl (cI, aI 800 (fW (uZ T2 y (T2 799)))))]) rfl ?_
                have hIE := is_e kI ⟨by omega, by omega, by omega⟩ kS kct (Or.inr (by have hz := h11p.1; omega))
                refine g_iinc C (lv' := [(1, .int (iI (x + 1))), (2, .int (iI y)), (0, .ref m0)]) 1 std_M_sort_59 rfl (by decide) rfl ?_
                refine g_goto (tgt := 2) C std_M_sort_62 (by decide) ?_
                refine g_lv (lv' := [(1, .int (iI (x + 1))), (0, .ref m0)]) [0, 2] rfl ?_
                refine g_wide (k := 0) (n := 0) (Nat.le_of_ble_eq_true rfl) (Nat.le_of_ble_eq_true rfl) ?_
                exact ih2 (x + 1) (uZ T2 y (T2 799)) (by omega) (hIE.1) (hIE.2) (by omega)
              · refine g_aload_n C 2 std_M_sort_37 rfl ?_
                refine g_iload_n C 0 std_M_sort_38 rfl ?_
                refine g_iconst C std_M_sort_39 ?_
                refine g_isub C std_M_sort_40 ?_
                refine g_iload_n C 0 std_M_sort_41 rfl ?_
                refine g_V_v (wc := [(m0, .inr (5, [.int (iI 0), .int (iI steps), .ref k_ch, .ref k_co, .ref k_ua, .ref k_ub, .ref k_ba, .int (iI (fle 0)), .int (iI (fle 1)), .int (iI (fmo 0)), .int (iI (fmo 1)), .int (iI (bI HM)), .ref k_rt, .ref k_rf, .ref k_ct, .ref k_cf, .ref k_nd, .ref k_na, .ref k_no, .ref k_bt, .ref k_bc, .ref k_br, .int (iI bg), .int (iI pn), .ref k_pc, .ref k_pr, .ref k_la, .ref k_lb, .ref k_ha, .ref k_hb, .ref k_ls, .ref k_wc, .int (iI wd), .int (iI mg), .int (iI mw), .int (iI mc)])), (k_la, .inl (cI, aI 800 (fA T2))), (k_lb, .inl (cI, aI 800 (fB T2))), (k_ha, .inl (cI, aI 800 (fC T2))), (k_hb, .inl (cI, aI 800 (fD T2))), (k_ls, .inl (cI, aI 800 (fL T2))), (k_wc, .inl (cI, aI 800 (fW T2)))]) (wr := []) (rest := []) C (c_m_move l dC dI cI cJ cZ m0 k_ch k_co k_ua k_ub k_ba k_rt k_rf k_ct k_cf k_nd k_na k_no k_bt k_bc k_br k_pc k_pr k_la k_lb k_ha k_hb k_ls k_wc HM bg pn wd mg mw mc steps fle fmo T2 (y - 1) y (by omega) (by omega)) (st_cV C kw_4_78 kw_4_75 kw_1_6 kw_4_77 kw_0_31 sth_M_move ⟨Nat.le_of_ble_eq_true rfl, Nat.le_of_ble_eq_true rfl⟩) 0 rfl rfl rfl rfl (Nat.le_of_ble_eq_true rfl) std_M_sort_42 ⟨Nat.le_of_ble_eq_true rfl, Nat.le_of_ble_eq_true rfl⟩ [0, 1, 2, 3, 4, 5, 6] [] rfl rfl rfl rfl (by decide) (fun u17 h18 => ?_)
                refine g_ws (ws' := [(m0, .inr (5, [.int (iI 0), .int (iI steps), .ref k_ch, .ref k_co, .ref k_ua, .ref k_ub, .ref k_ba, .int (iI (fle 0)), .int (iI (fle 1)), .int (iI (fmo 0)), .int (iI (fmo 1)), .int (iI (bI HM)), .ref k_rt, .ref k_rf, .ref k_ct, .ref k_cf, .ref k_nd, .ref k_na, .ref k_no, .ref k_bt, .ref k_bc, .ref k_br, .int (iI bg), .int (iI pn), .ref k_pc, .ref k_pr, .ref k_la, .ref k_lb, .ref k_ha, .ref k_hb, .ref k_ls, .ref k_wc, .int (iI wd), .int (iI mg), .int (iI mw), .int (iI mc)])), (k_la, .inl (cI, aI 800 (fA (uZ T2 y (T2 (y - 1)))))), (k_lb, .inl (cI, aI 800 (fB (uZ T2 y (T2 (y - 1)))))), (k_ha, .inl (cI, aI 800 (fC (uZ T2 y (T2 (y - 1)))))), (k_hb, .inl (cI, aI 800 (fD (uZ T2 y (T2 (y - 1)))))), (k_ls, .inl (cI, aI 800 (fL (uZ T2 y (T2 (y - 1)))))), (k_wc, .inl (cI, aI 800 (fW (uZ T2 y (T2 (y - 1))))))]) rfl ?_
                refine g_iinc C (lv' := [(2, .int (iI (y + (-1)))), (1, .int (iI x)), (0, .ref m0)]) 0 std_M_sort_45 rfl (by decide) rfl ?_
                refine g_goto (tgt := 20) C std_M_sort_48 (by decide) ?_
                refine g_wide (k := 0) (n := 0) (Nat.le_of_ble_eq_true rfl) (Nat.le_of_ble_eq_true rfl) ?_
                exact ih20 (y + (-1)) (uZ T2 y (T2 (y - 1))) (by rw [show y + (-1) = y - 1 by omega]; exact is_s kI (by omega) (by omega) (by have hz := h11p.1; omega)) (by have hy := kI.1; omega)
        refine g_wide (k := 0) (n := 0) (Nat.le_of_ble_eq_true rfl) (Nat.le_of_ble_eq_true rfl) ?_
        obtain ⟨nn0, hnn0⟩ : ∃ nn0 : Nat, x < (nn0 : Int) := z_nat _
        exact L20 nn0 x (uZ TT 799 (TT x)) (is_0 ⟨by omega, by omega⟩) hnn0
  obtain ⟨nn0, hnn0⟩ : ∃ nn0 : Nat, (wd + 1 - 1) < (nn0 : Int) := z_nat _
  exact L2 nn0 1 VV (by omega) (fun i j h1 h2 h3 => by omega) (fun _ => rfl) hnn0

abbrev sty_M_join : MethodName := ⟨"StateTablesModel", "join", "(I)V"⟩
abbrev stc_M_join : ByteArray := prog_7_method_39_code
theorem sth_M_join : (sty_M_join).cls ≠ "java/lang/invoke/MethodHandle" ∧ (sty_M_join).cls ≠ "java/lang/invoke/VarHandle" ∧ (parseMethodDescriptor (sty_M_join).desc).map (fun d => d.parameters.length) = some 1 := by decide +kernel
theorem std_M_join_0 : decode stc_M_join 0 = .ok (.iload_n 1, 1) := by decide +kernel
theorem std_M_join_1 : decode stc_M_join 1 = .ok (.iconst 1, 1) := by decide +kernel
theorem std_M_join_2 : decode stc_M_join 2 = .ok (.isub, 1) := by decide +kernel
theorem std_M_join_3 : decode stc_M_join 3 = .ok (.istore_n 2, 1) := by decide +kernel
theorem std_M_join_4 : decode stc_M_join 4 = .ok (.iload_n 1, 1) := by decide +kernel
theorem std_M_join_5 : decode stc_M_join 5 = .ok (.istore_n 3, 1) := by decide +kernel
theorem std_M_join_6 : decode stc_M_join 6 = .ok (.iload_n 3, 1) := by decide +kernel
theorem std_M_join_7 : decode stc_M_join 7 = .ok (.aload_n 0, 1) := by decide +kernel
theorem std_M_join_8 : decode stc_M_join 8 = .ok (.getfield 175, 3) := by decide +kernel
theorem std_M_join_11 : decode stc_M_join 11 = .ok (.if_icmp .ge 208, 3) := by decide +kernel
theorem std_M_join_219 : decode stc_M_join 219 = .ok (.return_, 1) := by decide +kernel
theorem std_M_join_158 : decode stc_M_join 158 = .ok (.aload_n 0, 1) := by decide +kernel
theorem std_M_join_159 : decode stc_M_join 159 = .ok (.getfield 86, 3) := by decide +kernel
theorem std_M_join_162 : decode stc_M_join 162 = .ok (.iload_n 2, 1) := by decide +kernel
theorem std_M_join_163 : decode stc_M_join 163 = .ok (.aload_n 0, 1) := by decide +kernel
theorem std_M_join_164 : decode stc_M_join 164 = .ok (.getfield 86, 3) := by decide +kernel
theorem std_M_join_167 : decode stc_M_join 167 = .ok (.iload_n 2, 1) := by decide +kernel
theorem std_M_join_168 : decode stc_M_join 168 = .ok (.iaload, 1) := by decide +kernel
theorem std_M_join_169 : decode stc_M_join 169 = .ok (.aload_n 0, 1) := by decide +kernel
theorem std_M_join_170 : decode stc_M_join 170 = .ok (.getfield 86, 3) := by decide +kernel
theorem std_M_join_173 : decode stc_M_join 173 = .ok (.iload_n 3, 1) := by decide +kernel
theorem std_M_join_174 : decode stc_M_join 174 = .ok (.iaload, 1) := by decide +kernel
theorem std_M_join_175 : decode stc_M_join 175 = .ok (.ior, 1) := by decide +kernel
theorem std_M_join_176 : decode stc_M_join 176 = .ok (.iastore, 1) := by decide +kernel
theorem std_M_join_213 : decode stc_M_join 213 = .ok (.iinc 3 1, 3) := by decide +kernel
theorem std_M_join_216 : decode stc_M_join 216 = .ok (.goto (-210), 3) := by decide +kernel
theorem std_M_join_177 : decode stc_M_join 177 = .ok (.aload_n 0, 1) := by decide +kernel
theorem std_M_join_178 : decode stc_M_join 178 = .ok (.getfield 89, 3) := by decide +kernel
theorem std_M_join_181 : decode stc_M_join 181 = .ok (.iload_n 2, 1) := by decide +kernel
theorem std_M_join_182 : decode stc_M_join 182 = .ok (.aload_n 0, 1) := by decide +kernel
theorem std_M_join_183 : decode stc_M_join 183 = .ok (.getfield 89, 3) := by decide +kernel
theorem std_M_join_186 : decode stc_M_join 186 = .ok (.iload_n 3, 1) := by decide +kernel
theorem std_M_join_187 : decode stc_M_join 187 = .ok (.iaload, 1) := by decide +kernel
theorem std_M_join_188 : decode stc_M_join 188 = .ok (.aload_n 0, 1) := by decide +kernel
theorem std_M_join_189 : decode stc_M_join 189 = .ok (.getfield 89, 3) := by decide +kernel
theorem std_M_join_192 : decode stc_M_join 192 = .ok (.iload_n 2, 1) := by decide +kernel
theorem std_M_join_193 : decode stc_M_join 193 = .ok (.iaload, 1) := by decide +kernel
theorem std_M_join_194 : decode stc_M_join 194 = .ok (.if_icmp .ge 12, 3) := by decide +kernel
theorem std_M_join_206 : decode stc_M_join 206 = .ok (.aload_n 0, 1) := by decide +kernel
theorem std_M_join_207 : decode stc_M_join 207 = .ok (.getfield 89, 3) := by decide +kernel
theorem std_M_join_210 : decode stc_M_join 210 = .ok (.iload_n 2, 1) := by decide +kernel
theorem std_M_join_211 : decode stc_M_join 211 = .ok (.iaload, 1) := by decide +kernel
theorem std_M_join_212 : decode stc_M_join 212 = .ok (.iastore, 1) := by decide +kernel
theorem std_M_join_197 : decode stc_M_join 197 = .ok (.aload_n 0, 1) := by decide +kernel
theorem std_M_join_198 : decode stc_M_join 198 = .ok (.getfield 89, 3) := by decide +kernel
theorem std_M_join_201 : decode stc_M_join 201 = .ok (.iload_n 3, 1) := by decide +kernel
theorem std_M_join_202 : decode stc_M_join 202 = .ok (.iaload, 1) := by decide +kernel
theorem std_M_join_203 : decode stc_M_join 203 = .ok (.goto 9, 3) := by decide +kernel
theorem std_M_join_122 : decode stc_M_join 122 = .ok (.aload_n 0, 1) := by decide +kernel
theorem std_M_join_123 : decode stc_M_join 123 = .ok (.getfield 83, 3) := by decide +kernel
theorem std_M_join_126 : decode stc_M_join 126 = .ok (.iload_n 2, 1) := by decide +kernel
theorem std_M_join_127 : decode stc_M_join 127 = .ok (.aload_n 0, 1) := by decide +kernel
theorem std_M_join_128 : decode stc_M_join 128 = .ok (.getfield 83, 3) := by decide +kernel
theorem std_M_join_131 : decode stc_M_join 131 = .ok (.iload_n 3, 1) := by decide +kernel
theorem std_M_join_132 : decode stc_M_join 132 = .ok (.iaload, 1) := by decide +kernel
theorem std_M_join_133 : decode stc_M_join 133 = .ok (.aload_n 0, 1) := by decide +kernel
theorem std_M_join_134 : decode stc_M_join 134 = .ok (.getfield 83, 3) := by decide +kernel
theorem std_M_join_137 : decode stc_M_join 137 = .ok (.iload_n 2, 1) := by decide +kernel
theorem std_M_join_138 : decode stc_M_join 138 = .ok (.iaload, 1) := by decide +kernel
theorem std_M_join_139 : decode stc_M_join 139 = .ok (.if_icmp .le 12, 3) := by decide +kernel
theorem std_M_join_151 : decode stc_M_join 151 = .ok (.aload_n 0, 1) := by decide +kernel
theorem std_M_join_152 : decode stc_M_join 152 = .ok (.getfield 83, 3) := by decide +kernel
theorem std_M_join_155 : decode stc_M_join 155 = .ok (.iload_n 2, 1) := by decide +kernel
theorem std_M_join_156 : decode stc_M_join 156 = .ok (.iaload, 1) := by decide +kernel
theorem std_M_join_157 : decode stc_M_join 157 = .ok (.iastore, 1) := by decide +kernel
theorem std_M_join_142 : decode stc_M_join 142 = .ok (.aload_n 0, 1) := by decide +kernel
theorem std_M_join_143 : decode stc_M_join 143 = .ok (.getfield 83, 3) := by decide +kernel
theorem std_M_join_146 : decode stc_M_join 146 = .ok (.iload_n 3, 1) := by decide +kernel
theorem std_M_join_147 : decode stc_M_join 147 = .ok (.iaload, 1) := by decide +kernel
theorem std_M_join_148 : decode stc_M_join 148 = .ok (.goto 9, 3) := by decide +kernel
theorem std_M_join_86 : decode stc_M_join 86 = .ok (.aload_n 0, 1) := by decide +kernel
theorem std_M_join_87 : decode stc_M_join 87 = .ok (.getfield 80, 3) := by decide +kernel
theorem std_M_join_90 : decode stc_M_join 90 = .ok (.iload_n 2, 1) := by decide +kernel
theorem std_M_join_91 : decode stc_M_join 91 = .ok (.aload_n 0, 1) := by decide +kernel
theorem std_M_join_92 : decode stc_M_join 92 = .ok (.getfield 80, 3) := by decide +kernel
theorem std_M_join_95 : decode stc_M_join 95 = .ok (.iload_n 3, 1) := by decide +kernel
theorem std_M_join_96 : decode stc_M_join 96 = .ok (.iaload, 1) := by decide +kernel
theorem std_M_join_97 : decode stc_M_join 97 = .ok (.aload_n 0, 1) := by decide +kernel
theorem std_M_join_98 : decode stc_M_join 98 = .ok (.getfield 80, 3) := by decide +kernel
theorem std_M_join_101 : decode stc_M_join 101 = .ok (.iload_n 2, 1) := by decide +kernel
theorem std_M_join_102 : decode stc_M_join 102 = .ok (.iaload, 1) := by decide +kernel
theorem std_M_join_103 : decode stc_M_join 103 = .ok (.if_icmp .le 12, 3) := by decide +kernel
theorem std_M_join_115 : decode stc_M_join 115 = .ok (.aload_n 0, 1) := by decide +kernel
theorem std_M_join_116 : decode stc_M_join 116 = .ok (.getfield 80, 3) := by decide +kernel
theorem std_M_join_119 : decode stc_M_join 119 = .ok (.iload_n 2, 1) := by decide +kernel
theorem std_M_join_120 : decode stc_M_join 120 = .ok (.iaload, 1) := by decide +kernel
theorem std_M_join_121 : decode stc_M_join 121 = .ok (.iastore, 1) := by decide +kernel
theorem std_M_join_106 : decode stc_M_join 106 = .ok (.aload_n 0, 1) := by decide +kernel
theorem std_M_join_107 : decode stc_M_join 107 = .ok (.getfield 80, 3) := by decide +kernel
theorem std_M_join_110 : decode stc_M_join 110 = .ok (.iload_n 3, 1) := by decide +kernel
theorem std_M_join_111 : decode stc_M_join 111 = .ok (.iaload, 1) := by decide +kernel
theorem std_M_join_112 : decode stc_M_join 112 = .ok (.goto 9, 3) := by decide +kernel
theorem std_M_join_50 : decode stc_M_join 50 = .ok (.aload_n 0, 1) := by decide +kernel
theorem std_M_join_51 : decode stc_M_join 51 = .ok (.getfield 77, 3) := by decide +kernel
theorem std_M_join_54 : decode stc_M_join 54 = .ok (.iload_n 2, 1) := by decide +kernel
theorem std_M_join_55 : decode stc_M_join 55 = .ok (.aload_n 0, 1) := by decide +kernel
theorem std_M_join_56 : decode stc_M_join 56 = .ok (.getfield 77, 3) := by decide +kernel
theorem std_M_join_59 : decode stc_M_join 59 = .ok (.iload_n 3, 1) := by decide +kernel
theorem std_M_join_60 : decode stc_M_join 60 = .ok (.iaload, 1) := by decide +kernel
theorem std_M_join_61 : decode stc_M_join 61 = .ok (.aload_n 0, 1) := by decide +kernel
theorem std_M_join_62 : decode stc_M_join 62 = .ok (.getfield 77, 3) := by decide +kernel
theorem std_M_join_65 : decode stc_M_join 65 = .ok (.iload_n 2, 1) := by decide +kernel
theorem std_M_join_66 : decode stc_M_join 66 = .ok (.iaload, 1) := by decide +kernel
theorem std_M_join_67 : decode stc_M_join 67 = .ok (.if_icmp .ge 12, 3) := by decide +kernel
theorem std_M_join_79 : decode stc_M_join 79 = .ok (.aload_n 0, 1) := by decide +kernel
theorem std_M_join_80 : decode stc_M_join 80 = .ok (.getfield 77, 3) := by decide +kernel
theorem std_M_join_83 : decode stc_M_join 83 = .ok (.iload_n 2, 1) := by decide +kernel
theorem std_M_join_84 : decode stc_M_join 84 = .ok (.iaload, 1) := by decide +kernel
theorem std_M_join_85 : decode stc_M_join 85 = .ok (.iastore, 1) := by decide +kernel
theorem std_M_join_70 : decode stc_M_join 70 = .ok (.aload_n 0, 1) := by decide +kernel
theorem std_M_join_71 : decode stc_M_join 71 = .ok (.getfield 77, 3) := by decide +kernel
theorem std_M_join_74 : decode stc_M_join 74 = .ok (.iload_n 3, 1) := by decide +kernel
theorem std_M_join_75 : decode stc_M_join 75 = .ok (.iaload, 1) := by decide +kernel
theorem std_M_join_76 : decode stc_M_join 76 = .ok (.goto 9, 3) := by decide +kernel
theorem std_M_join_14 : decode stc_M_join 14 = .ok (.aload_n 0, 1) := by decide +kernel
theorem std_M_join_15 : decode stc_M_join 15 = .ok (.getfield 74, 3) := by decide +kernel
theorem std_M_join_18 : decode stc_M_join 18 = .ok (.iload_n 2, 1) := by decide +kernel
theorem std_M_join_19 : decode stc_M_join 19 = .ok (.aload_n 0, 1) := by decide +kernel
theorem std_M_join_20 : decode stc_M_join 20 = .ok (.getfield 74, 3) := by decide +kernel
theorem std_M_join_23 : decode stc_M_join 23 = .ok (.iload_n 3, 1) := by decide +kernel
theorem std_M_join_24 : decode stc_M_join 24 = .ok (.iaload, 1) := by decide +kernel
theorem std_M_join_25 : decode stc_M_join 25 = .ok (.aload_n 0, 1) := by decide +kernel
theorem std_M_join_26 : decode stc_M_join 26 = .ok (.getfield 74, 3) := by decide +kernel
theorem std_M_join_29 : decode stc_M_join 29 = .ok (.iload_n 2, 1) := by decide +kernel
theorem std_M_join_30 : decode stc_M_join 30 = .ok (.iaload, 1) := by decide +kernel
theorem std_M_join_31 : decode stc_M_join 31 = .ok (.if_icmp .ge 12, 3) := by decide +kernel
theorem std_M_join_43 : decode stc_M_join 43 = .ok (.aload_n 0, 1) := by decide +kernel
theorem std_M_join_44 : decode stc_M_join 44 = .ok (.getfield 74, 3) := by decide +kernel
theorem std_M_join_47 : decode stc_M_join 47 = .ok (.iload_n 2, 1) := by decide +kernel
theorem std_M_join_48 : decode stc_M_join 48 = .ok (.iaload, 1) := by decide +kernel
theorem std_M_join_49 : decode stc_M_join 49 = .ok (.iastore, 1) := by decide +kernel
theorem std_M_join_34 : decode stc_M_join 34 = .ok (.aload_n 0, 1) := by decide +kernel
theorem std_M_join_35 : decode stc_M_join 35 = .ok (.getfield 74, 3) := by decide +kernel
theorem std_M_join_38 : decode stc_M_join 38 = .ok (.iload_n 3, 1) := by decide +kernel
theorem std_M_join_39 : decode stc_M_join 39 = .ok (.iaload, 1) := by decide +kernel
theorem std_M_join_40 : decode stc_M_join 40 = .ok (.goto 9, 3) := by decide +kernel
set_option maxHeartbeats 4000000 in
set_option maxRecDepth 100000 in
theorem c_m_join (l : Launch) (dC : Nat → ClassId) (dI : Nat → Nat → Nat) (cI cJ cZ : ClassId) (m0 : Nat) (k_ch : Nat) (k_co : Nat) (k_ua : Nat) (k_ub : Nat) (k_ba : Nat) (k_rt : Nat) (k_rf : Nat) (k_ct : Nat) (k_cf : Nat) (k_nd : Nat) (k_na : Nat) (k_no : Nat) (k_bt : Nat) (k_bc : Nat) (k_br : Nat) (k_pc : Nat) (k_pr : Nat) (k_la : Nat) (k_lb : Nat) (k_ha : Nat) (k_hb : Nat) (k_ls : Nat) (k_wc : Nat) (HM : Prop) (bg : Int) (pn : Int) (wd : Int) (mg : Int) (mw : Int) (mc : Int) (steps : Int) (fle : Int → Int) (fmo : Int → Int) (VV : Int → Int) (ww : Int) (d2 : Int) (kw : 1 ≤ ww ∧ ww < wd ∧ wd ≤ 400) (kV : ∀ i, 0 ≤ i → i < wd → WN d2 (VV i)) (kdd : d2 ≤ 12000) : ∀ sz, Met l sty_M_join (Cond.code sty_M_join stc_M_join 4 none :: stGW) ({ frames := 0, cells := 0, slots := 0, locals := 0 } : Room) (va_Pc [.ref m0, .int (iI ww)] (zPre (dC, dI) stCl [(cI, .int), (cJ, .long), (cZ, .boolean)] st_nw [(m0, .inr (5, [.int (iI 0), .int (iI steps), .ref k_ch, .ref k_co, .ref k_ua, .ref k_ub, .ref k_ba, .int (iI (fle 0)), .int (iI (fle 1)), .int (iI (fmo 0)), .int (iI (fmo 1)), .int (iI (bI HM)), .ref k_rt, .ref k_rf, .ref k_ct, .ref k_cf, .ref k_nd, .ref k_na, .ref k_no, .ref k_bt, .ref k_bc, .ref k_br, .int (iI bg), .int (iI pn), .ref k_pc, .ref k_pr, .ref k_la, .ref k_lb, .ref k_ha, .ref k_hb, .ref k_ls, .ref k_wc, .int (iI wd), .int (iI mg), .int (iI mw), .int (iI mc)])), (k_la, .inl (cI, aI 800 (fA VV))), (k_lb, .inl (cI, aI 800 (fB VV))), (k_ha, .inl (cI, aI 800 (fC VV))), (k_hb, .inl (cI, aI 800 (fD VV))), (k_ls, .inl (cI, aI 800 (fL VV))), (k_wc, .inl (cI, aI 800 (fW VV)))] sz)) (va_Qv (fun (_ : Unit) => True) (zPost (dC, dI) stCl [(cI, .int), (cJ, .long), (cZ, .boolean)] [(m0, .inr (5, [.int (iI 0), .int (iI steps), .ref k_ch, .ref k_co, .ref k_ua, .ref k_ub, .ref k_ba, .int (iI (fle 0)), .int (iI (fle 1)), .int (iI (fmo 0)), .int (iI (fmo 1)), .int (iI (bI HM)), .ref k_rt, .ref k_rf, .ref k_ct, .ref k_cf, .ref k_nd, .ref k_na, .ref k_no, .ref k_bt, .ref k_bc, .ref k_br, .int (iI bg), .int (iI pn), .ref k_pc, .ref k_pr, .ref k_la, .ref k_lb, .ref k_ha, .ref k_hb, .ref k_ls, .ref k_wc, .int (iI wd), .int (iI mg), .int (iI mw), .int (iI mc)])), (k_la, .inl (cI, aI 800 (fA VV))), (k_lb, .inl (cI, aI 800 (fB VV))), (k_ha, .inl (cI, aI 800 (fC VV))), (k_hb, .inl (cI, aI 800 (fD VV))), (k_ls, .inl (cI, aI 800 (fL VV))), (k_wc, .inl (cI, aI 800 (fW VV)))] sz (fun _ : Unit => [(m0, .inr (5, [.int (iI 0), .int (iI steps), .ref k_ch, .ref k_co, .ref k_ua, .ref k_ub, .ref k_ba, .int (iI (fle 0)), .int (iI (fle 1)), .int (iI (fmo 0)), .int (iI (fmo 1)), .int (iI (bI HM)), .ref k_rt, .ref k_rf, .ref k_ct, .ref k_cf, .ref k_nd, .ref k_na, .ref k_no, .ref k_bt, .ref k_bc, .ref k_br, .int (iI bg), .int (iI pn), .ref k_pc, .ref k_pr, .ref k_la, .ref k_lb, .ref k_ha, .ref k_hb, .ref k_ls, .ref k_wc, .int (iI wd), .int (iI mg), .int (iI mw), .int (iI mc)])), (k_la, .inl (cI, aI 800 (fA (uZ VV (ww - 1) (UI VV (ww - 1) wd))))), (k_lb, .inl (cI, aI 800 (fB (uZ VV (ww - 1) (UI VV (ww - 1) wd))))), (k_ha, .inl (cI, aI 800 (fC (uZ VV (ww - 1) (UI VV (ww - 1) wd))))), (k_hb, .inl (cI, aI 800 (fD (uZ VV (ww - 1) (UI VV (ww - 1) wd))))), (k_ls, .inl (cI, aI 800 (fL (uZ VV (ww - 1) (UI VV (ww - 1) wd))))), (k_wc, .inl (cI, aI 800 (fW (uZ VV (ww - 1) (UI VV (ww - 1) wd)))))])) (va_A [(m0, .inr (5, [.int (iI 0), .int (iI steps), .ref k_ch, .ref k_co, .ref k_ua, .ref k_ub, .ref k_ba, .int (iI (fle 0)), .int (iI (fle 1)), .int (iI (fmo 0)), .int (iI (fmo 1)), .int (iI (bI HM)), .ref k_rt, .ref k_rf, .ref k_ct, .ref k_cf, .ref k_nd, .ref k_na, .ref k_no, .ref k_bt, .ref k_bc, .ref k_br, .int (iI bg), .int (iI pn), .ref k_pc, .ref k_pr, .ref k_la, .ref k_lb, .ref k_ha, .ref k_hb, .ref k_ls, .ref k_wc, .int (iI wd), .int (iI mg), .int (iI mw), .int (iI mc)])), (k_la, .inl (cI, aI 800 (fA VV))), (k_lb, .inl (cI, aI 800 (fB VV))), (k_ha, .inl (cI, aI 800 (fC VV))), (k_hb, .inl (cI, aI 800 (fD VV))), (k_ls, .inl (cI, aI 800 (fL VV))), (k_wc, .inl (cI, aI 800 (fW VV)))] sz)) 0 0 (va_A [(m0, .inr (5, [.int (iI 0), .int (iI steps), .ref k_ch, .ref k_co, .ref k_ua, .ref k_ub, .ref k_ba, .int (iI (fle 0)), .int (iI (fle 1)), .int (iI (fmo 0)), .int (iI (fmo 1)), .int (iI (bI HM)), .ref k_rt, .ref k_rf, .ref k_ct, .ref k_cf, .ref k_nd, .ref k_na, .ref k_no, .ref k_bt, .ref k_bc, .ref k_br, .int (iI bg), .int (iI pn), .ref k_pc, .ref k_pr, .ref k_la, .ref k_lb, .ref k_ha, .ref k_hb, .ref k_ls, .ref k_wc, .int (iI wd), .int (iI mg), .int (iI mw), .int (iI mc)])), (k_la, .inl (cI, aI 800 (fA VV))), (k_lb, .inl (cI, aI 800 (fB VV))), (k_ha, .inl (cI, aI 800 (fC VV))), (k_hb, .inl (cI, aI 800 (fD VV))), (k_ls, .inl (cI, aI 800 (fL VV))), (k_wc, .inl (cI, aI 800 (fW VV)))] sz) := by
  refine met_v (by decide) rfl (Nat.le_of_ble_eq_true rfl) ?_
  intro p e s m below meth c A Q C hmn hret
  refine g_iload_n C 1 std_M_join_0 rfl ?_
  refine g_iconst C std_M_join_1 ?_
  refine g_isub C std_M_join_2 ?_
  refine g_istore_n C (lv' := [(2, .int (iI (ww - 1))), (0, .ref m0), (1, .int (iI ww))]) std_M_join_3 (by decide) rfl ?_
  refine g_ws (ws' := [(m0, .inr (5, [.int (iI 0), .int (iI steps), .ref k_ch, .ref k_co, .ref k_ua, .ref k_ub, .ref k_ba, .int (iI (fle 0)), .int (iI (fle 1)), .int (iI (fmo 0)), .int (iI (fmo 1)), .int (iI (bI HM)), .ref k_rt, .ref k_rf, .ref k_ct, .ref k_cf, .ref k_nd, .ref k_na, .ref k_no, .ref k_bt, .ref k_bc, .ref k_br, .int (iI bg), .int (iI pn), .ref k_pc, .ref k_pr, .ref k_la, .ref k_lb, .ref k_ha, .ref k_hb, .ref k_ls, .ref k_wc, .int (iI wd), .int (iI mg), .int (iI mw), .int (iI mc)])), (k_la, .inl (cI, aI 800 (fA (uZ VV (ww - 1) (UI VV (ww - 1) ww))))), (k_lb, .inl (cI, aI 800 (fB (uZ VV (ww - 1) (UI VV (ww - 1) ww))))), (k_ha, .inl (cI, aI 800 (fC (uZ VV (ww - 1) (UI VV (ww - 1) ww))))), (k_hb, .inl (cI, aI 800 (fD (uZ VV (ww - 1) (UI VV (ww - 1) ww))))), (k_ls, .inl (cI, aI 800 (fL (uZ VV (ww - 1) (UI VV (ww - 1) ww))))), (k_wc, .inl (cI, aI 800 (fW (uZ VV (ww - 1) (UI VV (ww - 1) ww)))))]) (by rw [show (uZ VV (ww - 1) (UI VV (ww - 1) ww)) = VV from ui_id]) ?_
  refine g_iload_n C 2 std_M_join_4 rfl ?_
  refine g_istore_n C (lv' := [(3, .int (iI ww)), (2, .int (iI (ww - 1))), (0, .ref m0), (1, .int (iI ww))]) std_M_join_5 (by decide) rfl ?_
  have L6 : ∀ (nn6 : Nat) (x : Int), (ww ≤ x ∧ x ≤ wd) → (wd - x) < (nn6 : Int) → G p l e ({ frames := 0, cells := 0, slots := 0, locals := 0 } : Room) s m ([.ref m0, .int (iI ww)] : List Value).toArray below meth c (dC, dI) stCl 4 A 0 0 Q [(m0, .inr (5, [.int (iI 0), .int (iI steps), .ref k_ch, .ref k_co, .ref k_ua, .ref k_ub, .ref k_ba, .int (iI (fle 0)), .int (iI (fle 1)), .int (iI (fmo 0)), .int (iI (fmo 1)), .int (iI (bI HM)), .ref k_rt, .ref k_rf, .ref k_ct, .ref k_cf, .ref k_nd, .ref k_na, .ref k_no, .ref k_bt, .ref k_bc, .ref k_br, .int (iI bg), .int (iI pn), .ref k_pc, .ref k_pr, .ref k_la, .ref k_lb, .ref k_ha, .ref k_hb, .ref k_ls, .ref k_wc, .int (iI wd), .int (iI mg), .int (iI mw), .int (iI mc)])), (k_la, .inl (cI, aI 800 (fA (uZ VV (ww - 1) (UI VV (ww - 1) x))))), (k_lb, .inl (cI, aI 800 (fB (uZ VV (ww - 1) (UI VV (ww - 1) x))))), (k_ha, .inl (cI, aI 800 (fC (uZ VV (ww - 1) (UI VV (ww - 1) x))))), (k_hb, .inl (cI, aI 800 (fD (uZ VV (ww - 1) (UI VV (ww - 1) x))))), (k_ls, .inl (cI, aI 800 (fL (uZ VV (ww - 1) (UI VV (ww - 1) x))))), (k_wc, .inl (cI, aI 800 (fW (uZ VV (ww - 1) (UI VV (ww - 1) x)))))] 6 [(3, .int (iI x)), (2, .int (iI (ww - 1))), (1, .int (iI ww)), (0, .ref m0)] [] := by
    intro nn6
    induction nn6 with
    | zero =>
      intro x kx hnn6
      exact absurd hnn6 (by omega)
    | succ nn6 ih6 =>
      intro x kx hnn6
      refine g_iload_n C 0 std_M_join_6 rfl ?_
      refine g_aload_n C 3 std_M_join_7 rfl ?_
      refine g_get C (st_sub sti_M) 0 rfl rfl 32 (by decide) (List.mem_cons_of_mem _ kw_3_98) rfl rfl std_M_join_8 ?_
      refine g_icmp_ge (tgt := 219) C std_M_join_11 (by decide) ⟨by omega, by omega⟩ ⟨by omega, by omega⟩ (fun c1 => ?_) (fun c1 => ?_)
      · refine g_ws (ws' := [(m0, .inr (5, [.int (iI 0), .int (iI steps), .ref k_ch, .ref k_co, .ref k_ua, .ref k_ub, .ref k_ba, .int (iI (fle 0)), .int (iI (fle 1)), .int (iI (fmo 0)), .int (iI (fmo 1)), .int (iI (bI HM)), .ref k_rt, .ref k_rf, .ref k_ct, .ref k_cf, .ref k_nd, .ref k_na, .ref k_no, .ref k_bt, .ref k_bc, .ref k_br, .int (iI bg), .int (iI pn), .ref k_pc, .ref k_pr, .ref k_la, .ref k_lb, .ref k_ha, .ref k_hb, .ref k_ls, .ref k_wc, .int (iI wd), .int (iI mg), .int (iI mw), .int (iI mc)])), (k_la, .inl (cI, aI 800 (fA (uZ VV (ww - 1) (UI VV (ww - 1) wd))))), (k_lb, .inl (cI, aI 800 (fB (uZ VV (ww - 1) (UI VV (ww - 1) wd))))), (k_ha, .inl (cI, aI 800 (fC (uZ VV (ww - 1) (UI VV (ww - 1) wd))))), (k_hb, .inl (cI, aI 800 (fD (uZ VV (ww - 1) (UI VV (ww - 1) wd))))), (k_ls, .inl (cI, aI 800 (fL (uZ VV (ww - 1) (UI VV (ww - 1) wd))))), (k_wc, .inl (cI, aI 800 (fW (uZ VV (ww - 1) (UI VV (ww - 1) wd)))))]) (by rw [show x = wd by omega]) ?_
        exact hret _ _ () (trivial) std_M_join_219
      · have hk1 : (uZ VV (ww - 1) (UI VV (ww - 1) x)) (ww - 1) = (UI VV (ww - 1) x) := uZ_s
        have hkx : (uZ VV (ww - 1) (UI VV (ww - 1) x)) x = VV x := uZ_n (by omega)
        have hwx := wn_m (kV x (by omega) (by omega))
        have hwu := ui_wn (b := (ww - 1)) kdd (fun i h1 h2 => kV i (by omega) h2) x (by omega) (by omega)
        have hcx : fW (uZ VV (ww - 1) (UI VV (ww - 1) x)) x = fW VV x := by show (uZ VV (ww - 1) (UI VV (ww - 1) x)) x / 1073741824 - 12000 = VV x / 1073741824 - 12000; rw [hkx]
        have hcu : -d2 ≤ fW (uZ VV (ww - 1) (UI VV (ww - 1) x)) (ww - 1) ∧ fW (uZ VV (ww - 1) (UI VV (ww - 1) x)) (ww - 1) ≤ d2 := by have h1 := hwu.1; rw [← hk1] at h1; exact h1.2
        have hma := m6 (R := (uZ VV (ww - 1) (UI VV (ww - 1) x))) (k := (ww - 1))
        have hmx := m6 (R := (uZ VV (ww - 1) (UI VV (ww - 1) x))) (k := x)
        have hor := orm_b (L := fL (uZ VV (ww - 1) (UI VV (ww - 1) x)) (ww - 1)) (M := fL (uZ VV (ww - 1) (UI VV (ww - 1) x)) x) (by omega) (by omega) (by omega) (by omega)
        have L50 : ∀ (z3 : Int), z3 = min (fA (uZ VV (ww - 1) (UI VV (ww - 1) x)) (ww - 1)) (fA (uZ VV (ww - 1) (UI VV (ww - 1) x)) x) → G p l e ({ frames := 0, cells := 0, slots := 0, locals := 0 } : Room) s m ([.ref m0, .int (iI ww)] : List Value).toArray below meth c (dC, dI) stCl 4 A 0 0 Q [(m0, .inr (5, [.int (iI 0), .int (iI steps), .ref k_ch, .ref k_co, .ref k_ua, .ref k_ub, .ref k_ba, .int (iI (fle 0)), .int (iI (fle 1)), .int (iI (fmo 0)), .int (iI (fmo 1)), .int (iI (bI HM)), .ref k_rt, .ref k_rf, .ref k_ct, .ref k_cf, .ref k_nd, .ref k_na, .ref k_no, .ref k_bt, .ref k_bc, .ref k_br, .int (iI bg), .int (iI pn), .ref k_pc, .ref k_pr, .ref k_la, .ref k_lb, .ref k_ha, .ref k_hb, .ref k_ls, .ref k_wc, .int (iI wd), .int (iI mg), .int (iI mw), .int (iI mc)])), (k_la, .inl (cI, aI 800 (uZ (fA (uZ VV (ww - 1) (UI VV (ww - 1) x))) (ww - 1) z3))), (k_lb, .inl (cI, aI 800 (fB (uZ VV (ww - 1) (UI VV (ww - 1) x))))), (k_ha, .inl (cI, aI 800 (fC (uZ VV (ww - 1) (UI VV (ww - 1) x))))), (k_hb, .inl (cI, aI 800 (fD (uZ VV (ww - 1) (UI VV (ww - 1) x))))), (k_ls, .inl (cI, aI 800 (fL (uZ VV (ww - 1) (UI VV (ww - 1) x))))), (k_wc, .inl (cI, aI 800 (fW (uZ VV (ww - 1) (UI VV (ww - 1) x)))))] 50 [(3, .int (iI x)), (2, .int (iI (ww - 1))), (1, .int (iI ww)), (0, .ref m0)] [] := by
          intro z3 hz3
          have L86 : ∀ (z4 : Int), z4 = min (fB (uZ VV (ww - 1) (UI VV (ww - 1) x)) (ww - 1)) (fB (uZ VV (ww - 1) (UI VV (ww - 1) x)) x) → G p l e ({ frames := 0, cells := 0, slots := 0, locals := 0 } : Room) s m ([.ref m0, .int (iI ww)] : List Value).toArray below meth c (dC, dI) stCl 4 A 0 0 Q [(m0, .inr (5, [.int (iI 0), .int (iI steps), .ref k_ch, .ref k_co, .ref k_ua, .ref k_ub, .ref k_ba, .int (iI (fle 0)), .int (iI (fle 1)), .int (iI (fmo 0)), .int (iI (fmo 1)), .int (iI (bI HM)), .ref k_rt, .ref k_rf, .ref k_ct, .ref k_cf, .ref k_nd, .ref k_na, .ref k_no, .ref k_bt, .ref k_bc, .ref k_br, .int (iI bg), .int (iI pn), .ref k_pc, .ref k_pr, .ref k_la, .ref k_lb, .ref k_ha, .ref k_hb, .ref k_ls, .ref k_wc, .int (iI wd), .int (iI mg), .int (iI mw), .int (iI mc)])), (k_la, .inl (cI, aI 800 (uZ (fA (uZ VV (ww - 1) (UI VV (ww - 1) x))) (ww - 1) z3))), (k_lb, .inl (cI, aI 800 (uZ (fB (uZ VV (ww - 1) (UI VV (ww - 1) x))) (ww - 1) z4))), (k_ha, .inl (cI, aI 800 (fC (uZ VV (ww - 1) (UI VV (ww - 1) x))))), (k_hb, .inl (cI, aI 800 (fD (uZ VV (ww - 1) (UI VV (ww - 1) x))))), (k_ls, .inl (cI, aI 800 (fL (uZ VV (ww - 1) (UI VV (ww - 1) x))))), (k_wc, .inl (cI, aI 800 (fW (uZ VV (ww - 1) (UI VV (ww - 1) x)))))] 86 [(3, .int (iI x)), (2, .int (iI (ww - 1))), (1, .int (iI ww)), (0, .ref m0)] [] := by
            intro z4 hz4
            have L122 : ∀ (z5 : Int), z5 = max (fC (uZ VV (ww - 1) (UI VV (ww - 1) x)) (ww - 1)) (fC (uZ VV (ww - 1) (UI VV (ww - 1) x)) x) → G p l e ({ frames := 0, cells := 0, slots := 0, locals := 0 } : Room) s m ([.ref m0, .int (iI ww)] : List Value).toArray below meth c (dC, dI) stCl 4 A 0 0 Q [(m0, .inr (5, [.int (iI 0), .int (iI steps), .ref k_ch, .ref k_co, .ref k_ua, .ref k_ub, .ref k_ba, .int (iI (fle 0)), .int (iI (fle 1)), .int (iI (fmo 0)), .int (iI (fmo 1)), .int (iI (bI HM)), .ref k_rt, .ref k_rf, .ref k_ct, .ref k_cf, .ref k_nd, .ref k_na, .ref k_no, .ref k_bt, .ref k_bc, .ref k_br, .int (iI bg), .int (iI pn), .ref k_pc, .ref k_pr, .ref k_la, .ref k_lb, .ref k_ha, .ref k_hb, .ref k_ls, .ref k_wc, .int (iI wd), .int (iI mg), .int (iI mw), .int (iI mc)])), (k_la, .inl (cI, aI 800 (uZ (fA (uZ VV (ww - 1) (UI VV (ww - 1) x))) (ww - 1) z3))), (k_lb, .inl (cI, aI 800 (uZ (fB (uZ VV (ww - 1) (UI VV (ww - 1) x))) (ww - 1) z4))), (k_ha, .inl (cI, aI 800 (uZ (fC (uZ VV (ww - 1) (UI VV (ww - 1) x))) (ww - 1) z5))), (k_hb, .inl (cI, aI 800 (fD (uZ VV (ww - 1) (UI VV (ww - 1) x))))), (k_ls, .inl (cI, aI 800 (fL (uZ VV (ww - 1) (UI VV (ww - 1) x))))), (k_wc, .inl (cI, aI 800 (fW (uZ VV (ww - 1) (UI VV (ww - 1) x)))))] 122 [(3, .int (iI x)), (2, .int (iI (ww - 1))), (1, .int (iI ww)), (0, .ref m0)] [] := by
              intro z5 hz5
              have L158 : ∀ (z6 : Int), z6 = max (fD (uZ VV (ww - 1) (UI VV (ww - 1) x)) (ww - 1)) (fD (uZ VV (ww - 1) (UI VV (ww - 1) x)) x) → G p l e ({ frames := 0, cells := 0, slots := 0, locals := 0 } : Room) s m ([.ref m0, .int (iI ww)] : List Value).toArray below meth c (dC, dI) stCl 4 A 0 0 Q [(m0, .inr (5, [.int (iI 0), .int (iI steps), .ref k_ch, .ref k_co, .ref k_ua, .ref k_ub, .ref k_ba, .int (iI (fle 0)), .int (iI (fle 1)), .int (iI (fmo 0)), .int (iI (fmo 1)), .int (iI (bI HM)), .ref k_rt, .ref k_rf, .ref k_ct, .ref k_cf, .ref k_nd, .ref k_na, .ref k_no, .ref k_bt, .ref k_bc, .ref k_br, .int (iI bg), .int (iI pn), .ref k_pc, .ref k_pr, .ref k_la, .ref k_lb, .ref k_ha, .ref k_hb, .ref k_ls, .ref k_wc, .int (iI wd), .int (iI mg), .int (iI mw), .int (iI mc)])), (k_la, .inl (cI, aI 800 (uZ (fA (uZ VV (ww - 1) (UI VV (ww - 1) x))) (ww - 1) z3))), (k_lb, .inl (cI, aI 800 (uZ (fB (uZ VV (ww - 1) (UI VV (ww - 1) x))) (ww - 1) z4))), (k_ha, .inl (cI, aI 800 (uZ (fC (uZ VV (ww - 1) (UI VV (ww - 1) x))) (ww - 1) z5))), (k_hb, .inl (cI, aI 800 (uZ (fD (uZ VV (ww - 1) (UI VV (ww - 1) x))) (ww - 1) z6))), (k_ls, .inl (cI, aI 800 (fL (uZ VV (ww - 1) (UI VV (ww - 1) x))))), (k_wc, .inl (cI, aI 800 (fW (uZ VV (ww - 1) (UI VV (ww - 1) x)))))] 158 [(3, .int (iI x)), (2, .int (iI (ww - 1))), (1, .int (iI ww)), (0, .ref m0)] [] := by
                intro z6 hz6
                refine g_aload_n C 3 std_M_join_158 rfl ?_
                refine g_get C (st_sub sti_M) 0 rfl rfl 30 (by decide) (List.mem_cons_of_mem _ kw_3_96) rfl rfl std_M_join_159 ?_
                refine g_iload_n C 1 std_M_join_162 rfl ?_
                refine g_aload_n C 3 std_M_join_163 rfl ?_
                refine g_get C (st_sub sti_M) 0 rfl rfl 30 (by decide) (List.mem_cons_of_mem _ kw_3_96) rfl rfl std_M_join_164 ?_
                refine g_iload_n C 1 std_M_join_167 rfl ?_
                refine g_iald C 5 0 rfl rfl (by omega) (by omega) (by omega) std_M_join_168 ?_
                refine g_aload_n C 3 std_M_join_169 rfl ?_
                refine g_get C (st_sub sti_M) 0 rfl rfl 30 (by decide) (List.mem_cons_of_mem _ kw_3_96) rfl rfl std_M_join_170 ?_
                refine g_iload_n C 0 std_M_join_173 rfl ?_
                refine g_iald C 5 0 rfl rfl (by omega) (by omega) (by omega) std_M_join_174 ?_
                refine g_ior C (z := (orm (fL (uZ VV (ww - 1) (UI VV (ww - 1) x)) (ww - 1)) (fL (uZ VV (ww - 1) (UI VV (ww - 1) x)) x))) std_M_join_175 (iI_of _) ?_
                refine g_iast C (ws' := [(m0, .inr (5, [.int (iI 0), .int (iI steps), .ref k_ch, .ref k_co, .ref k_ua, .ref k_ub, .ref k_ba, .int (iI (fle 0)), .int (iI (fle 1)), .int (iI (fmo 0)), .int (iI (fmo 1)), .int (iI (bI HM)), .ref k_rt, .ref k_rf, .ref k_ct, .ref k_cf, .ref k_nd, .ref k_na, .ref k_no, .ref k_bt, .ref k_bc, .ref k_br, .int (iI bg), .int (iI pn), .ref k_pc, .ref k_pr, .ref k_la, .ref k_lb, .ref k_ha, .ref k_hb, .ref k_ls, .ref k_wc, .int (iI wd), .int (iI mg), .int (iI mw), .int (iI mc)])), (k_la, .inl (cI, aI 800 (uZ (fA (uZ VV (ww - 1) (UI VV (ww - 1) x))) (ww - 1) z3))), (k_lb, .inl (cI, aI 800 (uZ (fB (uZ VV (ww - 1) (UI VV (ww - 1) x))) (ww - 1) z4))), (k_ha, .inl (cI, aI 800 (uZ (fC (uZ VV (ww - 1) (UI VV (ww - 1) x))) (ww - 1) z5))), (k_hb, .inl (cI, aI 800 (uZ (fD (uZ VV (ww - 1) (UI VV (ww - 1) x))) (ww - 1) z6))), (k_ls, .inl (cI, aI 800 (uZ (fL (uZ VV (ww - 1) (UI VV (ww - 1) x))) (ww - 1) (orm (fL (uZ VV (ww - 1) (UI VV (ww - 1) x)) (ww - 1)) (fL (uZ VV (ww - 1) (UI VV (ww - 1) x)) x))))), (k_wc, .inl (cI, aI 800 (fW (uZ VV (ww - 1) (UI VV (ww - 1) x)))))]) 5 0 rfl rfl (by omega) (by omega) (by omega) std_M_join_176 rfl ?_
                have L213 : ∀ (z2 : Int), z2 = min (fW (uZ VV (ww - 1) (UI VV (ww - 1) x)) (ww - 1)) (fW (uZ VV (ww - 1) (UI VV (ww - 1) x)) x) → G p l e ({ frames := 0, cells := 0, slots := 0, locals := 0 } : Room) s m ([.ref m0, .int (iI ww)] : List Value).toArray below meth c (dC, dI) stCl 4 A 0 0 Q [(m0, .inr (5, [.int (iI 0), .int (iI steps), .ref k_ch, .ref k_co, .ref k_ua, .ref k_ub, .ref k_ba, .int (iI (fle 0)), .int (iI (fle 1)), .int (iI (fmo 0)), .int (iI (fmo 1)), .int (iI (bI HM)), .ref k_rt, .ref k_rf, .ref k_ct, .ref k_cf, .ref k_nd, .ref k_na, .ref k_no, .ref k_bt, .ref k_bc, .ref k_br, .int (iI bg), .int (iI pn), .ref k_pc, .ref k_pr, .ref k_la, .ref k_lb, .ref k_ha, .ref k_hb, .ref k_ls, .ref k_wc, .int (iI wd), .int (iI mg), .int (iI mw), .int (iI mc)])), (k_la, .inl (cI, aI 800 (uZ (fA (uZ VV (ww - 1) (UI VV (ww - 1) x))) (ww - 1) z3))), (k_lb, .inl (cI, aI 800 (uZ (fB (uZ VV (ww - 1) (UI VV (ww - 1) x))) (ww - 1) z4))), (k_ha, .inl (cI, aI 800 (uZ (fC (uZ VV (ww - 1) (UI VV (ww - 1) x))) (ww - 1) z5))), (k_hb, .inl (cI, aI 800 (uZ (fD (uZ VV (ww - 1) (UI VV (ww - 1) x))) (ww - 1) z6))), (k_ls, .inl (cI, aI 800 (uZ (fL (uZ VV (ww - 1) (UI VV (ww - 1) x))) (ww - 1) (orm (fL (uZ VV (ww - 1) (UI VV (ww - 1) x)) (ww - 1)) (fL (uZ VV (ww - 1) (UI VV (ww - 1) x)) x))))), (k_wc, .inl (cI, aI 800 (uZ (fW (uZ VV (ww - 1) (UI VV (ww - 1) x))) (ww - 1) z2)))] 213 [(3, .int (iI x)), (2, .int (iI (ww - 1))), (1, .int (iI ww)), (0, .ref m0)] [] := by
                  intro z2 hz2
                  have hE : (UI VV (ww - 1) (x + 1)) = wp z2 z3 z4 z5 z6 (orm (fL (uZ VV (ww - 1) (UI VV (ww - 1) x)) (ww - 1)) (fL (uZ VV (ww - 1) (UI VV (ww - 1) x)) x)) := by have h0 : un ((uZ VV (ww - 1) (UI VV (ww - 1) x)) (ww - 1)) ((uZ VV (ww - 1) (UI VV (ww - 1) x)) x) = wp z2 z3 z4 z5 z6 (orm (fL (uZ VV (ww - 1) (UI VV (ww - 1) x)) (ww - 1)) (fL (uZ VV (ww - 1) (UI VV (ww - 1) x)) x)) := (by rw [hz2, hz3, hz4, hz5, hz6]; rfl); rw [hk1, hkx] at h0; rw [ui_s (by omega)]; exact h0
                  obtain ⟨w1, w2, w3, w4, w5, w6⟩ := pw_6 (R := (uZ VV (ww - 1) (UI VV (ww - 1) x))) (t := (ww - 1)) hE ⟨by omega, by omega⟩ ⟨by omega, by omega⟩ ⟨by omega, by omega⟩ ⟨by omega, by omega⟩ hor
                  rw [uZ_uZ] at w1 w2 w3 w4 w5 w6
                  refine g_ws (ws' := [(m0, .inr (5, [.int (iI 0), .int (iI steps), .ref k_ch, .ref k_co, .ref k_ua, .ref k_ub, .ref k_ba, .int (iI (fle 0)), .int (iI (fle 1)), .int (iI (fmo 0)), .int (iI (fmo 1)), .int (iI (bI HM)), .ref k_rt, .ref k_rf, .ref k_ct, .ref k_cf, .ref k_nd, .ref k_na, .ref k_no, .ref k_bt, .ref k_bc, .ref k_br, .int (iI bg), .int (iI pn), .ref k_pc, .ref k_pr, .ref k_la, .ref k_lb, .ref k_ha, .ref k_hb, .ref k_ls, .ref k_wc, .int (iI wd), .int (iI mg), .int (iI mw), .int (iI mc)])), (k_la, .inl (cI, aI 800 (fA (uZ VV (ww - 1) (UI VV (ww - 1) (x + 1)))))), (k_lb, .inl (cI, aI 800 (fB (uZ VV (ww - 1) (UI VV (ww - 1) (x + 1)))))), (k_ha, .inl (cI, aI 800 (fC (uZ VV (ww - 1) (UI VV (ww - 1) (x + 1)))))), (k_hb, .inl (cI, aI 800 (fD (uZ VV (ww - 1) (UI VV (ww - 1) (x + 1)))))), (k_ls, .inl (cI, aI 800 (fL (uZ VV (ww - 1) (UI VV (ww - 1) (x + 1)))))), (k_wc, .inl (cI, aI 800 (fW (uZ VV (ww - 1) (UI VV (ww - 1) (x + 1))))))]) (by rw [w1, w2, w3, w4, w5, w6]) ?_
                  refine g_iinc C (lv' := [(3, .int (iI (x + 1))), (2, .int (iI (ww - 1))), (1, .int (iI ww)), (0, .ref m0)]) 0 std_M_join_213 rfl (by decide) rfl ?_
                  refine g_goto (tgt := 6) C std_M_join_216 (by decide) ?_
                  exact ih6 (x + 1) (by omega) (by omega)
                refine g_aload_n C 3 std_M_join_177 rfl ?_
                refine g_get C (st_sub sti_M) 0 rfl rfl 31 (by decide) (List.mem_cons_of_mem _ kw_3_97) rfl rfl std_M_join_178 ?_
                refine g_iload_n C 1 std_M_join_181 rfl ?_
                refine g_aload_n C 3 std_M_join_182 rfl ?_
                refine g_get C (st_sub sti_M) 0 rfl rfl 31 (by decide) (List.mem_cons_of_mem _ kw_3_97) rfl rfl std_M_join_183 ?_
                refine g_iload_n C 0 std_M_join_186 rfl ?_
                refine g_iald C 6 0 rfl rfl (by omega) (by omega) (by omega) std_M_join_187 ?_
                refine g_aload_n C 3 std_M_join_188 rfl ?_
                refine g_get C (st_sub sti_M) 0 rfl rfl 31 (by decide) (List.mem_cons_of_mem _ kw_3_97) rfl rfl std_M_join_189 ?_
                refine g_iload_n C 1 std_M_join_192 rfl ?_
                refine g_iald C 6 0 rfl rfl (by omega) (by omega) (by omega) std_M_join_193 ?_
                refine g_icmp_ge (tgt := 206) C std_M_join_194 (by decide) ⟨by omega, by omega⟩ ⟨by omega, by omega⟩ (fun c2 => ?_) (fun c2 => ?_)
                · refine g_aload_n C 3 std_M_join_206 rfl ?_
                  refine g_get C (st_sub sti_M) 0 rfl rfl 31 (by decide) (List.mem_cons_of_mem _ kw_3_97) rfl rfl std_M_join_207 ?_
                  refine g_iload_n C 1 std_M_join_210 rfl ?_
                  refine g_iald C 6 0 rfl rfl (by omega) (by omega) (by omega) std_M_join_211 ?_
                  refine g_iast C (ws' := [(m0, .inr (5, [.int (iI 0), .int (iI steps), .ref k_ch, .ref k_co, .ref k_ua, .ref k_ub, .ref k_ba, .int (iI (fle 0)), .int (iI (fle 1)), .int (iI (fmo 0)), .int (iI (fmo 1)), .int (iI (bI HM)), .ref k_rt, .ref k_rf, .ref k_ct, .ref k_cf, .ref k_nd, .ref k_na, .ref k_no, .ref k_bt, .ref k_bc, .ref k_br, .int (iI bg), .int (iI pn), .ref k_pc, .ref k_pr, .ref k_la, .ref k_lb, .ref k_ha, .ref k_hb, .ref k_ls, .ref k_wc, .int (iI wd), .int (iI mg), .int (iI mw), .int (iI mc)])), (k_la, .inl (cI, aI 800 (uZ (fA (uZ VV (ww - 1) (UI VV (ww - 1) x))) (ww - 1) z3))), (k_lb, .inl (cI, aI 800 (uZ (fB (uZ VV (ww - 1) (UI VV (ww - 1) x))) (ww - 1) z4))), (k_ha, .inl (cI, aI 800 (uZ (fC (uZ VV (ww - 1) (UI VV (ww - 1) x))) (ww - 1) z5))), (k_hb, .inl (cI, aI 800 (uZ (fD (uZ VV (ww - 1) (UI VV (ww - 1) x))) (ww - 1) z6))), (k_ls, .inl (cI, aI 800 (uZ (fL (uZ VV (ww - 1) (UI VV (ww - 1) x))) (ww - 1) (orm (fL (uZ VV (ww - 1) (UI VV (ww - 1) x)) (ww - 1)) (fL (uZ VV (ww - 1) (UI VV (ww - 1) x)) x))))), (k_wc, .inl (cI, aI 800 (uZ (fW (uZ VV (ww - 1) (UI VV (ww - 1) x))) (ww - 1) ((fW (uZ VV (ww - 1) (UI VV (ww - 1) x))) (ww - 1)))))]) 6 0 rfl rfl (by omega) (by omega) (by omega) std_M_join_212 rfl ?_
                  exact L213 ((fW (uZ VV (ww - 1) (UI VV (ww - 1) x))) (ww - 1)) (by omega)
                · refine g_aload_n C 3 std_M_join_197 rfl ?_
                  refine g_get C (st_sub sti_M) 0 rfl rfl 31 (by decide) (List.mem_cons_of_mem _ kw_3_97) rfl rfl std_M_join_198 ?_
                  refine g_iload_n C 0 std_M_join_201 rfl ?_
                  refine g_iald C 6 0 rfl rfl (by omega) (by omega) (by omega) std_M_join_202 ?_
                  refine g_goto (tgt := 212) C std_M_join_203 (by decide) ?_
                  refine g_iast C (ws' := [(m0, .inr (5, [.int (iI 0), .int (iI steps), .ref k_ch, .ref k_co, .ref k_ua, .ref k_ub, .ref k_ba, .int (iI (fle 0)), .int (iI (fle 1)), .int (iI (fmo 0)), .int (iI (fmo 1)), .int (iI (bI HM)), .ref k_rt, .ref k_rf, .ref k_ct, .ref k_cf, .ref k_nd, .ref k_na, .ref k_no, .ref k_bt, .ref k_bc, .ref k_br, .int (iI bg), .int (iI pn), .ref k_pc, .ref k_pr, .ref k_la, .ref k_lb, .ref k_ha, .ref k_hb, .ref k_ls, .ref k_wc, .int (iI wd), .int (iI mg), .int (iI mw), .int (iI mc)])), (k_la, .inl (cI, aI 800 (uZ (fA (uZ VV (ww - 1) (UI VV (ww - 1) x))) (ww - 1) z3))), (k_lb, .inl (cI, aI 800 (uZ (fB (uZ VV (ww - 1) (UI VV (ww - 1) x))) (ww - 1) z4))), (k_ha, .inl (cI, aI 800 (uZ (fC (uZ VV (ww - 1) (UI VV (ww - 1) x))) (ww - 1) z5))), (k_hb, .inl (cI, aI 800 (uZ (fD (uZ VV (ww - 1) (UI VV (ww - 1) x))) (ww - 1) z6))), (k_ls, .inl (cI, aI 800 (uZ (fL (uZ VV (ww - 1) (UI VV (ww - 1) x))) (ww - 1) (orm (fL (uZ VV (ww - 1) (UI VV (ww - 1) x)) (ww - 1)) (fL (uZ VV (ww - 1) (UI VV (ww - 1) x)) x))))), (k_wc, .inl (cI, aI 800 (uZ (fW (uZ VV (ww - 1) (UI VV (ww - 1) x))) (ww - 1) ((fW (uZ VV (ww - 1) (UI VV (ww - 1) x))) x))))]) 6 0 rfl rfl (by omega) (by omega) (by omega) std_M_join_212 rfl ?_
                  exact L213 ((fW (uZ VV (ww - 1) (UI VV (ww - 1) x))) x) (by omega)
              refine g_aload_n C 3 std_M_join_122 rfl ?_
              refine g_get C (st_sub sti_M) 0 rfl rfl 29 (by decide) (List.mem_cons_of_mem _ kw_3_95) rfl rfl std_M_join_123 ?_
              refine g_iload_n C 1 std_M_join_126 rfl ?_
              refine g_aload_n C 3 std_M_join_127 rfl ?_
              refine g_get C (st_sub sti_M) 0 rfl rfl 29 (by decide) (List.mem_cons_of_mem _ kw_3_95) rfl rfl std_M_join_128 ?_
              refine g_iload_n C 0 std_M_join_131 rfl ?_
              refine g_iald C 4 0 rfl rfl (by omega) (by omega) (by omega) std_M_join_132 ?_
              refine g_aload_n C 3 std_M_join_133 rfl ?_
              refine g_get C (st_sub sti_M) 0 rfl rfl 29 (by decide) (List.mem_cons_of_mem _ kw_3_95) rfl rfl std_M_join_134 ?_
              refine g_iload_n C 1 std_M_join_137 rfl ?_
              refine g_iald C 4 0 rfl rfl (by omega) (by omega) (by omega) std_M_join_138 ?_
              refine g_icmp_le (tgt := 151) C std_M_join_139 (by decide) ⟨by omega, by omega⟩ ⟨by omega, by omega⟩ (fun c3 => ?_) (fun c3 => ?_)
              · refine g_aload_n C 3 std_M_join_151 rfl ?_
                refine g_get C (st_sub sti_M) 0 rfl rfl 29 (by decide) (List.mem_cons_of_mem _ kw_3_95) rfl rfl std_M_join_152 ?_
                refine g_iload_n C 1 std_M_join_155 rfl ?_
                refine g_iald C 4 0 rfl rfl (by omega) (by omega) (by omega) std_M_join_156 ?_
                refine g_iast C (ws' := [(m0, .inr (5, [.int (iI 0), .int (iI steps), .ref k_ch, .ref k_co, .ref k_ua, .ref k_ub, .ref k_ba, .int (iI (fle 0)), .int (iI (fle 1)), .int (iI (fmo 0)), .int (iI (fmo 1)), .int (iI (bI HM)), .ref k_rt, .ref k_rf, .ref k_ct, .ref k_cf, .ref k_nd, .ref k_na, .ref k_no, .ref k_bt, .ref k_bc, .ref k_br, .int (iI bg), .int (iI pn), .ref k_pc, .ref k_pr, .ref k_la, .ref k_lb, .ref k_ha, .ref k_hb, .ref k_ls, .ref k_wc, .int (iI wd), .int (iI mg), .int (iI mw), .int (iI mc)])), (k_la, .inl (cI, aI 800 (uZ (fA (uZ VV (ww - 1) (UI VV (ww - 1) x))) (ww - 1) z3))), (k_lb, .inl (cI, aI 800 (uZ (fB (uZ VV (ww - 1) (UI VV (ww - 1) x))) (ww - 1) z4))), (k_ha, .inl (cI, aI 800 (uZ (fC (uZ VV (ww - 1) (UI VV (ww - 1) x))) (ww - 1) z5))), (k_hb, .inl (cI, aI 800 (uZ (fD (uZ VV (ww - 1) (UI VV (ww - 1) x))) (ww - 1) ((fD (uZ VV (ww - 1) (UI VV (ww - 1) x))) (ww - 1))))), (k_ls, .inl (cI, aI 800 (fL (uZ VV (ww - 1) (UI VV (ww - 1) x))))), (k_wc, .inl (cI, aI 800 (fW (uZ VV (ww - 1) (UI VV (ww - 1) x)))))]) 4 0 rfl rfl (by omega) (by omega) (by omega) std_M_join_157 rfl ?_
                exact L158 ((fD (uZ VV (ww - 1) (UI VV (ww - 1) x))) (ww - 1)) (by omega)
              · refine g_aload_n C 3 std_M_join_142 rfl ?_
                refine g_get C (st_sub sti_M) 0 rfl rfl 29 (by decide) (List.mem_cons_of_mem _ kw_3_95) rfl rfl std_M_join_143 ?_
                refine g_iload_n C 0 std_M_join_146 rfl ?_
                refine g_iald C 4 0 rfl rfl (by omega) (by omega) (by omega) std_M_join_147 ?_
                refine g_goto (tgt := 157) C std_M_join_148 (by decide) ?_
                refine g_iast C (ws' := [(m0, .inr (5, [.int (iI 0), .int (iI steps), .ref k_ch, .ref k_co, .ref k_ua, .ref k_ub, .ref k_ba, .int (iI (fle 0)), .int (iI (fle 1)), .int (iI (fmo 0)), .int (iI (fmo 1)), .int (iI (bI HM)), .ref k_rt, .ref k_rf, .ref k_ct, .ref k_cf, .ref k_nd, .ref k_na, .ref k_no, .ref k_bt, .ref k_bc, .ref k_br, .int (iI bg), .int (iI pn), .ref k_pc, .ref k_pr, .ref k_la, .ref k_lb, .ref k_ha, .ref k_hb, .ref k_ls, .ref k_wc, .int (iI wd), .int (iI mg), .int (iI mw), .int (iI mc)])), (k_la, .inl (cI, aI 800 (uZ (fA (uZ VV (ww - 1) (UI VV (ww - 1) x))) (ww - 1) z3))), (k_lb, .inl (cI, aI 800 (uZ (fB (uZ VV (ww - 1) (UI VV (ww - 1) x))) (ww - 1) z4))), (k_ha, .inl (cI, aI 800 (uZ (fC (uZ VV (ww - 1) (UI VV (ww - 1) x))) (ww - 1) z5))), (k_hb, .inl (cI, aI 800 (uZ (fD (uZ VV (ww - 1) (UI VV (ww - 1) x))) (ww - 1) ((fD (uZ VV (ww - 1) (UI VV (ww - 1) x))) x)))), (k_ls, .inl (cI, aI 800 (fL (uZ VV (ww - 1) (UI VV (ww - 1) x))))), (k_wc, .inl (cI, aI 800 (fW (uZ VV (ww - 1) (UI VV (ww - 1) x)))))]) 4 0 rfl rfl (by omega) (by omega) (by omega) std_M_join_157 rfl ?_
                exact L158 ((fD (uZ VV (ww - 1) (UI VV (ww - 1) x))) x) (by omega)
            refine g_aload_n C 3 std_M_join_86 rfl ?_
            refine g_get C (st_sub sti_M) 0 rfl rfl 28 (by decide) (List.mem_cons_of_mem _ kw_3_94) rfl rfl std_M_join_87 ?_
            refine g_iload_n C 1 std_M_join_90 rfl ?_
            refine g_aload_n C 3 std_M_join_91 rfl ?_
            refine g_get C (st_sub sti_M) 0 rfl rfl 28 (by decide) (List.mem_cons_of_mem _ kw_3_94) rfl rfl std_M_join_92 ?_
            refine g_iload_n C 0 std_M_join_95 rfl ?_
            refine g_iald C 3 0 rfl rfl (by omega) (by omega) (by omega) std_M_join_96 ?_
            refine g_aload_n C 3 std_M_join_97 rfl ?_
            refine g_get C (st_sub sti_M) 0 rfl rfl 28 (by decide) (List.mem_cons_of_mem _ kw_3_94) rfl rfl std_M_join_98 ?_
            refine g_iload_n C 1 std_M_join_101 rfl ?_
            refine g_iald C 3 0 rfl rfl (by omega) (by omega) (by omega) std_M_join_102 ?_
            refine g_icmp_le (tgt := 115) C std_M_join_103 (by decide) ⟨by omega, by omega⟩ ⟨by omega, by omega⟩ (fun c4 => ?_) (fun c4 => ?_)
            · refine g_aload_n C 3 std_M_join_115 rfl ?_
              refine g_get C (st_sub sti_M) 0 rfl rfl 28 (by decide) (List.mem_cons_of_mem _ kw_3_94) rfl rfl std_M_join_116 ?_
              refine g_iload_n C 1 std_M_join_119 rfl ?_
              refine g_iald C 3 0 rfl rfl (by omega) (by omega) (by omega) std_M_join_120 ?_
              refine g_iast C (ws' := [(m0, .inr (5, [.int (iI 0), .int (iI steps), .ref k_ch, .ref k_co, .ref k_ua, .ref k_ub, .ref k_ba, .int (iI (fle 0)), .int (iI (fle 1)), .int (iI (fmo 0)), .int (iI (fmo 1)), .int (iI (bI HM)), .ref k_rt, .ref k_rf, .ref k_ct, .ref k_cf, .ref k_nd, .ref k_na, .ref k_no, .ref k_bt, .ref k_bc, .ref k_br, .int (iI bg), .int (iI pn), .ref k_pc, .ref k_pr, .ref k_la, .ref k_lb, .ref k_ha, .ref k_hb, .ref k_ls, .ref k_wc, .int (iI wd), .int (iI mg), .int (iI mw), .int (iI mc)])), (k_la, .inl (cI, aI 800 (uZ (fA (uZ VV (ww - 1) (UI VV (ww - 1) x))) (ww - 1) z3))), (k_lb, .inl (cI, aI 800 (uZ (fB (uZ VV (ww - 1) (UI VV (ww - 1) x))) (ww - 1) z4))), (k_ha, .inl (cI, aI 800 (uZ (fC (uZ VV (ww - 1) (UI VV (ww - 1) x))) (ww - 1) ((fC (uZ VV (ww - 1) (UI VV (ww - 1) x))) (ww - 1))))), (k_hb, .inl (cI, aI 800 (fD (uZ VV (ww - 1) (UI VV (ww - 1) x))))), (k_ls, .inl (cI, aI 800 (fL (uZ VV (ww - 1) (UI VV (ww - 1) x))))), (k_wc, .inl (cI, aI 800 (fW (uZ VV (ww - 1) (UI VV (ww - 1) x)))))]) 3 0 rfl rfl (by omega) (by omega) (by omega) std_M_join_121 rfl ?_
              exact L122 ((fC (uZ VV (ww - 1) (UI VV (ww - 1) x))) (ww - 1)) (by omega)
            · refine g_aload_n C 3 std_M_join_106 rfl ?_
              refine g_get C (st_sub sti_M) 0 rfl rfl 28 (by decide) (List.mem_cons_of_mem _ kw_3_94) rfl rfl std_M_join_107 ?_
              refine g_iload_n C 0 std_M_join_110 rfl ?_
              refine g_iald C 3 0 rfl rfl (by omega) (by omega) (by omega) std_M_join_111 ?_
              refine g_goto (tgt := 121) C std_M_join_112 (by decide) ?_
              refine g_iast C (ws' := [(m0, .inr (5, [.int (iI 0), .int (iI steps), .ref k_ch, .ref k_co, .ref k_ua, .ref k_ub, .ref k_ba, .int (iI (fle 0)), .int (iI (fle 1)), .int (iI (fmo 0)), .int (iI (fmo 1)), .int (iI (bI HM)), .ref k_rt, .ref k_rf, .ref k_ct, .ref k_cf, .ref k_nd, .ref k_na, .ref k_no, .ref k_bt, .ref k_bc, .ref k_br, .int (iI bg), .int (iI pn), .ref k_pc, .ref k_pr, .ref k_la, .ref k_lb, .ref k_ha, .ref k_hb, .ref k_ls, .ref k_wc, .int (iI wd), .int (iI mg), .int (iI mw), .int (iI mc)])), (k_la, .inl (cI, aI 800 (uZ (fA (uZ VV (ww - 1) (UI VV (ww - 1) x))) (ww - 1) z3))), (k_lb, .inl (cI, aI 800 (uZ (fB (uZ VV (ww - 1) (UI VV (ww - 1) x))) (ww - 1) z4))), (k_ha, .inl (cI, aI 800 (uZ (fC (uZ VV (ww - 1) (UI VV (ww - 1) x))) (ww - 1) ((fC (uZ VV (ww - 1) (UI VV (ww - 1) x))) x)))), (k_hb, .inl (cI, aI 800 (fD (uZ VV (ww - 1) (UI VV (ww - 1) x))))), (k_ls, .inl (cI, aI 800 (fL (uZ VV (ww - 1) (UI VV (ww - 1) x))))), (k_wc, .inl (cI, aI 800 (fW (uZ VV (ww - 1) (UI VV (ww - 1) x)))))]) 3 0 rfl rfl (by omega) (by omega) (by omega) std_M_join_121 rfl ?_
              exact L122 ((fC (uZ VV (ww - 1) (UI VV (ww - 1) x))) x) (by omega)
          refine g_aload_n C 3 std_M_join_50 rfl ?_
          refine g_get C (st_sub sti_M) 0 rfl rfl 27 (by decide) (List.mem_cons_of_mem _ kw_3_93) rfl rfl std_M_join_51 ?_
          refine g_iload_n C 1 std_M_join_54 rfl ?_
          refine g_aload_n C 3 std_M_join_55 rfl ?_
          refine g_get C (st_sub sti_M) 0 rfl rfl 27 (by decide) (List.mem_cons_of_mem _ kw_3_93) rfl rfl std_M_join_56 ?_
          refine g_iload_n C 0 std_M_join_59 rfl ?_
          refine g_iald C 2 0 rfl rfl (by omega) (by omega) (by omega) std_M_join_60 ?_
          refine g_aload_n C 3 std_M_join_61 rfl ?_
          refine g_get C (st_sub sti_M) 0 rfl rfl 27 (by decide) (List.mem_cons_of_mem _ kw_3_93) rfl rfl std_M_join_62 ?_
          refine g_iload_n C 1 std_M_join_65 rfl ?_
          refine g_iald C 2 0 rfl rfl (by omega) (by omega) (by omega) std_M_join_66 ?_
          refine g_icmp_ge (tgt := 79) C std_M_join_67 (by decide) ⟨by omega, by omega⟩ ⟨by omega, by omega⟩ (fun c5 => ?_) (fun c5 => ?_)
          · refine g_aload_n C 3 std_M_join_79 rfl ?_
            refine g_get C (st_sub sti_M) 0 rfl rfl 27 (by decide) (List.mem_cons_of_mem _ kw_3_93) rfl rfl std_M_join_80 ?_
            refine g_iload_n C 1 std_M_join_83 rfl ?_
            refine g_iald C 2 0 rfl rfl (by omega) (by omega) (by omega) std_M_join_84 ?_
            refine g_iast C (ws' := [(m0, .inr (5, [.int (iI 0), .int (iI steps), .ref k_ch, .ref k_co, .ref k_ua, .ref k_ub, .ref k_ba, .int (iI (fle 0)), .int (iI (fle 1)), .int (iI (fmo 0)), .int (iI (fmo 1)), .int (iI (bI HM)), .ref k_rt, .ref k_rf, .ref k_ct, .ref k_cf, .ref k_nd, .ref k_na, .ref k_no, .ref k_bt, .ref k_bc, .ref k_br, .int (iI bg), .int (iI pn), .ref k_pc, .ref k_pr, .ref k_la, .ref k_lb, .ref k_ha, .ref k_hb, .ref k_ls, .ref k_wc, .int (iI wd), .int (iI mg), .int (iI mw), .int (iI mc)])), (k_la, .inl (cI, aI 800 (uZ (fA (uZ VV (ww - 1) (UI VV (ww - 1) x))) (ww - 1) z3))), (k_lb, .inl (cI, aI 800 (uZ (fB (uZ VV (ww - 1) (UI VV (ww - 1) x))) (ww - 1) ((fB (uZ VV (ww - 1) (UI VV (ww - 1) x))) (ww - 1))))), (k_ha, .inl (cI, aI 800 (fC (uZ VV (ww - 1) (UI VV (ww - 1) x))))), (k_hb, .inl (cI, aI 800 (fD (uZ VV (ww - 1) (UI VV (ww - 1) x))))), (k_ls, .inl (cI, aI 800 (fL (uZ VV (ww - 1) (UI VV (ww - 1) x))))), (k_wc, .inl (cI, aI 800 (fW (uZ VV (ww - 1) (UI VV (ww - 1) x)))))]) 2 0 rfl rfl (by omega) (by omega) (by omega) std_M_join_85 rfl ?_
            exact L86 ((fB (uZ VV (ww - 1) (UI VV (ww - 1) x))) (ww - 1)) (by omega)
          · refine g_aload_n C 3 std_M_join_70 rfl ?_
            refine g_get C (st_sub sti_M) 0 rfl rfl 27 (by decide) (List.mem_cons_of_mem _ kw_3_93) rfl rfl std_M_join_71 ?_
            refine g_iload_n C 0 std_M_join_74 rfl ?_
            refine g_iald C 2 0 rfl rfl (by omega) (by omega) (by omega) std_M_join_75 ?_
            refine g_goto (tgt := 85) C std_M_join_76 (by decide) ?_
            refine g_iast C (ws' := [(m0, .inr (5, [.int (iI 0), .int (iI steps), .ref k_ch, .ref k_co, .ref k_ua, .ref k_ub, .ref k_ba, .int (iI (fle 0)), .int (iI (fle 1)), .int (iI (fmo 0)), .int (iI (fmo 1)), .int (iI (bI HM)), .ref k_rt, .ref k_rf, .ref k_ct, .ref k_cf, .ref k_nd, .ref k_na, .ref k_no, .ref k_bt, .ref k_bc, .ref k_br, .int (iI bg), .int (iI pn), .ref k_pc, .ref k_pr, .ref k_la, .ref k_lb, .ref k_ha, .ref k_hb, .ref k_ls, .ref k_wc, .int (iI wd), .int (iI mg), .int (iI mw), .int (iI mc)])), (k_la, .inl (cI, aI 800 (uZ (fA (uZ VV (ww - 1) (UI VV (ww - 1) x))) (ww - 1) z3))), (k_lb, .inl (cI, aI 800 (uZ (fB (uZ VV (ww - 1) (UI VV (ww - 1) x))) (ww - 1) ((fB (uZ VV (ww - 1) (UI VV (ww - 1) x))) x)))), (k_ha, .inl (cI, aI 800 (fC (uZ VV (ww - 1) (UI VV (ww - 1) x))))), (k_hb, .inl (cI, aI 800 (fD (uZ VV (ww - 1) (UI VV (ww - 1) x))))), (k_ls, .inl (cI, aI 800 (fL (uZ VV (ww - 1) (UI VV (ww - 1) x))))), (k_wc, .inl (cI, aI 800 (fW (uZ VV (ww - 1) (UI VV (ww - 1) x)))))]) 2 0 rfl rfl (by omega) (by omega) (by omega) std_M_join_85 rfl ?_
            exact L86 ((fB (uZ VV (ww - 1) (UI VV (ww - 1) x))) x) (by omega)
        refine g_aload_n C 3 std_M_join_14 rfl ?_
        refine g_get C (st_sub sti_M) 0 rfl rfl 26 (by decide) (List.mem_cons_of_mem _ kw_3_92) rfl rfl std_M_join_15 ?_
        refine g_iload_n C 1 std_M_join_18 rfl ?_
        refine g_aload_n C 3 std_M_join_19 rfl ?_
        refine g_get C (st_sub sti_M) 0 rfl rfl 26 (by decide) (List.mem_cons_of_mem _ kw_3_92) rfl rfl std_M_join_20 ?_
        refine g_iload_n C 0 std_M_join_23 rfl ?_
        refine g_iald C 1 0 rfl rfl (by omega) (by omega) (by omega) std_M_join_24 ?_
        refine g_aload_n C 3 std_M_join_25 rfl ?_
        refine g_get C (st_sub sti_M) 0 rfl rfl 26 (by decide) (List.mem_cons_of_mem _ kw_3_92) rfl rfl std_M_join_26 ?_
        refine g_iload_n C 1 std_M_join_29 rfl ?_
        refine g_iald C 1 0 rfl rfl (by omega) (by omega) (by omega) std_M_join_30 ?_
        refine g_icmp_ge (tgt := 43) C std_M_join_31 (by decide) ⟨by omega, by omega⟩ ⟨by omega, by omega⟩ (fun c6 => ?_) (fun c6 => ?_)
        · refine g_aload_n C 3 std_M_join_43 rfl ?_
          refine g_get C (st_sub sti_M) 0 rfl rfl 26 (by decide) (List.mem_cons_of_mem _ kw_3_92) rfl rfl std_M_join_44 ?_
          refine g_iload_n C 1 std_M_join_47 rfl ?_
          refine g_iald C 1 0 rfl rfl (by omega) (by omega) (by omega) std_M_join_48 ?_
          refine g_iast C (ws' := [(m0, .inr (5, [.int (iI 0), .int (iI steps), .ref k_ch, .ref k_co, .ref k_ua, .ref k_ub, .ref k_ba, .int (iI (fle 0)), .int (iI (fle 1)), .int (iI (fmo 0)), .int (iI (fmo 1)), .int (iI (bI HM)), .ref k_rt, .ref k_rf, .ref k_ct, .ref k_cf, .ref k_nd, .ref k_na, .ref k_no, .ref k_bt, .ref k_bc, .ref k_br, .int (iI bg), .int (iI pn), .ref k_pc, .ref k_pr, .ref k_la, .ref k_lb, .ref k_ha, .ref k_hb, .ref k_ls, .ref k_wc, .int (iI wd), .int (iI mg), .int (iI mw), .int (iI mc)])), (k_la, .inl (cI, aI 800 (uZ (fA (uZ VV (ww - 1) (UI VV (ww - 1) x))) (ww - 1) ((fA (uZ VV (ww - 1) (UI VV (ww - 1) x))) (ww - 1))))), (k_lb, .inl (cI, aI 800 (fB (uZ VV (ww - 1) (UI VV (ww - 1) x))))), (k_ha, .inl (cI, aI 800 (fC (uZ VV (ww - 1) (UI VV (ww - 1) x))))), (k_hb, .inl (cI, aI 800 (fD (uZ VV (ww - 1) (UI VV (ww - 1) x))))), (k_ls, .inl (cI, aI 800 (fL (uZ VV (ww - 1) (UI VV (ww - 1) x))))), (k_wc, .inl (cI, aI 800 (fW (uZ VV (ww - 1) (UI VV (ww - 1) x)))))]) 1 0 rfl rfl (by omega) (by omega) (by omega) std_M_join_49 rfl ?_
          exact L50 ((fA (uZ VV (ww - 1) (UI VV (ww - 1) x))) (ww - 1)) (by omega)
        · refine g_aload_n C 3 std_M_join_34 rfl ?_
          refine g_get C (st_sub sti_M) 0 rfl rfl 26 (by decide) (List.mem_cons_of_mem _ kw_3_92) rfl rfl std_M_join_35 ?_
          refine g_iload_n C 0 std_M_join_38 rfl ?_
          refine g_iald C 1 0 rfl rfl (by omega) (by omega) (by omega) std_M_join_39 ?_
          refine g_goto (tgt := 49) C std_M_join_40 (by decide) ?_
          refine g_iast C (ws' := [(m0, .inr (5, [.int (iI 0), .int (iI steps), .ref k_ch, .ref k_co, .ref k_ua, .ref k_ub, .ref k_ba, .int (iI (fle 0)), .int (iI (fle 1)), .int (iI (fmo 0)), .int (iI (fmo 1)), .int (iI (bI HM)), .ref k_rt, .ref k_rf, .ref k_ct, .ref k_cf, .ref k_nd, .ref k_na, .ref k_no, .ref k_bt, .ref k_bc, .ref k_br, .int (iI bg), .int (iI pn), .ref k_pc, .ref k_pr, .ref k_la, .ref k_lb, .ref k_ha, .ref k_hb, .ref k_ls, .ref k_wc, .int (iI wd), .int (iI mg), .int (iI mw), .int (iI mc)])), (k_la, .inl (cI, aI 800 (uZ (fA (uZ VV (ww - 1) (UI VV (ww - 1) x))) (ww - 1) ((fA (uZ VV (ww - 1) (UI VV (ww - 1) x))) x)))), (k_lb, .inl (cI, aI 800 (fB (uZ VV (ww - 1) (UI VV (ww - 1) x))))), (k_ha, .inl (cI, aI 800 (fC (uZ VV (ww - 1) (UI VV (ww - 1) x))))), (k_hb, .inl (cI, aI 800 (fD (uZ VV (ww - 1) (UI VV (ww - 1) x))))), (k_ls, .inl (cI, aI 800 (fL (uZ VV (ww - 1) (UI VV (ww - 1) x))))), (k_wc, .inl (cI, aI 800 (fW (uZ VV (ww - 1) (UI VV (ww - 1) x)))))]) 1 0 rfl rfl (by omega) (by omega) (by omega) std_M_join_49 rfl ?_
          exact L50 ((fA (uZ VV (ww - 1) (UI VV (ww - 1) x))) x) (by omega)
  refine g_lv (lv' := [(3, .int (iI ww)), (2, .int (iI (ww - 1))), (1, .int (iI ww)), (0, .ref m0)]) [0, 1, 3, 2] rfl ?_
  obtain ⟨nn0, hnn0⟩ : ∃ nn0 : Nat, (wd - ww) < (nn0 : Int) := z_nat _
  exact L6 nn0 ww (by omega) hnn0

