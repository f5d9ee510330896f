/-! StateTables: what is asked -/
abbrev sty_S_best : MethodName := ⟨"StateTables", "best", "()I"⟩
abbrev stc_S_best : ByteArray := prog_1_method_8_code
theorem sth_S_best : (sty_S_best).cls ≠ "java/lang/invoke/MethodHandle" ∧ (sty_S_best).cls ≠ "java/lang/invoke/VarHandle" ∧ (parseMethodDescriptor (sty_S_best).desc).map (fun d => d.parameters.length) = some 0 := by decide +kernel
theorem std_S_best_0 : decode stc_S_best 0 = .ok (.aload_n 0, 1) := by decide +kernel
theorem std_S_best_1 : decode stc_S_best 1 = .ok (.getfield 41, 3) := by decide +kernel
theorem std_S_best_4 : decode stc_S_best 4 = .ok (.ifCond .eq 14, 3) := by decide +kernel
theorem std_S_best_18 : decode stc_S_best 18 = .ok (.ldc 105, 2) := by decide +kernel
theorem kw_2_152 : Cond.constant "StateTables" 105 (-4000000) ∈ stGW := st_t2 (List.mem_of_getElem? (i := 152) (by decide +kernel)) (by decide +kernel)
theorem std_S_best_20 : decode stc_S_best 20 = .ok (.ireturn, 1) := by decide +kernel
theorem std_S_best_7 : decode stc_S_best 7 = .ok (.aload_n 0, 1) := by decide +kernel
theorem std_S_best_8 : decode stc_S_best 8 = .ok (.getfield 21, 3) := by decide +kernel
theorem std_S_best_11 : decode stc_S_best 11 = .ok (.iconst 0, 1) := by decide +kernel
theorem std_S_best_12 : decode stc_S_best 12 = .ok (.invokevirtual 101, 3) := by decide +kernel
theorem kw_2_150 : Cond.code sty_Y_leastFrom stc_Y_leastFrom 2 (some .int) ∈ stGW := st_t2 (List.mem_of_getElem? (i := 150) (by decide +kernel)) (by decide +kernel)
theorem kw_2_147 : Cond.methodLink "StateTables" 101 (sty_Y_leastFrom) ∈ stGW := st_t2 (List.mem_of_getElem? (i := 147) (by decide +kernel)) (by decide +kernel)
theorem kw_2_148 : Cond.instanceMethod (sty_Y_leastFrom) ∈ stGW := st_t2 (List.mem_of_getElem? (i := 148) (by decide +kernel)) (by decide +kernel)
theorem kw_2_149 : Cond.selects "StateTables$Layers" (sty_Y_leastFrom) (sty_Y_leastFrom) ∈ stGW := st_t2 (List.mem_of_getElem? (i := 149) (by decide +kernel)) (by decide +kernel)
theorem std_S_best_15 : decode stc_S_best 15 = .ok (.goto 5, 3) := by decide +kernel
set_option maxHeartbeats 4000000 in
set_option maxRecDepth 100000 in
theorem c_best (l : Launch) (dC : Nat → ClassId) (dI : Nat → Nat → Nat) (cI cJ cZ : ClassId) (s0 : Nat) (n0 : Nat) (H : Prop) (y0 : Nat) (ys : Nat) (yk : Nat) (yc : Nat) (yd : Nat) (yw : Nat) (yx : Nat) (yb : Nat) (yu : Nat) (total : Int) (t0 : Nat) (f0 : Nat) (cap : Nat) (gcf : Int → Int) (gwf : Int → Int) (kcap : cap ≤ 4801) (kH : H → 1 ≤ cap ∧ rL (gwf 0)) : ∀ sz, Met l sty_S_best (Cond.code sty_S_best stc_S_best 1 (some .int) :: stGW) ({ frames := 1, cells := 0, slots := 0, locals := 21 } : Room) (va_Pc [.ref s0] (zPre (dC, dI) stCl [(cI, .int), (cJ, .long), (cZ, .boolean)] st_nw [(s0, .inr (0, [.ref t0, .ref y0, .ref f0, .ref n0, .int (iI (bI H))])), (y0, .inr (2, [.ref t0, .int (iI total), .ref ys, .ref yk, .ref yc, .ref yd, .ref yw, .ref yx, .ref yb, .ref yu])), (yd, .inl (cI, aI cap gcf)), (yx, .inl (cJ, aL cap gwf))] sz)) (va_Qi (fun (r : Int32) (_ : Unit) => r = iI (sel H (if 0 < gwf 0 then gcf 0 else (-1000000)) (-4000000))) (zPost (dC, dI) stCl [(cI, .int), (cJ, .long), (cZ, .boolean)] [(s0, .inr (0, [.ref t0, .ref y0, .ref f0, .ref n0, .int (iI (bI H))])), (y0, .inr (2, [.ref t0, .int (iI total), .ref ys, .ref yk, .ref yc, .ref yd, .ref yw, .ref yx, .ref yb, .ref yu])), (yd, .inl (cI, aI cap gcf)), (yx, .inl (cJ, aL cap gwf))] sz (fun _ : Unit => [(s0, .inr (0, [.ref t0, .ref y0, .ref f0, .ref n0, .int (iI (bI H))])), (y0, .inr (2, [.ref t0, .int (iI total), .ref ys, .ref yk, .ref yc, .ref yd, .ref yw, .ref yx, .ref yb, .ref yu])), (yd, .inl (cI, aI cap gcf)), (yx, .inl (cJ, aL cap gwf))])) (va_A [(s0, .inr (0, [.ref t0, .ref y0, .ref f0, .ref n0, .int (iI (bI H))])), (y0, .inr (2, [.ref t0, .int (iI total), .ref ys, .ref yk, .ref yc, .ref yd, .ref yw, .ref yx, .ref yb, .ref yu])), (yd, .inl (cI, aI cap gcf)), (yx, .inl (cJ, aL cap gwf))] sz)) 0 0 (va_A [(s0, .inr (0, [.ref t0, .ref y0, .ref f0, .ref n0, .int (iI (bI H))])), (y0, .inr (2, [.ref t0, .int (iI total), .ref ys, .ref yk, .ref yc, .ref yd, .ref yw, .ref yx, .ref yb, .ref yu])), (yd, .inl (cI, aI cap gcf)), (yx, .inl (cJ, aL cap gwf))] sz) := by
  refine met_i (by decide) rfl (Nat.le_of_ble_eq_true rfl) ?_
  intro p e s m below meth c A Q C hmn hret
  refine g_aload_n C 0 std_S_best_0 rfl ?_
  refine g_get C (st_sub sti_S) 0 rfl rfl 4 (by decide) (List.mem_cons_of_mem _ kw_1_193) rfl rfl std_S_best_1 ?_
  refine g_ifeq_b (tgt := 18) C std_S_best_4 (by decide) (fun c1 => ?_) (fun c1 => ?_)
  · refine g_ldc C (z := (-4000000)) (List.mem_cons_of_mem _ kw_2_152) (by decide) std_S_best_18 ?_
    exact hret _ _ _ () (by rw [sel_f c1]) std_S_best_20
  · have hh := kH c1
    refine g_aload_n C 0 std_S_best_7 rfl ?_
    refine g_get C (st_sub sti_S) 0 rfl rfl 1 (by decide) (List.mem_cons_of_mem _ kw_1_190) rfl rfl std_S_best_8 ?_
    refine g_iconst C std_S_best_11 ?_
    refine g_V_i (wc := [(y0, .inr (2, [.ref t0, .int (iI total), .ref ys, .ref yk, .ref yc, .ref yd, .ref yw, .ref yx, .ref yb, .ref yu])), (yd, .inl (cI, aI cap gcf)), (yx, .inl (cJ, aL cap gwf))]) (wr := [(s0, .inr (0, [.ref t0, .ref y0, .ref f0, .ref n0, .int (iI (bI H))]))]) (rest := []) C (c_leastFrom l dC dI cI cJ cZ y0 ys yk yc yd yw yx yb yu total t0 cap gcf gwf 0 (kcap) (by omega) (hh.2)) (st_cV C kw_2_150 kw_2_147 kw_1_3 kw_2_148 kw_2_149 sth_Y_leastFrom ⟨Nat.le_of_ble_eq_true rfl, Nat.le_of_ble_eq_true rfl⟩) 0 rfl rfl rfl rfl (Nat.le_of_ble_eq_true rfl) std_S_best_12 ⟨Nat.le_of_ble_eq_true rfl, Nat.le_of_ble_eq_true rfl⟩ [1, 2, 3] [0] rfl rfl rfl rfl (by decide) (fun r2 u3 h4 => ?_)
    subst h4
    refine g_ws (ws' := [(s0, .inr (0, [.ref t0, .ref y0, .ref f0, .ref n0, .int (iI (bI H))])), (y0, .inr (2, [.ref t0, .int (iI total), .ref ys, .ref yk, .ref yc, .ref yd, .ref yw, .ref yx, .ref yb, .ref yu])), (yd, .inl (cI, aI cap gcf)), (yx, .inl (cJ, aL cap gwf))]) rfl ?_
    refine g_goto (tgt := 20) C std_S_best_15 (by decide) ?_
    refine g_wide (k := 0) (n := 0) (Nat.le_of_ble_eq_true rfl) (Nat.le_of_ble_eq_true rfl) ?_
    exact hret _ _ _ () (by rw [sel_t c1]) std_S_best_20

abbrev sty_S_many : MethodName := ⟨"StateTables", "many", "()J"⟩
abbrev stc_S_many : ByteArray := prog_1_method_9_code
theorem sth_S_many : (sty_S_many).cls ≠ "java/lang/invoke/MethodHandle" ∧ (sty_S_many).cls ≠ "java/lang/invoke/VarHandle" ∧ (parseMethodDescriptor (sty_S_many).desc).map (fun d => d.parameters.length) = some 0 := by decide +kernel
theorem std_S_many_0 : decode stc_S_many 0 = .ok (.aload_n 0, 1) := by decide +kernel
theorem std_S_many_1 : decode stc_S_many 1 = .ok (.getfield 41, 3) := by decide +kernel
theorem std_S_many_4 : decode stc_S_many 4 = .ok (.ifCond .eq 15, 3) := by decide +kernel
theorem std_S_many_19 : decode stc_S_many 19 = .ok (.ldc2_w 110, 3) := by decide +kernel
theorem kw_2_157 : Cond.constantLong "StateTables" 110 (-4000000) ∈ stGW := st_t2 (List.mem_of_getElem? (i := 157) (by decide +kernel)) (by decide +kernel)
theorem std_S_many_22 : decode stc_S_many 22 = .ok (.lreturn, 1) := by decide +kernel
theorem std_S_many_7 : decode stc_S_many 7 = .ok (.aload_n 0, 1) := by decide +kernel
theorem std_S_many_8 : decode stc_S_many 8 = .ok (.getfield 21, 3) := by decide +kernel
theorem std_S_many_11 : decode stc_S_many 11 = .ok (.getfield 106, 3) := by decide +kernel
theorem kw_1_98 : Cond.fieldLink "StateTables" 106 "StateTables$Layers" "waysFrom" "[J" ∈ stGW := st_t1 (List.mem_of_getElem? (i := 98) (by decide +kernel)) (by decide +kernel)
theorem std_S_many_14 : decode stc_S_many 14 = .ok (.iconst 0, 1) := by decide +kernel
theorem std_S_many_15 : decode stc_S_many 15 = .ok (.laload, 1) := by decide +kernel
theorem std_S_many_16 : decode stc_S_many 16 = .ok (.goto 6, 3) := by decide +kernel
set_option maxHeartbeats 4000000 in
set_option maxRecDepth 100000 in
theorem c_many (l : Launch) (dC : Nat → ClassId) (dI : Nat → Nat → Nat) (cI cJ cZ : ClassId) (s0 : Nat) (n0 : Nat) (H : Prop) (y0 : Nat) (ys : Nat) (yk : Nat) (yc : Nat) (yd : Nat) (yw : Nat) (yx : Nat) (yb : Nat) (yu : Nat) (total : Int) (t0 : Nat) (f0 : Nat) (cap : Nat) (gwf : Int → Int) (kcap : cap ≤ 4801) (kH : H → 1 ≤ cap) : ∀ sz, Met l sty_S_many (Cond.code sty_S_many stc_S_many 1 (some .long) :: stGW) ({ frames := 0, cells := 0, slots := 0, locals := 0 } : Room) (va_Pc [.ref s0] (zPre (dC, dI) stCl [(cI, .int), (cJ, .long), (cZ, .boolean)] st_nw [(s0, .inr (0, [.ref t0, .ref y0, .ref f0, .ref n0, .int (iI (bI H))])), (y0, .inr (2, [.ref t0, .int (iI total), .ref ys, .ref yk, .ref yc, .ref yd, .ref yw, .ref yx, .ref yb, .ref yu])), (yx, .inl (cJ, aL cap gwf))] sz)) (va_Ql (fun (r : Int64) (_ : Unit) => r = lI (sel H (gwf 0) (-4000000))) (zPost (dC, dI) stCl [(cI, .int), (cJ, .long), (cZ, .boolean)] [(s0, .inr (0, [.ref t0, .ref y0, .ref f0, .ref n0, .int (iI (bI H))])), (y0, .inr (2, [.ref t0, .int (iI total), .ref ys, .ref yk, .ref yc, .ref yd, .ref yw, .ref yx, .ref yb, .ref yu])), (yx, .inl (cJ, aL cap gwf))] sz (fun _ : Unit => [(s0, .inr (0, [.ref t0, .ref y0, .ref f0, .ref n0, .int (iI (bI H))])), (y0, .inr (2, [.ref t0, .int (iI total), .ref ys, .ref yk, .ref yc, .ref yd, .ref yw, .ref yx, .ref yb, .ref yu])), (yx, .inl (cJ, aL cap gwf))])) (va_A [(s0, .inr (0, [.ref t0, .ref y0, .ref f0, .ref n0, .int (iI (bI H))])), (y0, .inr (2, [.ref t0, .int (iI total), .ref ys, .ref yk, .ref yc, .ref yd, .ref yw, .ref yx, .ref yb, .ref yu])), (yx, .inl (cJ, aL cap gwf))] sz)) 0 0 (va_A [(s0, .inr (0, [.ref t0, .ref y0, .ref f0, .ref n0, .int (iI (bI H))])), (y0, .inr (2, [.ref t0, .int (iI total), .ref ys, .ref yk, .ref yc, .ref yd, .ref yw, .ref yx, .ref yb, .ref yu])), (yx, .inl (cJ, aL cap gwf))] sz) := by
  refine met_l (by decide) rfl (Nat.le_of_ble_eq_true rfl) ?_
  intro p e s m below meth c A Q C hmn hret
  refine g_aload_n C 0 std_S_many_0 rfl ?_
  refine g_get C (st_sub sti_S) 0 rfl rfl 4 (by decide) (List.mem_cons_of_mem _ kw_1_193) rfl rfl std_S_many_1 ?_
  refine g_ifeq_b (tgt := 19) C std_S_many_4 (by decide) (fun c1 => ?_) (fun c1 => ?_)
  · refine g_ldc2 C (z := (-4000000)) (List.mem_cons_of_mem _ kw_2_157) (by decide) std_S_many_19 ?_
    exact hret _ _ _ () (by rw [sel_f c1]) std_S_many_22
  · have hh := kH c1
    refine g_aload_n C 0 std_S_many_7 rfl ?_
    refine g_get C (st_sub sti_S) 0 rfl rfl 1 (by decide) (List.mem_cons_of_mem _ kw_1_190) rfl rfl std_S_many_8 ?_
    refine g_get C (st_sub sti_Y) 1 rfl rfl 7 (by decide) (List.mem_cons_of_mem _ kw_1_98) rfl rfl std_S_many_11 ?_
    refine g_iconst C std_S_many_14 ?_
    refine g_lald C 2 1 rfl rfl (by omega) (by omega) (by omega) std_S_many_15 ?_
    refine g_goto (tgt := 22) C std_S_many_16 (by decide) ?_
    exact hret _ _ _ () (by rw [sel_t c1]) std_S_many_22

abbrev sty_S_plans : MethodName := ⟨"StateTables", "plans", "()I"⟩
abbrev stc_S_plans : ByteArray := prog_1_method_10_code
theorem sth_S_plans : (sty_S_plans).cls ≠ "java/lang/invoke/MethodHandle" ∧ (sty_S_plans).cls ≠ "java/lang/invoke/VarHandle" ∧ (parseMethodDescriptor (sty_S_plans).desc).map (fun d => d.parameters.length) = some 0 := by decide +kernel
theorem std_S_plans_0 : decode stc_S_plans 0 = .ok (.aload_n 0, 1) := by decide +kernel
theorem std_S_plans_1 : decode stc_S_plans 1 = .ok (.getfield 41, 3) := by decide +kernel
theorem std_S_plans_4 : decode stc_S_plans 4 = .ok (.ifCond .eq 13, 3) := by decide +kernel
theorem std_S_plans_17 : decode stc_S_plans 17 = .ok (.ldc 105, 2) := by decide +kernel
theorem std_S_plans_19 : decode stc_S_plans 19 = .ok (.ireturn, 1) := by decide +kernel
theorem std_S_plans_7 : decode stc_S_plans 7 = .ok (.aload_n 0, 1) := by decide +kernel
theorem std_S_plans_8 : decode stc_S_plans 8 = .ok (.getfield 30, 3) := by decide +kernel
theorem std_S_plans_11 : decode stc_S_plans 11 = .ok (.getfield 112, 3) := by decide +kernel
theorem kw_1_132 : Cond.fieldLink "StateTables" 112 "StateTables$FirstPlans" "found" "I" ∈ stGW := st_t1 (List.mem_of_getElem? (i := 132) (by decide +kernel)) (by decide +kernel)
theorem std_S_plans_14 : decode stc_S_plans 14 = .ok (.goto 5, 3) := by decide +kernel
set_option maxHeartbeats 4000000 in
set_option maxRecDepth 100000 in
theorem c_plans (l : Launch) (dC : Nat → ClassId) (dI : Nat → Nat → Nat) (cI cJ cZ : ClassId) (s0 : Nat) (n0 : Nat) (H : Prop) (f0 : Nat) (r1 : Nat) (e1 : Nat) (r2 : Nat) (e2 : Nat) (fo : Int) (lf : Int) (t0 : Nat) (y0 : Nat)  : ∀ sz, Met l sty_S_plans (Cond.code sty_S_plans stc_S_plans 1 (some .int) :: stGW) ({ frames := 0, cells := 0, slots := 0, locals := 0 } : Room) (va_Pc [.ref s0] (zPre (dC, dI) stCl [(cI, .int), (cJ, .long), (cZ, .boolean)] st_nw [(s0, .inr (0, [.ref t0, .ref y0, .ref f0, .ref n0, .int (iI (bI H))])), (f0, .inr (3, [.ref t0, .ref y0, .int (iI fo), .ref r1, .ref e1, .int (iI lf), .ref r2, .ref e2]))] sz)) (va_Qi (fun (r : Int32) (_ : Unit) => r = iI (sel H fo (-4000000))) (zPost (dC, dI) stCl [(cI, .int), (cJ, .long), (cZ, .boolean)] [(s0, .inr (0, [.ref t0, .ref y0, .ref f0, .ref n0, .int (iI (bI H))])), (f0, .inr (3, [.ref t0, .ref y0, .int (iI fo), .ref r1, .ref e1, .int (iI lf), .ref r2, .ref e2]))] sz (fun _ : Unit => [(s0, .inr (0, [.ref t0, .ref y0, .ref f0, .ref n0, .int (iI (bI H))])), (f0, .inr (3, [.ref t0, .ref y0, .int (iI fo), .ref r1, .ref e1, .int (iI lf), .ref r2, .ref e2]))])) (va_A [(s0, .inr (0, [.ref t0, .ref y0, .ref f0, .ref n0, .int (iI (bI H))])), (f0, .inr (3, [.ref t0, .ref y0, .int (iI fo), .ref r1, .ref e1, .int (iI lf), .ref r2, .ref e2]))] sz)) 0 0 (va_A [(s0, .inr (0, [.ref t0, .ref y0, .ref f0, .ref n0, .int (iI (bI H))])), (f0, .inr (3, [.ref t0, .ref y0, .int (iI fo), .ref r1, .ref e1, .int (iI lf), .ref r2, .ref e2]))] sz) := by
  refine met_i (by decide) rfl (Nat.le_of_ble_eq_true rfl) ?_
  intro p e s m below meth c A Q C hmn hret
  refine g_aload_n C 0 std_S_plans_0 rfl ?_
  refine g_get C (st_sub sti_S) 0 rfl rfl 4 (by decide) (List.mem_cons_of_mem _ kw_1_193) rfl rfl std_S_plans_1 ?_
  refine g_ifeq_b (tgt := 17) C std_S_plans_4 (by decide) (fun c1 => ?_) (fun c1 => ?_)
  · refine g_ldc C (z := (-4000000)) (List.mem_cons_of_mem _ kw_2_152) (by decide) std_S_plans_17 ?_
    exact hret _ _ _ () (by rw [sel_f c1]) std_S_plans_19
  · refine g_aload_n C 0 std_S_plans_7 rfl ?_
    refine g_get C (st_sub sti_S) 0 rfl rfl 2 (by decide) (List.mem_cons_of_mem _ kw_1_191) rfl rfl std_S_plans_8 ?_
    refine g_get C (st_sub sti_F) 1 rfl rfl 2 (by decide) (List.mem_cons_of_mem _ kw_1_132) rfl rfl std_S_plans_11 ?_
    refine g_goto (tgt := 19) C std_S_plans_14 (by decide) ?_
    exact hret _ _ _ () (by rw [sel_t c1]) std_S_plans_19

abbrev sty_S_plan : MethodName := ⟨"StateTables", "plan", "(II)I"⟩
abbrev stc_S_plan : ByteArray := prog_1_method_11_code
theorem sth_S_plan : (sty_S_plan).cls ≠ "java/lang/invoke/MethodHandle" ∧ (sty_S_plan).cls ≠ "java/lang/invoke/VarHandle" ∧ (parseMethodDescriptor (sty_S_plan).desc).map (fun d => d.parameters.length) = some 2 := by decide +kernel
theorem std_S_plan_0 : decode stc_S_plan 0 = .ok (.aload_n 0, 1) := by decide +kernel
theorem std_S_plan_1 : decode stc_S_plan 1 = .ok (.getfield 41, 3) := by decide +kernel
theorem std_S_plan_4 : decode stc_S_plan 4 = .ok (.ifCond .ne 6, 3) := by decide +kernel
theorem std_S_plan_10 : decode stc_S_plan 10 = .ok (.iload_n 1, 1) := by decide +kernel
theorem std_S_plan_11 : decode stc_S_plan 11 = .ok (.ifCond .lt 14, 3) := by decide +kernel
theorem std_S_plan_25 : decode stc_S_plan 25 = .ok (.ldc 64, 2) := by decide +kernel
theorem kw_1_228 : Cond.constant "StateTables" 64 (-2000000) ∈ stGW := st_t1 (List.mem_of_getElem? (i := 228) (by decide +kernel)) (by decide +kernel)
theorem std_S_plan_27 : decode stc_S_plan 27 = .ok (.ireturn, 1) := by decide +kernel
theorem std_S_plan_14 : decode stc_S_plan 14 = .ok (.iload_n 1, 1) := by decide +kernel
theorem std_S_plan_15 : decode stc_S_plan 15 = .ok (.aload_n 0, 1) := by decide +kernel
theorem std_S_plan_16 : decode stc_S_plan 16 = .ok (.getfield 30, 3) := by decide +kernel
theorem std_S_plan_19 : decode stc_S_plan 19 = .ok (.getfield 112, 3) := by decide +kernel
theorem std_S_plan_22 : decode stc_S_plan 22 = .ok (.if_icmp .lt 6, 3) := by decide +kernel
theorem std_S_plan_28 : decode stc_S_plan 28 = .ok (.iload_n 2, 1) := by decide +kernel
theorem std_S_plan_29 : decode stc_S_plan 29 = .ok (.iconst (-1), 1) := by decide +kernel
theorem std_S_plan_30 : decode stc_S_plan 30 = .ok (.if_icmp .ne 12, 3) := by decide +kernel
theorem std_S_plan_42 : decode stc_S_plan 42 = .ok (.aload_n 0, 1) := by decide +kernel
theorem std_S_plan_43 : decode stc_S_plan 43 = .ok (.getfield 12, 3) := by decide +kernel
theorem kw_1_189 : Cond.fieldLink "StateTables" 12 "StateTables" "told" "LStateTables$Told;" ∈ stGW := st_t1 (List.mem_of_getElem? (i := 189) (by decide +kernel)) (by decide +kernel)
theorem std_S_plan_46 : decode stc_S_plan 46 = .ok (.iload_n 2, 1) := by decide +kernel
theorem std_S_plan_47 : decode stc_S_plan 47 = .ok (.invokevirtual 54, 3) := by decide +kernel
theorem kw_1_218 : Cond.methodLink "StateTables" 54 (sty_T_hasStep) ∈ stGW := st_t1 (List.mem_of_getElem? (i := 218) (by decide +kernel)) (by decide +kernel)
theorem std_S_plan_50 : decode stc_S_plan 50 = .ok (.ifCond .eq 15, 3) := by decide +kernel
theorem std_S_plan_65 : decode stc_S_plan 65 = .ok (.ldc 64, 2) := by decide +kernel
theorem std_S_plan_67 : decode stc_S_plan 67 = .ok (.ireturn, 1) := by decide +kernel
theorem std_S_plan_53 : decode stc_S_plan 53 = .ok (.aload_n 0, 1) := by decide +kernel
theorem std_S_plan_54 : decode stc_S_plan 54 = .ok (.getfield 30, 3) := by decide +kernel
theorem std_S_plan_57 : decode stc_S_plan 57 = .ok (.iload_n 1, 1) := by decide +kernel
theorem std_S_plan_58 : decode stc_S_plan 58 = .ok (.iload_n 2, 1) := by decide +kernel
theorem std_S_plan_59 : decode stc_S_plan 59 = .ok (.invokevirtual 118, 3) := by decide +kernel
theorem kw_2_173 : Cond.code sty_F_choiceOf stc_F_choiceOf 3 (some .int) ∈ stGW := st_t2 (List.mem_of_getElem? (i := 173) (by decide +kernel)) (by decide +kernel)
theorem kw_2_170 : Cond.methodLink "StateTables" 118 (sty_F_choiceOf) ∈ stGW := st_t2 (List.mem_of_getElem? (i := 170) (by decide +kernel)) (by decide +kernel)
theorem kw_2_171 : Cond.instanceMethod (sty_F_choiceOf) ∈ stGW := st_t2 (List.mem_of_getElem? (i := 171) (by decide +kernel)) (by decide +kernel)
theorem kw_2_172 : Cond.selects "StateTables$FirstPlans" (sty_F_choiceOf) (sty_F_choiceOf) ∈ stGW := st_t2 (List.mem_of_getElem? (i := 172) (by decide +kernel)) (by decide +kernel)
theorem std_S_plan_62 : decode stc_S_plan 62 = .ok (.goto 5, 3) := by decide +kernel
theorem std_S_plan_33 : decode stc_S_plan 33 = .ok (.aload_n 0, 1) := by decide +kernel
theorem std_S_plan_34 : decode stc_S_plan 34 = .ok (.getfield 30, 3) := by decide +kernel
theorem std_S_plan_37 : decode stc_S_plan 37 = .ok (.iload_n 1, 1) := by decide +kernel
theorem std_S_plan_38 : decode stc_S_plan 38 = .ok (.invokevirtual 115, 3) := by decide +kernel
theorem kw_2_169 : Cond.code sty_F_costOf stc_F_costOf 2 (some .int) ∈ stGW := st_t2 (List.mem_of_getElem? (i := 169) (by decide +kernel)) (by decide +kernel)
theorem kw_2_166 : Cond.methodLink "StateTables" 115 (sty_F_costOf) ∈ stGW := st_t2 (List.mem_of_getElem? (i := 166) (by decide +kernel)) (by decide +kernel)
theorem kw_2_167 : Cond.instanceMethod (sty_F_costOf) ∈ stGW := st_t2 (List.mem_of_getElem? (i := 167) (by decide +kernel)) (by decide +kernel)
theorem kw_2_168 : Cond.selects "StateTables$FirstPlans" (sty_F_costOf) (sty_F_costOf) ∈ stGW := st_t2 (List.mem_of_getElem? (i := 168) (by decide +kernel)) (by decide +kernel)
theorem std_S_plan_41 : decode stc_S_plan 41 = .ok (.ireturn, 1) := by decide +kernel
theorem std_S_plan_7 : decode stc_S_plan 7 = .ok (.ldc 105, 2) := by decide +kernel
theorem std_S_plan_9 : decode stc_S_plan 9 = .ok (.ireturn, 1) := by decide +kernel
set_option maxHeartbeats 4000000 in
set_option maxRecDepth 100000 in
theorem c_plan (l : Launch) (dC : Nat → ClassId) (dI : Nat → Nat → Nat) (cI cJ cZ : ClassId) (s0 : Nat) (n0 : Nat) (H : Prop) (f0 : Nat) (r1 : Nat) (e1 : Nat) (r2 : Nat) (e2 : Nat) (fo : Int) (lf : Int) (t0 : Nat) (hs : Nat) (hc : Nat) (hf : Nat) (hg : Nat) (hb : Nat) (he : Nat) (hm : Nat) (steps : Int) (choices : Int) (bars : Int) (y0 : Nat) (fr1 : Int → Int) (a : Int) (b : Int) (kst : 0 ≤ steps ∧ steps ≤ 12) (ka : rI a) (kb : rI b) (kH : H → (0 ≤ fo ∧ fo ≤ 20) ∧ ∀ i, 0 ≤ i → i < fo → 0 ≤ fr1 i ∧ fr1 i < 4611686018427387904) : ∀ sz, Met l sty_S_plan (Cond.code sty_S_plan stc_S_plan 3 (some .int) :: stGW) ({ frames := 2, cells := 0, slots := 0, locals := 42 } : Room) (va_Pc [.ref s0, .int (iI a), .int (iI b)] (zPre (dC, dI) stCl [(cI, .int), (cJ, .long), (cZ, .boolean)] st_nw [(s0, .inr (0, [.ref t0, .ref y0, .ref f0, .ref n0, .int (iI (bI H))])), (f0, .inr (3, [.ref t0, .ref y0, .int (iI fo), .ref r1, .ref e1, .int (iI lf), .ref r2, .ref e2])), (r1, .inl (cJ, aL 20 fr1)), (t0, .inr (1, [.int (iI steps), .int (iI choices), .int (iI bars), .ref hs, .ref hc, .ref hf, .ref hg, .ref hb, .ref he, .ref hm]))] sz)) (va_Qi (fun (r : Int32) (_ : Unit) => r = iI (sel H (sel (a < 0 ∨ fo ≤ a) (-2000000) (sel (b = -1) (((fr1 a) / 68719476736) - 12000) (sel (0 ≤ b ∧ b < steps) (((fr1 a) / (2 ^ (3 * (11 - b)).toNat)) % 8) (-2000000)))) (-4000000))) (zPost (dC, dI) stCl [(cI, .int), (cJ, .long), (cZ, .boolean)] [(s0, .inr (0, [.ref t0, .ref y0, .ref f0, .ref n0, .int (iI (bI H))])), (f0, .inr (3, [.ref t0, .ref y0, .int (iI fo), .ref r1, .ref e1, .int (iI lf), .ref r2, .ref e2])), (r1, .inl (cJ, aL 20 fr1)), (t0, .inr (1, [.int (iI steps), .int (iI choices), .int (iI bars), .ref hs, .ref hc, .ref hf, .ref hg, .ref hb, .ref he, .ref hm]))] sz (fun _ : Unit => [(s0, .inr (0, [.ref t0, .ref y0, .ref f0, .ref n0, .int (iI (bI H))])), (f0, .inr (3, [.ref t0, .ref y0, .int (iI fo), .ref r1, .ref e1, .int (iI lf), .ref r2, .ref e2])), (r1, .inl (cJ, aL 20 fr1)), (t0, .inr (1, [.int (iI steps), .int (iI choices), .int (iI bars), .ref hs, .ref hc, .ref hf, .ref hg, .ref hb, .ref he, .ref hm]))])) (va_A [(s0, .inr (0, [.ref t0, .ref y0, .ref f0, .ref n0, .int (iI (bI H))])), (f0, .inr (3, [.ref t0, .ref y0, .int (iI fo), .ref r1, .ref e1, .int (iI lf), .ref r2, .ref e2])), (r1, .inl (cJ, aL 20 fr1)), (t0, .inr (1, [.int (iI steps), .int (iI choices), .int (iI bars), .ref hs, .ref hc, .ref hf, .ref hg, .ref hb, .ref he, .ref hm]))] sz)) 0 0 (va_A [(s0, .inr (0, [.ref t0, .ref y0, .ref f0, .ref n0, .int (iI (bI H))])), (f0, .inr (3, [.ref t0, .ref y0, .int (iI fo), .ref r1, .ref e1, .int (iI lf), .ref r2, .ref e2])), (r1, .inl (cJ, aL 20 fr1)), (t0, .inr (1, [.int (iI steps), .int (iI choices), .int (iI bars), .ref hs, .ref hc, .ref hf, .ref hg, .ref hb, .ref he, .ref hm]))] sz) := by
  refine met_i (by decide) rfl (Nat.le_of_ble_eq_true rfl) ?_
  intro p e s m below meth c A Q C hmn hret
  refine g_aload_n C 0 std_S_plan_0 rfl ?_
  refine g_get C (st_sub sti_S) 0 rfl rfl 4 (by decide) (List.mem_cons_of_mem _ kw_1_193) rfl rfl std_S_plan_1 ?_
  refine g_ifne_b (tgt := 10) C std_S_plan_4 (by decide) (fun c1 => ?_) (fun c1 => ?_)
  · have hh := kH c1
    refine g_iload_n C 1 std_S_plan_10 rfl ?_
    refine g_if_lt (tgt := 25) C std_S_plan_11 (by decide) ⟨by omega, by omega⟩ (fun c2 => ?_) (fun c2 => ?_)
    · refine g_ldc C (z := (-2000000)) (List.mem_cons_of_mem _ kw_1_228) (by decide) std_S_plan_25 ?_
      exact hret _ _ _ () (by rw [sel_t c1, sel_t (by omega)]) std_S_plan_27
    · refine g_iload_n C 1 std_S_plan_14 rfl ?_
      refine g_aload_n C 0 std_S_plan_15 rfl ?_
      refine g_get C (st_sub sti_S) 0 rfl rfl 2 (by decide) (List.mem_cons_of_mem _ kw_1_191) rfl rfl std_S_plan_16 ?_
      refine g_get C (st_sub sti_F) 1 rfl rfl 2 (by decide) (List.mem_cons_of_mem _ kw_1_132) rfl rfl std_S_plan_19 ?_
      refine g_icmp_lt (tgt := 28) C std_S_plan_22 (by decide) ⟨by omega, by omega⟩ ⟨by omega, by omega⟩ (fun c3 => ?_) (fun c3 => ?_)
      · have hq := hh.2 a (by omega) (by omega)
        refine g_iload_n C 2 std_S_plan_28 rfl ?_
        refine g_iconst C std_S_plan_29 ?_
        refine g_icmp_ne (tgt := 42) C std_S_plan_30 (by decide) ⟨by omega, by omega⟩ ⟨by omega, by omega⟩ (fun c4 => ?_) (fun c4 => ?_)
        · refine g_aload_n C 0 std_S_plan_42 rfl ?_
          refine g_get C (st_sub sti_S) 0 rfl rfl 0 (by decide) (List.mem_cons_of_mem _ kw_1_189) rfl rfl std_S_plan_43 ?_
          refine g_iload_n C 2 std_S_plan_46 rfl ?_
          refine g_V_i (wc := [(t0, .inr (1, [.int (iI steps), .int (iI choices), .int (iI bars), .ref hs, .ref hc, .ref hf, .ref hg, .ref hb, .ref he, .ref hm]))]) (wr := [(s0, .inr (0, [.ref t0, .ref y0, .ref f0, .ref n0, .int (iI (bI H))])), (f0, .inr (3, [.ref t0, .ref y0, .int (iI fo), .ref r1, .ref e1, .int (iI lf), .ref r2, .ref e2])), (r1, .inl (cJ, aL 20 fr1))]) (rest := []) C (c_hasStep l dC dI cI cJ cZ t0 hs hc hf hg hb he hm steps choices bars b (kst) (by omega)) (st_cV C kw_1_221 kw_1_218 kw_1_2 kw_1_219 kw_1_220 sth_T_hasStep ⟨Nat.le_of_ble_eq_true rfl, Nat.le_of_ble_eq_true rfl⟩) 0 rfl rfl rfl rfl (Nat.le_of_ble_eq_true rfl) std_S_plan_47 ⟨Nat.le_of_ble_eq_true rfl, Nat.le_of_ble_eq_true rfl⟩ [3] [0, 1, 2] rfl rfl rfl rfl (by decide) (fun r5 u6 h7 => ?_)
          subst h7
          refine g_ws (ws' := [(s0, .inr (0, [.ref t0, .ref y0, .ref f0, .ref n0, .int (iI (bI H))])), (f0, .inr (3, [.ref t0, .ref y0, .int (iI fo), .ref r1, .ref e1, .int (iI lf), .ref r2, .ref e2])), (r1, .inl (cJ, aL 20 fr1)), (t0, .inr (1, [.int (iI steps), .int (iI choices), .int (iI bars), .ref hs, .ref hc, .ref hf, .ref hg, .ref hb, .ref he, .ref hm]))]) rfl ?_
          refine g_ifeq_b (tgt := 65) C std_S_plan_50 (by decide) (fun c8 => ?_) (fun c8 => ?_)
          · refine g_ldc C (z := (-2000000)) (List.mem_cons_of_mem _ kw_1_228) (by decide) std_S_plan_65 ?_
            refine g_wide (k := 0) (n := 0) (Nat.le_of_ble_eq_true rfl) (Nat.le_of_ble_eq_true rfl) ?_
            exact hret _ _ _ () (by rw [sel_t c1, sel_f (by omega), sel_f (by omega), sel_f (by omega)]) std_S_plan_67
          · refine g_aload_n C 0 std_S_plan_53 rfl ?_
            refine g_get C (st_sub sti_S) 0 rfl rfl 2 (by decide) (List.mem_cons_of_mem _ kw_1_191) rfl rfl std_S_plan_54 ?_
            refine g_iload_n C 1 std_S_plan_57 rfl ?_
            refine g_iload_n C 2 std_S_plan_58 rfl ?_
            refine g_V_i (wc := [(f0, .inr (3, [.ref t0, .ref y0, .int (iI fo), .ref r1, .ref e1, .int (iI lf), .ref r2, .ref e2])), (r1, .inl (cJ, aL 20 fr1))]) (wr := [(s0, .inr (0, [.ref t0, .ref y0, .ref f0, .ref n0, .int (iI (bI H))])), (t0, .inr (1, [.int (iI steps), .int (iI choices), .int (iI bars), .ref hs, .ref hc, .ref hf, .ref hg, .ref hb, .ref he, .ref hm]))]) (rest := []) C (c_choiceOf l dC dI cI cJ cZ f0 r1 e1 r2 e2 fo lf t0 y0 fr1 a b (by omega) (by omega) (by omega)) (st_cV C kw_2_173 kw_2_170 kw_1_4 kw_2_171 kw_2_172 sth_F_choiceOf ⟨Nat.le_of_ble_eq_true rfl, Nat.le_of_ble_eq_true rfl⟩) 0 rfl rfl rfl rfl (Nat.le_of_ble_eq_true rfl) std_S_plan_59 ⟨Nat.le_of_ble_eq_true rfl, Nat.le_of_ble_eq_true rfl⟩ [1, 2] [0, 3] rfl rfl rfl rfl (by decide) (fun r9 u10 h11 => ?_)
            subst h11
            refine g_ws (ws' := [(s0, .inr (0, [.ref t0, .ref y0, .ref f0, .ref n0, .int (iI (bI H))])), (t0, .inr (1, [.int (iI steps), .int (iI choices), .int (iI bars), .ref hs, .ref hc, .ref hf, .ref hg, .ref hb, .ref he, .ref hm])), (f0, .inr (3, [.ref t0, .ref y0, .int (iI fo), .ref r1, .ref e1, .int (iI lf), .ref r2, .ref e2])), (r1, .inl (cJ, aL 20 fr1))]) rfl ?_
            refine g_goto (tgt := 67) C std_S_plan_62 (by decide) ?_
            refine g_sub (ws' := [(s0, .inr (0, [.ref t0, .ref y0, .ref f0, .ref n0, .int (iI (bI H))])), (f0, .inr (3, [.ref t0, .ref y0, .int (iI fo), .ref r1, .ref e1, .int (iI lf), .ref r2, .ref e2])), (r1, .inl (cJ, aL 20 fr1)), (t0, .inr (1, [.int (iI steps), .int (iI choices), .int (iI bars), .ref hs, .ref hc, .ref hf, .ref hg, .ref hb, .ref he, .ref hm]))]) [0, 2, 3, 1] rfl rfl ?_
            refine g_wide (k := 0) (n := 0) (Nat.le_of_ble_eq_true rfl) (Nat.le_of_ble_eq_true rfl) ?_
            exact hret _ _ _ () (by rw [sel_t c1, sel_f (by omega), sel_f (by omega), sel_t (by omega)]) std_S_plan_67
        · refine g_aload_n C 0 std_S_plan_33 rfl ?_
          refine g_get C (st_sub sti_S) 0 rfl rfl 2 (by decide) (List.mem_cons_of_mem _ kw_1_191) rfl rfl std_S_plan_34 ?_
          refine g_iload_n C 1 std_S_plan_37 rfl ?_
          refine g_V_i (wc := [(f0, .inr (3, [.ref t0, .ref y0, .int (iI fo), .ref r1, .ref e1, .int (iI lf), .ref r2, .ref e2])), (r1, .inl (cJ, aL 20 fr1))]) (wr := [(s0, .inr (0, [.ref t0, .ref y0, .ref f0, .ref n0, .int (iI (bI H))])), (t0, .inr (1, [.int (iI steps), .int (iI choices), .int (iI bars), .ref hs, .ref hc, .ref hf, .ref hg, .ref hb, .ref he, .ref hm]))]) (rest := []) C (c_costOf l dC dI cI cJ cZ f0 r1 e1 r2 e2 fo lf t0 y0 fr1 a (by omega) (by omega)) (st_cV C kw_2_169 kw_2_166 kw_1_4 kw_2_167 kw_2_168 sth_F_costOf ⟨Nat.le_of_ble_eq_true rfl, Nat.le_of_ble_eq_true rfl⟩) 0 rfl rfl rfl rfl (Nat.le_of_ble_eq_true rfl) std_S_plan_38 ⟨Nat.le_of_ble_eq_true rfl, Nat.le_of_ble_eq_true rfl⟩ [1, 2] [0, 3] rfl rfl rfl rfl (by decide) (fun r12 u13 h14 => ?_)
          subst h14
          refine g_ws (ws' := [(s0, .inr (0, [.ref t0, .ref y0, .ref f0, .ref n0, .int (iI (bI H))])), (t0, .inr (1, [.int (iI steps), .int (iI choices), .int (iI bars), .ref hs, .ref hc, .ref hf, .ref hg, .ref hb, .ref he, .ref hm])), (f0, .inr (3, [.ref t0, .ref y0, .int (iI fo), .ref r1, .ref e1, .int (iI lf), .ref r2, .ref e2])), (r1, .inl (cJ, aL 20 fr1))]) rfl ?_
          refine g_sub (ws' := [(s0, .inr (0, [.ref t0, .ref y0, .ref f0, .ref n0, .int (iI (bI H))])), (f0, .inr (3, [.ref t0, .ref y0, .int (iI fo), .ref r1, .ref e1, .int (iI lf), .ref r2, .ref e2])), (r1, .inl (cJ, aL 20 fr1)), (t0, .inr (1, [.int (iI steps), .int (iI choices), .int (iI bars), .ref hs, .ref hc, .ref hf, .ref hg, .ref hb, .ref he, .ref hm]))]) [0, 2, 3, 1] rfl rfl ?_
          refine g_wide (k := 0) (n := 0) (Nat.le_of_ble_eq_true rfl) (Nat.le_of_ble_eq_true rfl) ?_
          exact hret _ _ _ () (by rw [sel_t c1, sel_f (by omega), sel_t (by omega)]) std_S_plan_41
      · refine g_ldc C (z := (-2000000)) (List.mem_cons_of_mem _ kw_1_228) (by decide) std_S_plan_25 ?_
        exact hret _ _ _ () (by rw [sel_t c1, sel_t (by omega)]) std_S_plan_27
  · refine g_ldc C (z := (-4000000)) (List.mem_cons_of_mem _ kw_2_152) (by decide) std_S_plan_7 ?_
    exact hret _ _ _ () (by rw [sel_f c1]) std_S_plan_9

abbrev sty_S_layer : MethodName := ⟨"StateTables", "layer", "(I)I"⟩
abbrev stc_S_layer : ByteArray := prog_1_method_12_code
theorem sth_S_layer : (sty_S_layer).cls ≠ "java/lang/invoke/MethodHandle" ∧ (sty_S_layer).cls ≠ "java/lang/invoke/VarHandle" ∧ (parseMethodDescriptor (sty_S_layer).desc).map (fun d => d.parameters.length) = some 1 := by decide +kernel
theorem std_S_layer_0 : decode stc_S_layer 0 = .ok (.aload_n 0, 1) := by decide +kernel
theorem std_S_layer_1 : decode stc_S_layer 1 = .ok (.getfield 41, 3) := by decide +kernel
theorem std_S_layer_4 : decode stc_S_layer 4 = .ok (.ifCond .ne 6, 3) := by decide +kernel
theorem std_S_layer_10 : decode stc_S_layer 10 = .ok (.aload_n 0, 1) := by decide +kernel
theorem std_S_layer_11 : decode stc_S_layer 11 = .ok (.getfield 21, 3) := by decide +kernel
theorem std_S_layer_14 : decode stc_S_layer 14 = .ok (.iload_n 1, 1) := by decide +kernel
theorem std_S_layer_15 : decode stc_S_layer 15 = .ok (.invokevirtual 122, 3) := by decide +kernel
theorem kw_2_178 : Cond.methodLink "StateTables" 122 (sty_Y_hasLayer) ∈ stGW := st_t2 (List.mem_of_getElem? (i := 178) (by decide +kernel)) (by decide +kernel)
theorem std_S_layer_18 : decode stc_S_layer 18 = .ok (.ifCond .eq 14, 3) := by decide +kernel
theorem std_S_layer_32 : decode stc_S_layer 32 = .ok (.ldc 64, 2) := by decide +kernel
theorem std_S_layer_34 : decode stc_S_layer 34 = .ok (.ireturn, 1) := by decide +kernel
theorem std_S_layer_21 : decode stc_S_layer 21 = .ok (.aload_n 0, 1) := by decide +kernel
theorem std_S_layer_22 : decode stc_S_layer 22 = .ok (.getfield 21, 3) := by decide +kernel
theorem std_S_layer_25 : decode stc_S_layer 25 = .ok (.iload_n 1, 1) := by decide +kernel
theorem std_S_layer_26 : decode stc_S_layer 26 = .ok (.invokevirtual 125, 3) := by decide +kernel
theorem kw_2_182 : Cond.methodLink "StateTables" 125 (sty_Y_sizeOf) ∈ stGW := st_t2 (List.mem_of_getElem? (i := 182) (by decide +kernel)) (by decide +kernel)
theorem std_S_layer_29 : decode stc_S_layer 29 = .ok (.goto 5, 3) := by decide +kernel
theorem std_S_layer_7 : decode stc_S_layer 7 = .ok (.ldc 105, 2) := by decide +kernel
theorem std_S_layer_9 : decode stc_S_layer 9 = .ok (.ireturn, 1) := by decide +kernel
set_option maxHeartbeats 4000000 in
set_option maxRecDepth 100000 in
theorem c_layer (l : Launch) (dC : Nat → ClassId) (dI : Nat → Nat → Nat) (cI cJ cZ : ClassId) (s0 : Nat) (n0 : Nat) (H : Prop) (y0 : Nat) (ys : Nat) (yk : Nat) (yc : Nat) (yd : Nat) (yw : Nat) (yx : Nat) (yb : Nat) (yu : Nat) (total : Int) (t0 : Nat) (hs : Nat) (hc : Nat) (hf : Nat) (hg : Nat) (hb : Nat) (he : Nat) (hm : Nat) (steps : Int) (choices : Int) (bars : Int) (f0 : Nat) (cap : Nat) (gst : Int → Int) (a : Int) (kst : 0 ≤ steps ∧ steps ≤ 12) (ka : rI a) : ∀ sz, Met l sty_S_layer (Cond.code sty_S_layer stc_S_layer 2 (some .int) :: stGW) ({ frames := 1, cells := 0, slots := 0, locals := 21 } : Room) (va_Pc [.ref s0, .int (iI a)] (zPre (dC, dI) stCl [(cI, .int), (cJ, .long), (cZ, .boolean)] st_nw [(s0, .inr (0, [.ref t0, .ref y0, .ref f0, .ref n0, .int (iI (bI H))])), (y0, .inr (2, [.ref t0, .int (iI total), .ref ys, .ref yk, .ref yc, .ref yd, .ref yw, .ref yx, .ref yb, .ref yu])), (t0, .inr (1, [.int (iI steps), .int (iI choices), .int (iI bars), .ref hs, .ref hc, .ref hf, .ref hg, .ref hb, .ref he, .ref hm])), (ys, .inl (cI, aI 14 gst))] sz)) (va_Qi (fun (r : Int32) (_ : Unit) => r = iI (sel H (sel (0 ≤ a ∧ a ≤ steps) ((gst (a + 1)) - (gst a)) (-2000000)) (-4000000))) (zPost (dC, dI) stCl [(cI, .int), (cJ, .long), (cZ, .boolean)] [(s0, .inr (0, [.ref t0, .ref y0, .ref f0, .ref n0, .int (iI (bI H))])), (y0, .inr (2, [.ref t0, .int (iI total), .ref ys, .ref yk, .ref yc, .ref yd, .ref yw, .ref yx, .ref yb, .ref yu])), (t0, .inr (1, [.int (iI steps), .int (iI choices), .int (iI bars), .ref hs, .ref hc, .ref hf, .ref hg, .ref hb, .ref he, .ref hm])), (ys, .inl (cI, aI 14 gst))] sz (fun _ : Unit => [(s0, .inr (0, [.ref t0, .ref y0, .ref f0, .ref n0, .int (iI (bI H))])), (y0, .inr (2, [.ref t0, .int (iI total), .ref ys, .ref yk, .ref yc, .ref yd, .ref yw, .ref yx, .ref yb, .ref yu])), (t0, .inr (1, [.int (iI steps), .int (iI choices), .int (iI bars), .ref hs, .ref hc, .ref hf, .ref hg, .ref hb, .ref he, .ref hm])), (ys, .inl (cI, aI 14 gst))])) (va_A [(s0, .inr (0, [.ref t0, .ref y0, .ref f0, .ref n0, .int (iI (bI H))])), (y0, .inr (2, [.ref t0, .int (iI total), .ref ys, .ref yk, .ref yc, .ref yd, .ref yw, .ref yx, .ref yb, .ref yu])), (t0, .inr (1, [.int (iI steps), .int (iI choices), .int (iI bars), .ref hs, .ref hc, .ref hf, .ref hg, .ref hb, .ref he, .ref hm])), (ys, .inl (cI, aI 14 gst))] sz)) 0 0 (va_A [(s0, .inr (0, [.ref t0, .ref y0, .ref f0, .ref n0, .int (iI (bI H))])), (y0, .inr (2, [.ref t0, .int (iI total), .ref ys, .ref yk, .ref yc, .ref yd, .ref yw, .ref yx, .ref yb, .ref yu])), (t0, .inr (1, [.int (iI steps), .int (iI choices), .int (iI bars), .ref hs, .ref hc, .ref hf, .ref hg, .ref hb, .ref he, .ref hm])), (ys, .inl (cI, aI 14 gst))] sz) := by
  refine met_i (by decide) rfl (Nat.le_of_ble_eq_true rfl) ?_
  intro p e s m below meth c A Q C hmn hret
  refine g_aload_n C 0 std_S_layer_0 rfl ?_
  refine g_get C (st_sub sti_S) 0 rfl rfl 4 (by decide) (List.mem_cons_of_mem _ kw_1_193) rfl rfl std_S_layer_1 ?_
  refine g_ifne_b (tgt := 10) C std_S_layer_4 (by decide) (fun c1 => ?_) (fun c1 => ?_)
  · refine g_aload_n C 0 std_S_layer_10 rfl ?_
    refine g_get C (st_sub sti_S) 0 rfl rfl 1 (by decide) (List.mem_cons_of_mem _ kw_1_190) rfl rfl std_S_layer_11 ?_
    refine g_iload_n C 1 std_S_layer_14 rfl ?_
    refine g_V_i (wc := [(y0, .inr (2, [.ref t0, .int (iI total), .ref ys, .ref yk, .ref yc, .ref yd, .ref yw, .ref yx, .ref yb, .ref yu])), (t0, .inr (1, [.int (iI steps), .int (iI choices), .int (iI bars), .ref hs, .ref hc, .ref hf, .ref hg, .ref hb, .ref he, .ref hm]))]) (wr := [(s0, .inr (0, [.ref t0, .ref y0, .ref f0, .ref n0, .int (iI (bI H))])), (ys, .inl (cI, aI 14 gst))]) (rest := []) C (c_hasLayer l dC dI cI cJ cZ y0 ys yk yc yd yw yx yb yu total t0 hs hc hf hg hb he hm steps choices bars a (kst) (by omega)) (st_cV C kw_2_181 kw_2_178 kw_1_3 kw_2_179 kw_2_180 sth_Y_hasLayer ⟨Nat.le_of_ble_eq_true rfl, Nat.le_of_ble_eq_true rfl⟩) 0 rfl rfl rfl rfl (Nat.le_of_ble_eq_true rfl) std_S_layer_15 ⟨Nat.le_of_ble_eq_true rfl, Nat.le_of_ble_eq_true rfl⟩ [1, 2] [0, 3] rfl rfl rfl rfl (by decide) (fun r2 u3 h4 => ?_)
    subst h4
    refine g_ws (ws' := [(s0, .inr (0, [.ref t0, .ref y0, .ref f0, .ref n0, .int (iI (bI H))])), (ys, .inl (cI, aI 14 gst)), (y0, .inr (2, [.ref t0, .int (iI total), .ref ys, .ref yk, .ref yc, .ref yd, .ref yw, .ref yx, .ref yb, .ref yu])), (t0, .inr (1, [.int (iI steps), .int (iI choices), .int (iI bars), .ref hs, .ref hc, .ref hf, .ref hg, .ref hb, .ref he, .ref hm]))]) rfl ?_
    refine g_ifeq_b (tgt := 32) C std_S_layer_18 (by decide) (fun c5 => ?_) (fun c5 => ?_)
    · refine g_ldc C (z := (-2000000)) (List.mem_cons_of_mem _ kw_1_228) (by decide) std_S_layer_32 ?_
      refine g_sub (ws' := [(s0, .inr (0, [.ref t0, .ref y0, .ref f0, .ref n0, .int (iI (bI H))])), (y0, .inr (2, [.ref t0, .int (iI total), .ref ys, .ref yk, .ref yc, .ref yd, .ref yw, .ref yx, .ref yb, .ref yu])), (t0, .inr (1, [.int (iI steps), .int (iI choices), .int (iI bars), .ref hs, .ref hc, .ref hf, .ref hg, .ref hb, .ref he, .ref hm])), (ys, .inl (cI, aI 14 gst))]) [0, 2, 3, 1] rfl rfl ?_
      refine g_wide (k := 0) (n := 0) (Nat.le_of_ble_eq_true rfl) (Nat.le_of_ble_eq_true rfl) ?_
      exact hret _ _ _ () (by rw [sel_t c1, sel_f (by omega)]) std_S_layer_34
    · refine g_aload_n C 0 std_S_layer_21 rfl ?_
      refine g_get C (st_sub sti_S) 0 rfl rfl 1 (by decide) (List.mem_cons_of_mem _ kw_1_190) rfl rfl std_S_layer_22 ?_
      refine g_iload_n C 1 std_S_layer_25 rfl ?_
      refine g_V_i (wc := [(y0, .inr (2, [.ref t0, .int (iI total), .ref ys, .ref yk, .ref yc, .ref yd, .ref yw, .ref yx, .ref yb, .ref yu])), (ys, .inl (cI, aI 14 gst))]) (wr := [(s0, .inr (0, [.ref t0, .ref y0, .ref f0, .ref n0, .int (iI (bI H))])), (t0, .inr (1, [.int (iI steps), .int (iI choices), .int (iI bars), .ref hs, .ref hc, .ref hf, .ref hg, .ref hb, .ref he, .ref hm]))]) (rest := []) C (c_sizeOf l dC dI cI cJ cZ y0 ys yk yc yd yw yx yb yu total t0 gst a (by omega)) (st_cV C kw_2_43 kw_2_182 kw_1_3 kw_2_41 kw_2_42 sth_Y_sizeOf ⟨Nat.le_of_ble_eq_true rfl, Nat.le_of_ble_eq_true rfl⟩) 0 rfl rfl rfl rfl (Nat.le_of_ble_eq_true rfl) std_S_layer_26 ⟨Nat.le_of_ble_eq_true rfl, Nat.le_of_ble_eq_true rfl⟩ [2, 1] [0, 3] rfl rfl rfl rfl (by decide) (fun r6 u7 h8 => ?_)
      subst h8
      refine g_ws (ws' := [(s0, .inr (0, [.ref t0, .ref y0, .ref f0, .ref n0, .int (iI (bI H))])), (t0, .inr (1, [.int (iI steps), .int (iI choices), .int (iI bars), .ref hs, .ref hc, .ref hf, .ref hg, .ref hb, .ref he, .ref hm])), (y0, .inr (2, [.ref t0, .int (iI total), .ref ys, .ref yk, .ref yc, .ref yd, .ref yw, .ref yx, .ref yb, .ref yu])), (ys, .inl (cI, aI 14 gst))]) rfl ?_
      refine g_goto (tgt := 34) C std_S_layer_29 (by decide) ?_
      refine g_sub (ws' := [(s0, .inr (0, [.ref t0, .ref y0, .ref f0, .ref n0, .int (iI (bI H))])), (y0, .inr (2, [.ref t0, .int (iI total), .ref ys, .ref yk, .ref yc, .ref yd, .ref yw, .ref yx, .ref yb, .ref yu])), (t0, .inr (1, [.int (iI steps), .int (iI choices), .int (iI bars), .ref hs, .ref hc, .ref hf, .ref hg, .ref hb, .ref he, .ref hm])), (ys, .inl (cI, aI 14 gst))]) [0, 2, 1, 3] rfl rfl ?_
      refine g_wide (k := 0) (n := 0) (Nat.le_of_ble_eq_true rfl) (Nat.le_of_ble_eq_true rfl) ?_
      exact hret _ _ _ () (by rw [sel_t c1, sel_t (by omega)]) std_S_layer_34
  · refine g_ldc C (z := (-4000000)) (List.mem_cons_of_mem _ kw_2_152) (by decide) std_S_layer_7 ?_
    exact hret _ _ _ () (by rw [sel_f c1]) std_S_layer_9

abbrev sty_S_ways : MethodName := ⟨"StateTables", "ways", "(IIZ)J"⟩
abbrev stc_S_ways : ByteArray := prog_1_method_14_code
theorem sth_S_ways : (sty_S_ways).cls ≠ "java/lang/invoke/MethodHandle" ∧ (sty_S_ways).cls ≠ "java/lang/invoke/VarHandle" ∧ (parseMethodDescriptor (sty_S_ways).desc).map (fun d => d.parameters.length) = some 3 := by decide +kernel
theorem std_S_ways_0 : decode stc_S_ways 0 = .ok (.aload_n 0, 1) := by decide +kernel
theorem std_S_ways_1 : decode stc_S_ways 1 = .ok (.getfield 41, 3) := by decide +kernel
theorem std_S_ways_4 : decode stc_S_ways 4 = .ok (.ifCond .ne 7, 3) := by decide +kernel
theorem std_S_ways_11 : decode stc_S_ways 11 = .ok (.aload_n 0, 1) := by decide +kernel
theorem std_S_ways_12 : decode stc_S_ways 12 = .ok (.getfield 21, 3) := by decide +kernel
theorem std_S_ways_15 : decode stc_S_ways 15 = .ok (.iload_n 1, 1) := by decide +kernel
theorem std_S_ways_16 : decode stc_S_ways 16 = .ok (.iload_n 2, 1) := by decide +kernel
theorem std_S_ways_17 : decode stc_S_ways 17 = .ok (.invokevirtual 128, 3) := by decide +kernel
theorem kw_2_190 : Cond.code sty_Y_hasNode stc_Y_hasNode 3 (some .boolean) ∈ stGW := st_t2 (List.mem_of_getElem? (i := 190) (by decide +kernel)) (by decide +kernel)
theorem kw_2_187 : Cond.methodLink "StateTables" 128 (sty_Y_hasNode) ∈ stGW := st_t2 (List.mem_of_getElem? (i := 187) (by decide +kernel)) (by decide +kernel)
theorem kw_2_188 : Cond.instanceMethod (sty_Y_hasNode) ∈ stGW := st_t2 (List.mem_of_getElem? (i := 188) (by decide +kernel)) (by decide +kernel)
theorem kw_2_189 : Cond.selects "StateTables$Layers" (sty_Y_hasNode) (sty_Y_hasNode) ∈ stGW := st_t2 (List.mem_of_getElem? (i := 189) (by decide +kernel)) (by decide +kernel)
theorem std_S_ways_20 : decode stc_S_ways 20 = .ok (.ifCond .ne 7, 3) := by decide +kernel
theorem std_S_ways_27 : decode stc_S_ways 27 = .ok (.aload_n 0, 1) := by decide +kernel
theorem std_S_ways_28 : decode stc_S_ways 28 = .ok (.getfield 21, 3) := by decide +kernel
theorem std_S_ways_31 : decode stc_S_ways 31 = .ok (.getfield 131, 3) := by decide +kernel
theorem kw_1_87 : Cond.fieldLink "StateTables" 131 "StateTables$Layers" "start" "[I" ∈ stGW := st_t1 (List.mem_of_getElem? (i := 87) (by decide +kernel)) (by decide +kernel)
theorem std_S_ways_34 : decode stc_S_ways 34 = .ok (.iload_n 1, 1) := by decide +kernel
theorem std_S_ways_35 : decode stc_S_ways 35 = .ok (.iaload, 1) := by decide +kernel
theorem std_S_ways_36 : decode stc_S_ways 36 = .ok (.iload_n 2, 1) := by decide +kernel
theorem std_S_ways_37 : decode stc_S_ways 37 = .ok (.iadd, 1) := by decide +kernel
theorem std_S_ways_38 : decode stc_S_ways 38 = .ok (.istore 4, 2) := by decide +kernel
theorem std_S_ways_40 : decode stc_S_ways 40 = .ok (.iload_n 3, 1) := by decide +kernel
theorem std_S_ways_41 : decode stc_S_ways 41 = .ok (.ifCond .eq 16, 3) := by decide +kernel
theorem std_S_ways_57 : decode stc_S_ways 57 = .ok (.aload_n 0, 1) := by decide +kernel
theorem std_S_ways_58 : decode stc_S_ways 58 = .ok (.getfield 21, 3) := by decide +kernel
theorem std_S_ways_61 : decode stc_S_ways 61 = .ok (.getfield 106, 3) := by decide +kernel
theorem std_S_ways_64 : decode stc_S_ways 64 = .ok (.iload 4, 2) := by decide +kernel
theorem std_S_ways_66 : decode stc_S_ways 66 = .ok (.laload, 1) := by decide +kernel
theorem std_S_ways_67 : decode stc_S_ways 67 = .ok (.lreturn, 1) := by decide +kernel
theorem std_S_ways_44 : decode stc_S_ways 44 = .ok (.aload_n 0, 1) := by decide +kernel
theorem std_S_ways_45 : decode stc_S_ways 45 = .ok (.getfield 21, 3) := by decide +kernel
theorem std_S_ways_48 : decode stc_S_ways 48 = .ok (.getfield 151, 3) := by decide +kernel
theorem kw_1_95 : Cond.fieldLink "StateTables" 151 "StateTables$Layers" "waysTo" "[J" ∈ stGW := st_t1 (List.mem_of_getElem? (i := 95) (by decide +kernel)) (by decide +kernel)
theorem std_S_ways_51 : decode stc_S_ways 51 = .ok (.iload 4, 2) := by decide +kernel
theorem std_S_ways_53 : decode stc_S_ways 53 = .ok (.laload, 1) := by decide +kernel
theorem std_S_ways_54 : decode stc_S_ways 54 = .ok (.goto 13, 3) := by decide +kernel
theorem std_S_ways_23 : decode stc_S_ways 23 = .ok (.ldc2_w 149, 3) := by decide +kernel
theorem kw_2_199 : Cond.constantLong "StateTables" 149 (-2000000) ∈ stGW := st_t2 (List.mem_of_getElem? (i := 199) (by decide +kernel)) (by decide +kernel)
theorem std_S_ways_26 : decode stc_S_ways 26 = .ok (.lreturn, 1) := by decide +kernel
theorem std_S_ways_7 : decode stc_S_ways 7 = .ok (.ldc2_w 110, 3) := by decide +kernel
theorem std_S_ways_10 : decode stc_S_ways 10 = .ok (.lreturn, 1) := by decide +kernel
set_option maxHeartbeats 4000000 in
set_option maxRecDepth 100000 in
theorem c_ways (l : Launch) (dC : Nat → ClassId) (dI : Nat → Nat → Nat) (cI cJ cZ : ClassId) (s0 : Nat) (n0 : Nat) (H : Prop) (y0 : Nat) (ys : Nat) (yk : Nat) (yc : Nat) (yd : Nat) (yw : Nat) (yx : Nat) (yb : Nat) (yu : Nat) (total : Int) (t0 : Nat) (hs : Nat) (hc : Nat) (hf : Nat) (hg : Nat) (hb : Nat) (he : Nat) (hm : Nat) (steps : Int) (choices : Int) (bars : Int) (f0 : Nat) (cap : Nat) (gst : Int → Int) (gwt : Int → Int) (gwf : Int → Int) (a : Int) (b : Int) (v : Prop) (kst : 0 ≤ steps ∧ steps ≤ 12) (kcap : cap ≤ 4801) (kgst : ∀ j, 0 ≤ j → j < 14 → 0 ≤ gst j ∧ gst j ≤ cap) (ka : rI a) (kb : rI b) : ∀ sz, Met l sty_S_ways (Cond.code sty_S_ways stc_S_ways 5 (some .long) :: stGW) ({ frames := 2, cells := 0, slots := 0, locals := 43 } : Room) (va_Pc [.ref s0, .int (iI a), .int (iI b), .int (iI (bI v))] (zPre (dC, dI) stCl [(cI, .int), (cJ, .long), (cZ, .boolean)] st_nw [(s0, .inr (0, [.ref t0, .ref y0, .ref f0, .ref n0, .int (iI (bI H))])), (y0, .inr (2, [.ref t0, .int (iI total), .ref ys, .ref yk, .ref yc, .ref yd, .ref yw, .ref yx, .ref yb, .ref yu])), (t0, .inr (1, [.int (iI steps), .int (iI choices), .int (iI bars), .ref hs, .ref hc, .ref hf, .ref hg, .ref hb, .ref he, .ref hm])), (ys, .inl (cI, aI 14 gst)), (yw, .inl (cJ, aL cap gwt)), (yx, .inl (cJ, aL cap gwf))] sz)) (va_Ql (fun (r : Int64) (_ : Unit) => r = lI (sel H (sel ((0 ≤ a ∧ a ≤ steps) ∧ 0 ≤ b ∧ b < (gst (a + 1)) - (gst a)) (sel v (gwt ((gst a) + b)) (gwf ((gst a) + b))) (-2000000)) (-4000000))) (zPost (dC, dI) stCl [(cI, .int), (cJ, .long), (cZ, .boolean)] [(s0, .inr (0, [.ref t0, .ref y0, .ref f0, .ref n0, .int (iI (bI H))])), (y0, .inr (2, [.ref t0, .int (iI total), .ref ys, .ref yk, .ref yc, .ref yd, .ref yw, .ref yx, .ref yb, .ref yu])), (t0, .inr (1, [.int (iI steps), .int (iI choices), .int (iI bars), .ref hs, .ref hc, .ref hf, .ref hg, .ref hb, .ref he, .ref hm])), (ys, .inl (cI, aI 14 gst)), (yw, .inl (cJ, aL cap gwt)), (yx, .inl (cJ, aL cap gwf))] sz (fun _ : Unit => [(s0, .inr (0, [.ref t0, .ref y0, .ref f0, .ref n0, .int (iI (bI H))])), (y0, .inr (2, [.ref t0, .int (iI total), .ref ys, .ref yk, .ref yc, .ref yd, .ref yw, .ref yx, .ref yb, .ref yu])), (t0, .inr (1, [.int (iI steps), .int (iI choices), .int (iI bars), .ref hs, .ref hc, .ref hf, .ref hg, .ref hb, .ref he, .ref hm])), (ys, .inl (cI, aI 14 gst)), (yw, .inl (cJ, aL cap gwt)), (yx, .inl (cJ, aL cap gwf))])) (va_A [(s0, .inr (0, [.ref t0, .ref y0, .ref f0, .ref n0, .int (iI (bI H))])), (y0, .inr (2, [.ref t0, .int (iI total), .ref ys, .ref yk, .ref yc, .ref yd, .ref yw, .ref yx, .ref yb, .ref yu])), (t0, .inr (1, [.int (iI steps), .int (iI choices), .int (iI bars), .ref hs, .ref hc, .ref hf, .ref hg, .ref hb, .ref he, .ref hm])), (ys, .inl (cI, aI 14 gst)), (yw, .inl (cJ, aL cap gwt)), (yx, .inl (cJ, aL cap gwf))] sz)) 0 0 (va_A [(s0, .inr (0, [.ref t0, .ref y0, .ref f0, .ref n0, .int (iI (bI H))])), (y0, .inr (2, [.ref t0, .int (iI total), .ref ys, .ref yk, .ref yc, .ref yd, .ref yw, .ref yx, .ref yb, .ref yu])), (t0, .inr (1, [.int (iI steps), .int (iI choices), .int (iI bars), .ref hs, .ref hc, .ref hf, .ref hg, .ref hb, .ref he, .ref hm])), (ys, .inl (cI, aI 14 gst)), (yw, .inl (cJ, aL cap gwt)), (yx, .inl (cJ, aL cap gwf))] sz) := by
  refine met_l (by decide) rfl (Nat.le_of_ble_eq_true rfl) ?_
  intro p e s m below meth c A Q C hmn hret
  refine g_aload_n C 0 std_S_ways_0 rfl ?_
  refine g_get C (st_sub sti_S) 0 rfl rfl 4 (by decide) (List.mem_cons_of_mem _ kw_1_193) rfl rfl std_S_ways_1 ?_
  refine g_ifne_b (tgt := 11) C std_S_ways_4 (by decide) (fun c1 => ?_) (fun c1 => ?_)
  · refine g_aload_n C 0 std_S_ways_11 rfl ?_
    refine g_get C (st_sub sti_S) 0 rfl rfl 1 (by decide) (List.mem_cons_of_mem _ kw_1_190) rfl rfl std_S_ways_12 ?_
    refine g_iload_n C 1 std_S_ways_15 rfl ?_
    refine g_iload_n C 2 std_S_ways_16 rfl ?_
    refine g_V_i (wc := [(y0, .inr (2, [.ref t0, .int (iI total), .ref ys, .ref yk, .ref yc, .ref yd, .ref yw, .ref yx, .ref yb, .ref yu])), (t0, .inr (1, [.int (iI steps), .int (iI choices), .int (iI bars), .ref hs, .ref hc, .ref hf, .ref hg, .ref hb, .ref he, .ref hm])), (ys, .inl (cI, aI 14 gst))]) (wr := [(s0, .inr (0, [.ref t0, .ref y0, .ref f0, .ref n0, .int (iI (bI H))])), (yw, .inl (cJ, aL cap gwt)), (yx, .inl (cJ, aL cap gwf))]) (rest := []) C (c_hasNode l dC dI cI cJ cZ y0 ys yk yc yd yw yx yb yu total t0 hs hc hf hg hb he hm steps choices bars cap gst a b (kst) (kcap) (kgst) (by omega) (by omega)) (st_cV C kw_2_190 kw_2_187 kw_1_3 kw_2_188 kw_2_189 sth_Y_hasNode ⟨Nat.le_of_ble_eq_true rfl, Nat.le_of_ble_eq_true rfl⟩) 0 rfl rfl rfl rfl (Nat.le_of_ble_eq_true rfl) std_S_ways_17 ⟨Nat.le_of_ble_eq_true rfl, Nat.le_of_ble_eq_true rfl⟩ [1, 2, 3] [0, 4, 5] rfl rfl rfl rfl (by decide) (fun r2 u3 h4 => ?_)
    subst h4
    refine g_ws (ws' := [(s0, .inr (0, [.ref t0, .ref y0, .ref f0, .ref n0, .int (iI (bI H))])), (yw, .inl (cJ, aL cap gwt)), (yx, .inl (cJ, aL cap gwf)), (y0, .inr (2, [.ref t0, .int (iI total), .ref ys, .ref yk, .ref yc, .ref yd, .ref yw, .ref yx, .ref yb, .ref yu])), (t0, .inr (1, [.int (iI steps), .int (iI choices), .int (iI bars), .ref hs, .ref hc, .ref hf, .ref hg, .ref hb, .ref he, .ref hm])), (ys, .inl (cI, aI 14 gst))]) rfl ?_
    refine g_ifne_b (tgt := 27) C std_S_ways_20 (by decide) (fun c5 => ?_) (fun c5 => ?_)
    · have hq0 := kgst a (by omega) (by omega)
      have hq1 := kgst (a + 1) (by omega) (by omega)
      refine g_aload_n C 0 std_S_ways_27 rfl ?_
      refine g_get C (st_sub sti_S) 0 rfl rfl 1 (by decide) (List.mem_cons_of_mem _ kw_1_190) rfl rfl std_S_ways_28 ?_
      refine g_get C (st_sub sti_Y) 3 rfl rfl 2 (by decide) (List.mem_cons_of_mem _ kw_1_87) rfl rfl std_S_ways_31 ?_
      refine g_iload_n C 1 std_S_ways_34 rfl ?_
      refine g_iald C 5 0 rfl rfl (by omega) (by omega) (by omega) std_S_ways_35 ?_
      refine g_iload_n C 2 std_S_ways_36 rfl ?_
      refine g_iadd C std_S_ways_37 ?_
      refine g_istore C (lv' := [(4, .int (iI ((gst a) + b))), (0, .ref s0), (1, .int (iI a)), (2, .int (iI b)), (3, .int (iI (bI v)))]) std_S_ways_38 (by decide) rfl ?_
      refine g_iload_n C 4 std_S_ways_40 rfl ?_
      refine g_ifeq_b (tgt := 57) C std_S_ways_41 (by decide) (fun c6 => ?_) (fun c6 => ?_)
      · refine g_aload_n C 1 std_S_ways_57 rfl ?_
        refine g_get C (st_sub sti_S) 0 rfl rfl 1 (by decide) (List.mem_cons_of_mem _ kw_1_190) rfl rfl std_S_ways_58 ?_
        refine g_get C (st_sub sti_Y) 3 rfl rfl 7 (by decide) (List.mem_cons_of_mem _ kw_1_98) rfl rfl std_S_ways_61 ?_
        refine g_iload C 0 std_S_ways_64 rfl ?_
        refine g_lald C 2 1 rfl rfl (by omega) (by omega) (by omega) std_S_ways_66 ?_
        refine g_sub (ws' := [(s0, .inr (0, [.ref t0, .ref y0, .ref f0, .ref n0, .int (iI (bI H))])), (y0, .inr (2, [.ref t0, .int (iI total), .ref ys, .ref yk, .ref yc, .ref yd, .ref yw, .ref yx, .ref yb, .ref yu])), (t0, .inr (1, [.int (iI steps), .int (iI choices), .int (iI bars), .ref hs, .ref hc, .ref hf, .ref hg, .ref hb, .ref he, .ref hm])), (ys, .inl (cI, aI 14 gst)), (yw, .inl (cJ, aL cap gwt)), (yx, .inl (cJ, aL cap gwf))]) [0, 3, 4, 5, 1, 2] rfl rfl ?_
        refine g_wide (k := 0) (n := 0) (Nat.le_of_ble_eq_true rfl) (Nat.le_of_ble_eq_true rfl) ?_
        exact hret _ _ _ () (by rw [sel_t c1, sel_t (by omega), sel_f c6]) std_S_ways_67
      · refine g_aload_n C 1 std_S_ways_44 rfl ?_
        refine g_get C (st_sub sti_S) 0 rfl rfl 1 (by decide) (List.mem_cons_of_mem _ kw_1_190) rfl rfl std_S_ways_45 ?_
        refine g_get C (st_sub sti_Y) 3 rfl rfl 6 (by decide) (List.mem_cons_of_mem _ kw_1_95) rfl rfl std_S_ways_48 ?_
        refine g_iload C 0 std_S_ways_51 rfl ?_
        refine g_lald C 1 1 rfl rfl (by omega) (by omega) (by omega) std_S_ways_53 ?_
        refine g_goto (tgt := 67) C std_S_ways_54 (by decide) ?_
        refine g_sub (ws' := [(s0, .inr (0, [.ref t0, .ref y0, .ref f0, .ref n0, .int (iI (bI H))])), (y0, .inr (2, [.ref t0, .int (iI total), .ref ys, .ref yk, .ref yc, .ref yd, .ref yw, .ref yx, .ref yb, .ref yu])), (t0, .inr (1, [.int (iI steps), .int (iI choices), .int (iI bars), .ref hs, .ref hc, .ref hf, .ref hg, .ref hb, .ref he, .ref hm])), (ys, .inl (cI, aI 14 gst)), (yw, .inl (cJ, aL cap gwt)), (yx, .inl (cJ, aL cap gwf))]) [0, 3, 4, 5, 1, 2] rfl rfl ?_
        refine g_wide (k := 0) (n := 0) (Nat.le_of_ble_eq_true rfl) (Nat.le_of_ble_eq_true rfl) ?_
        exact hret _ _ _ () (by rw [sel_t c1, sel_t (by omega), sel_t c6]) std_S_ways_67
    · refine g_ldc2 C (z := (-2000000)) (List.mem_cons_of_mem _ kw_2_199) (by decide) std_S_ways_23 ?_
      refine g_sub (ws' := [(s0, .inr (0, [.ref t0, .ref y0, .ref f0, .ref n0, .int (iI (bI H))])), (y0, .inr (2, [.ref t0, .int (iI total), .ref ys, .ref yk, .ref yc, .ref yd, .ref yw, .ref yx, .ref yb, .ref yu])), (t0, .inr (1, [.int (iI steps), .int (iI choices), .int (iI bars), .ref hs, .ref hc, .ref hf, .ref hg, .ref hb, .ref he, .ref hm])), (ys, .inl (cI, aI 14 gst)), (yw, .inl (cJ, aL cap gwt)), (yx, .inl (cJ, aL cap gwf))]) [0, 3, 4, 5, 1, 2] rfl rfl ?_
      refine g_wide (k := 0) (n := 0) (Nat.le_of_ble_eq_true rfl) (Nat.le_of_ble_eq_true rfl) ?_
      exact hret _ _ _ () (by rw [sel_t c1, sel_f (by omega)]) std_S_ways_26
  · refine g_ldc2 C (z := (-4000000)) (List.mem_cons_of_mem _ kw_2_157) (by decide) std_S_ways_7 ?_
    exact hret _ _ _ () (by rw [sel_f c1]) std_S_ways_10

abbrev sty_S_node : MethodName := ⟨"StateTables", "node", "(III)I"⟩
abbrev stc_S_node : ByteArray := prog_1_method_13_code
theorem sth_S_node : (sty_S_node).cls ≠ "java/lang/invoke/MethodHandle" ∧ (sty_S_node).cls ≠ "java/lang/invoke/VarHandle" ∧ (parseMethodDescriptor (sty_S_node).desc).map (fun d => d.parameters.length) = some 3 := by decide +kernel
theorem std_S_node_0 : decode stc_S_node 0 = .ok (.aload_n 0, 1) := by decide +kernel
theorem std_S_node_1 : decode stc_S_node 1 = .ok (.getfield 41, 3) := by decide +kernel
theorem std_S_node_4 : decode stc_S_node 4 = .ok (.ifCond .ne 6, 3) := by decide +kernel
theorem std_S_node_10 : decode stc_S_node 10 = .ok (.aload_n 0, 1) := by decide +kernel
theorem std_S_node_11 : decode stc_S_node 11 = .ok (.getfield 21, 3) := by decide +kernel
theorem std_S_node_14 : decode stc_S_node 14 = .ok (.iload_n 1, 1) := by decide +kernel
theorem std_S_node_15 : decode stc_S_node 15 = .ok (.iload_n 2, 1) := by decide +kernel
theorem std_S_node_16 : decode stc_S_node 16 = .ok (.invokevirtual 128, 3) := by decide +kernel
theorem std_S_node_19 : decode stc_S_node 19 = .ok (.ifCond .ne 6, 3) := by decide +kernel
theorem std_S_node_25 : decode stc_S_node 25 = .ok (.aload_n 0, 1) := by decide +kernel
theorem std_S_node_26 : decode stc_S_node 26 = .ok (.getfield 21, 3) := by decide +kernel
theorem std_S_node_29 : decode stc_S_node 29 = .ok (.getfield 131, 3) := by decide +kernel
theorem std_S_node_32 : decode stc_S_node 32 = .ok (.iload_n 1, 1) := by decide +kernel
theorem std_S_node_33 : decode stc_S_node 33 = .ok (.iaload, 1) := by decide +kernel
theorem std_S_node_34 : decode stc_S_node 34 = .ok (.iload_n 2, 1) := by decide +kernel
theorem std_S_node_35 : decode stc_S_node 35 = .ok (.iadd, 1) := by decide +kernel
theorem std_S_node_36 : decode stc_S_node 36 = .ok (.istore 4, 2) := by decide +kernel
theorem std_S_node_38 : decode stc_S_node 38 = .ok (.iload_n 3, 1) := by decide +kernel
theorem std_S_node_39 : decode stc_S_node 39 = .ok (.tableswitch 96 0 4 #[33, 47, 61, 75, 86], 33) := by decide +kernel
theorem std_S_node_72 : decode stc_S_node 72 = .ok (.aload_n 0, 1) := by decide +kernel
theorem std_S_node_73 : decode stc_S_node 73 = .ok (.getfield 21, 3) := by decide +kernel
theorem std_S_node_76 : decode stc_S_node 76 = .ok (.getfield 134, 3) := by decide +kernel
theorem kw_1_89 : Cond.fieldLink "StateTables" 134 "StateTables$Layers" "keys" "[I" ∈ stGW := st_t1 (List.mem_of_getElem? (i := 89) (by decide +kernel)) (by decide +kernel)
theorem std_S_node_79 : decode stc_S_node 79 = .ok (.iload 4, 2) := by decide +kernel
theorem std_S_node_81 : decode stc_S_node 81 = .ok (.iaload, 1) := by decide +kernel
theorem std_S_node_82 : decode stc_S_node 82 = .ok (.invokestatic 137, 3) := by decide +kernel
theorem kw_2_192 : Cond.methodLink "StateTables" 137 (sty_S_usedOfFirst) ∈ stGW := st_t2 (List.mem_of_getElem? (i := 192) (by decide +kernel)) (by decide +kernel)
theorem std_S_node_85 : decode stc_S_node 85 = .ok (.ireturn, 1) := by decide +kernel
theorem std_S_node_86 : decode stc_S_node 86 = .ok (.aload_n 0, 1) := by decide +kernel
theorem std_S_node_87 : decode stc_S_node 87 = .ok (.getfield 21, 3) := by decide +kernel
theorem std_S_node_90 : decode stc_S_node 90 = .ok (.getfield 134, 3) := by decide +kernel
theorem std_S_node_93 : decode stc_S_node 93 = .ok (.iload 4, 2) := by decide +kernel
theorem std_S_node_95 : decode stc_S_node 95 = .ok (.iaload, 1) := by decide +kernel
theorem std_S_node_96 : decode stc_S_node 96 = .ok (.invokestatic 140, 3) := by decide +kernel
theorem kw_2_193 : Cond.methodLink "StateTables" 140 (sty_S_usedOfSecond) ∈ stGW := st_t2 (List.mem_of_getElem? (i := 193) (by decide +kernel)) (by decide +kernel)
theorem std_S_node_99 : decode stc_S_node 99 = .ok (.ireturn, 1) := by decide +kernel
theorem std_S_node_100 : decode stc_S_node 100 = .ok (.aload_n 0, 1) := by decide +kernel
theorem std_S_node_101 : decode stc_S_node 101 = .ok (.getfield 21, 3) := by decide +kernel
theorem std_S_node_104 : decode stc_S_node 104 = .ok (.getfield 134, 3) := by decide +kernel
theorem std_S_node_107 : decode stc_S_node 107 = .ok (.iload 4, 2) := by decide +kernel
theorem std_S_node_109 : decode stc_S_node 109 = .ok (.iaload, 1) := by decide +kernel
theorem std_S_node_110 : decode stc_S_node 110 = .ok (.invokestatic 143, 3) := by decide +kernel
theorem kw_2_194 : Cond.methodLink "StateTables" 143 (sty_S_lastChoice) ∈ stGW := st_t2 (List.mem_of_getElem? (i := 194) (by decide +kernel)) (by decide +kernel)
theorem std_S_node_113 : decode stc_S_node 113 = .ok (.ireturn, 1) := by decide +kernel
theorem std_S_node_114 : decode stc_S_node 114 = .ok (.aload_n 0, 1) := by decide +kernel
theorem std_S_node_115 : decode stc_S_node 115 = .ok (.getfield 21, 3) := by decide +kernel
theorem std_S_node_118 : decode stc_S_node 118 = .ok (.getfield 146, 3) := by decide +kernel
theorem kw_1_91 : Cond.fieldLink "StateTables" 146 "StateTables$Layers" "costTo" "[I" ∈ stGW := st_t1 (List.mem_of_getElem? (i := 91) (by decide +kernel)) (by decide +kernel)
theorem std_S_node_121 : decode stc_S_node 121 = .ok (.iload 4, 2) := by decide +kernel
theorem std_S_node_123 : decode stc_S_node 123 = .ok (.iaload, 1) := by decide +kernel
theorem std_S_node_124 : decode stc_S_node 124 = .ok (.ireturn, 1) := by decide +kernel
theorem std_S_node_125 : decode stc_S_node 125 = .ok (.aload_n 0, 1) := by decide +kernel
theorem std_S_node_126 : decode stc_S_node 126 = .ok (.getfield 21, 3) := by decide +kernel
theorem std_S_node_129 : decode stc_S_node 129 = .ok (.iload 4, 2) := by decide +kernel
theorem std_S_node_131 : decode stc_S_node 131 = .ok (.invokevirtual 101, 3) := by decide +kernel
theorem std_S_node_134 : decode stc_S_node 134 = .ok (.ireturn, 1) := by decide +kernel
theorem std_S_node_135 : decode stc_S_node 135 = .ok (.ldc 64, 2) := by decide +kernel
theorem std_S_node_137 : decode stc_S_node 137 = .ok (.ireturn, 1) := by decide +kernel
theorem std_S_node_22 : decode stc_S_node 22 = .ok (.ldc 64, 2) := by decide +kernel
theorem std_S_node_24 : decode stc_S_node 24 = .ok (.ireturn, 1) := by decide +kernel
theorem std_S_node_7 : decode stc_S_node 7 = .ok (.ldc 105, 2) := by decide +kernel
theorem std_S_node_9 : decode stc_S_node 9 = .ok (.ireturn, 1) := by decide +kernel
set_option maxHeartbeats 4000000 in
set_option maxRecDepth 100000 in
theorem c_node (l : Launch) (dC : Nat → ClassId) (dI : Nat → Nat → Nat) (cI cJ cZ : ClassId) (s0 : Nat) (n0 : Nat) (H : Prop) (y0 : Nat) (ys : Nat) (yk : Nat) (yc : Nat) (yd : Nat) (yw : Nat) (yx : Nat) (yb : Nat) (yu : Nat) (total : Int) (t0 : Nat) (hs : Nat) (hc : Nat) (hf : Nat) (hg : Nat) (hb : Nat) (he : Nat) (hm : Nat) (steps : Int) (choices : Int) (bars : Int) (f0 : Nat) (cap : Nat) (gst : Int → Int) (gk : Int → Int) (gct : Int → Int) (gcf : Int → Int) (gwf : Int → Int) (a : Int) (b : Int) (k : Int) (kst : 0 ≤ steps ∧ steps ≤ 12) (kcap : cap ≤ 4801) (kgst : ∀ j, 0 ≤ j → j < 14 → 0 ≤ gst j ∧ gst j ≤ cap) (ka : rI a) (kb : rI b) (kk : rI k) (kH : H → ∀ i, 0 ≤ i → i < gst (steps + 1) → (0 ≤ gk i ∧ gk i < 32768) ∧ rL (gwf i)) (kmon : H → ∀ j, 0 ≤ j → j ≤ steps → gst (j + 1) ≤ gst (steps + 1)) : ∀ sz, Met l sty_S_node (Cond.code sty_S_node stc_S_node 5 (some .int) :: stGW) ({ frames := 2, cells := 0, slots := 0, locals := 43 } : Room) (va_Pc [.ref s0, .int (iI a), .int (iI b), .int (iI k)] (zPre (dC, dI) stCl [(cI, .int), (cJ, .long), (cZ, .boolean)] st_nw [(s0, .inr (0, [.ref t0, .ref y0, .ref f0, .ref n0, .int (iI (bI H))])), (y0, .inr (2, [.ref t0, .int (iI total), .ref ys, .ref yk, .ref yc, .ref yd, .ref yw, .ref yx, .ref yb, .ref yu])), (t0, .inr (1, [.int (iI steps), .int (iI choices), .int (iI bars), .ref hs, .ref hc, .ref hf, .ref hg, .ref hb, .ref he, .ref hm])), (ys, .inl (cI, aI 14 gst)), (yk, .inl (cI, aI cap gk)), (yc, .inl (cI, aI cap gct)), (yd, .inl (cI, aI cap gcf)), (yx, .inl (cJ, aL cap gwf))] sz)) (va_Qi (fun (r : Int32) (_ : Unit) => r = iI (sel H (sel ((0 ≤ a ∧ a ≤ steps) ∧ 0 ≤ b ∧ b < (gst (a + 1)) - (gst a)) (sel (k = 0) ((gk ((gst a) + b)) / 512) (sel (k = 1) (((gk ((gst a) + b)) / 8) % 64) (sel (k = 2) (((gk ((gst a) + b)) % 8) - 1) (sel (k = 3) (gct ((gst a) + b)) (sel (k = 4) (if 0 < gwf ((gst a) + b) then gcf ((gst a) + b) else (-1000000)) (-2000000)))))) (-2000000)) (-4000000))) (zPost (dC, dI) stCl [(cI, .int), (cJ, .long), (cZ, .boolean)] [(s0, .inr (0, [.ref t0, .ref y0, .ref f0, .ref n0, .int (iI (bI H))])), (y0, .inr (2, [.ref t0, .int (iI total), .ref ys, .ref yk, .ref yc, .ref yd, .ref yw, .ref yx, .ref yb, .ref yu])), (t0, .inr (1, [.int (iI steps), .int (iI choices), .int (iI bars), .ref hs, .ref hc, .ref hf, .ref hg, .ref hb, .ref he, .ref hm])), (ys, .inl (cI, aI 14 gst)), (yk, .inl (cI, aI cap gk)), (yc, .inl (cI, aI cap gct)), (yd, .inl (cI, aI cap gcf)), (yx, .inl (cJ, aL cap gwf))] sz (fun _ : Unit => [(s0, .inr (0, [.ref t0, .ref y0, .ref f0, .ref n0, .int (iI (bI H))])), (y0, .inr (2, [.ref t0, .int (iI total), .ref ys, .ref yk, .ref yc, .ref yd, .ref yw, .ref yx, .ref yb, .ref yu])), (t0, .inr (1, [.int (iI steps), .int (iI choices), .int (iI bars), .ref hs, .ref hc, .ref hf, .ref hg, .ref hb, .ref he, .ref hm])), (ys, .inl (cI, aI 14 gst)), (yk, .inl (cI, aI cap gk)), (yc, .inl (cI, aI cap gct)), (yd, .inl (cI, aI cap gcf)), (yx, .inl (cJ, aL cap gwf))])) (va_A [(s0, .inr (0, [.ref t0, .ref y0, .ref f0, .ref n0, .int (iI (bI H))])), (y0, .inr (2, [.ref t0, .int (iI total), .ref ys, .ref yk, .ref yc, .ref yd, .ref yw, .ref yx, .ref yb, .ref yu])), (t0, .inr (1, [.int (iI steps), .int (iI choices), .int (iI bars), .ref hs, .ref hc, .ref hf, .ref hg, .ref hb, .ref he, .ref hm])), (ys, .inl (cI, aI 14 gst)), (yk, .inl (cI, aI cap gk)), (yc, .inl (cI, aI cap gct)), (yd, .inl (cI, aI cap gcf)), (yx, .inl (cJ, aL cap gwf))] sz)) 0 0 (va_A [(s0, .inr (0, [.ref t0, .ref y0, .ref f0, .ref n0, .int (iI (bI H))])), (y0, .inr (2, [.ref t0, .int (iI total), .ref ys, .ref yk, .ref yc, .ref yd, .ref yw, .ref yx, .ref yb, .ref yu])), (t0, .inr (1, [.int (iI steps), .int (iI choices), .int (iI bars), .ref hs, .ref hc, .ref hf, .ref hg, .ref hb, .ref he, .ref hm])), (ys, .inl (cI, aI 14 gst)), (yk, .inl (cI, aI cap gk)), (yc, .inl (cI, aI cap gct)), (yd, .inl (cI, aI cap gcf)), (yx, .inl (cJ, aL cap gwf))] sz) := by
  refine met_i (by decide) rfl (Nat.le_of_ble_eq_true rfl) ?_
  intro p e s m below meth c A Q C hmn hret
  refine g_aload_n C 0 std_S_node_0 rfl ?_
  refine g_get C (st_sub sti_S) 0 rfl rfl 4 (by decide) (List.mem_cons_of_mem _ kw_1_193) rfl rfl std_S_node_1 ?_
  refine g_ifne_b (tgt := 10) C std_S_node_4 (by decide) (fun c1 => ?_) (fun c1 => ?_)
  · refine g_aload_n C 0 std_S_node_10 rfl ?_
    refine g_get C (st_sub sti_S) 0 rfl rfl 1 (by decide) (List.mem_cons_of_mem _ kw_1_190) rfl rfl std_S_node_11 ?_
    refine g_iload_n C 1 std_S_node_14 rfl ?_
    refine g_iload_n C 2 std_S_node_15 rfl ?_
    refine g_V_i (wc := [(y0, .inr (2, [.ref t0, .int (iI total), .ref ys, .ref yk, .ref yc, .ref yd, .ref yw, .ref yx, .ref yb, .ref yu])), (t0, .inr (1, [.int (iI steps), .int (iI choices), .int (iI bars), .ref hs, .ref hc, .ref hf, .ref hg, .ref hb, .ref he, .ref hm])), (ys, .inl (cI, aI 14 gst))]) (wr := [(s0, .inr (0, [.ref t0, .ref y0, .ref f0, .ref n0, .int (iI (bI H))])), (yk, .inl (cI, aI cap gk)), (yc, .inl (cI, aI cap gct)), (yd, .inl (cI, aI cap gcf)), (yx, .inl (cJ, aL cap gwf))]) (rest := []) C (c_hasNode l dC dI cI cJ cZ y0 ys yk yc yd yw yx yb yu total t0 hs hc hf hg hb he hm steps choices bars cap gst a b (kst) (kcap) (kgst) (by omega) (by omega)) (st_cV C kw_2_190 kw_2_187 kw_1_3 kw_2_188 kw_2_189 sth_Y_hasNode ⟨Nat.le_of_ble_eq_true rfl, Nat.le_of_ble_eq_true rfl⟩) 0 rfl rfl rfl rfl (Nat.le_of_ble_eq_true rfl) std_S_node_16 ⟨Nat.le_of_ble_eq_true rfl, Nat.le_of_ble_eq_true rfl⟩ [1, 2, 3] [0, 4, 5, 6, 7] rfl rfl rfl rfl (by decide) (fun r2 u3 h4 => ?_)
    subst h4
    refine g_ws (ws' := [(s0, .inr (0, [.ref t0, .ref y0, .ref f0, .ref n0, .int (iI (bI H))])), (yk, .inl (cI, aI cap gk)), (yc, .inl (cI, aI cap gct)), (yd, .inl (cI, aI cap gcf)), (yx, .inl (cJ, aL cap gwf)), (y0, .inr (2, [.ref t0, .int (iI total), .ref ys, .ref yk, .ref yc, .ref yd, .ref yw, .ref yx, .ref yb, .ref yu])), (t0, .inr (1, [.int (iI steps), .int (iI choices), .int (iI bars), .ref hs, .ref hc, .ref hf, .ref hg, .ref hb, .ref he, .ref hm])), (ys, .inl (cI, aI 14 gst))]) rfl ?_
    refine g_ifne_b (tgt := 25) C std_S_node_19 (by decide) (fun c5 => ?_) (fun c5 => ?_)
    · have hq0 := kgst a (by omega) (by omega)
      have hq1 := kgst (a + 1) (by omega) (by omega)
      have hq2 := kmon c1 a (by omega) (by omega)
      have hh := kH c1 (gst a + b) (by omega) (by omega)
      refine g_aload_n C 0 std_S_node_25 rfl ?_
      refine g_get C (st_sub sti_S) 0 rfl rfl 1 (by decide) (List.mem_cons_of_mem _ kw_1_190) rfl rfl std_S_node_26 ?_
      refine g_get C (st_sub sti_Y) 5 rfl rfl 2 (by decide) (List.mem_cons_of_mem _ kw_1_87) rfl rfl std_S_node_29 ?_
      refine g_iload_n C 1 std_S_node_32 rfl ?_
      refine g_iald C 7 0 rfl rfl (by omega) (by omega) (by omega) std_S_node_33 ?_
      refine g_iload_n C 2 std_S_node_34 rfl ?_
      refine g_iadd C std_S_node_35 ?_
      refine g_istore C (lv' := [(4, .int (iI ((gst a) + b))), (0, .ref s0), (1, .int (iI a)), (2, .int (iI b)), (3, .int (iI k))]) std_S_node_36 (by decide) rfl ?_
      refine g_iload_n C 4 std_S_node_38 rfl ?_
      by_cases sw6 : k = 0
      · refine g_tin (tgt := 72) C std_S_node_39 ⟨by omega, by omega⟩ (by omega) (by omega) (by rw [sw6]; rfl) (by decide) ?_
        refine g_aload_n C 1 std_S_node_72 rfl ?_
        refine g_get C (st_sub sti_S) 0 rfl rfl 1 (by decide) (List.mem_cons_of_mem _ kw_1_190) rfl rfl std_S_node_73 ?_
        refine g_get C (st_sub sti_Y) 5 rfl rfl 3 (by decide) (List.mem_cons_of_mem _ kw_1_89) rfl rfl std_S_node_76 ?_
        refine g_iload C 0 std_S_node_79 rfl ?_
        refine g_iald C 1 0 rfl rfl (by omega) (by omega) (by omega) std_S_node_81 ?_
        refine g_S_i (wc := []) (wr := [(s0, .inr (0, [.ref t0, .ref y0, .ref f0, .ref n0, .int (iI (bI H))])), (yk, .inl (cI, aI cap gk)), (yc, .inl (cI, aI cap gct)), (yd, .inl (cI, aI cap gcf)), (yx, .inl (cJ, aL cap gwf)), (y0, .inr (2, [.ref t0, .int (iI total), .ref ys, .ref yk, .ref yc, .ref yd, .ref yw, .ref yx, .ref yb, .ref yu])), (t0, .inr (1, [.int (iI steps), .int (iI choices), .int (iI bars), .ref hs, .ref hc, .ref hf, .ref hg, .ref hb, .ref he, .ref hm])), (ys, .inl (cI, aI 14 gst))]) (rest := []) C (c_usedOfFirst l dC dI cI cJ cZ (gk ((gst a) + b)) (by omega)) (st_cS C kw_2_86 kw_2_192 kw_1_1 kw_2_85 sth_S_usedOfFirst ⟨Nat.le_of_ble_eq_true rfl, Nat.le_of_ble_eq_true rfl⟩) rfl rfl (Nat.le_of_ble_eq_true rfl) std_S_node_82 ⟨Nat.le_of_ble_eq_true rfl, Nat.le_of_ble_eq_true rfl⟩ [] [0, 1, 2, 3, 4, 5, 6, 7] rfl rfl rfl rfl (by decide) (fun r7 u8 h9 => ?_)
        subst h9
        refine g_ws (ws' := [(s0, .inr (0, [.ref t0, .ref y0, .ref f0, .ref n0, .int (iI (bI H))])), (yk, .inl (cI, aI cap gk)), (yc, .inl (cI, aI cap gct)), (yd, .inl (cI, aI cap gcf)), (yx, .inl (cJ, aL cap gwf)), (y0, .inr (2, [.ref t0, .int (iI total), .ref ys, .ref yk, .ref yc, .ref yd, .ref yw, .ref yx, .ref yb, .ref yu])), (t0, .inr (1, [.int (iI steps), .int (iI choices), .int (iI bars), .ref hs, .ref hc, .ref hf, .ref hg, .ref hb, .ref he, .ref hm])), (ys, .inl (cI, aI 14 gst))]) rfl ?_
        refine g_sub (ws' := [(s0, .inr (0, [.ref t0, .ref y0, .ref f0, .ref n0, .int (iI (bI H))])), (y0, .inr (2, [.ref t0, .int (iI total), .ref ys, .ref yk, .ref yc, .ref yd, .ref yw, .ref yx, .ref yb, .ref yu])), (t0, .inr (1, [.int (iI steps), .int (iI choices), .int (iI bars), .ref hs, .ref hc, .ref hf, .ref hg, .ref hb, .ref he, .ref hm])), (ys, .inl (cI, aI 14 gst)), (yk, .inl (cI, aI cap gk)), (yc, .inl (cI, aI cap gct)), (yd, .inl (cI, aI cap gcf)), (yx, .inl (cJ, aL cap gwf))]) [0, 5, 6, 7, 1, 2, 3, 4] rfl rfl ?_
        refine g_wide (k := 0) (n := 0) (Nat.le_of_ble_eq_true rfl) (Nat.le_of_ble_eq_true rfl) ?_
        exact hret _ _ _ () (by rw [sel_t c1, sel_t (by omega), sel_t (by omega)]) std_S_node_85
      by_cases sw10 : k = 1
      · refine g_tin (tgt := 86) C std_S_node_39 ⟨by omega, by omega⟩ (by omega) (by omega) (by rw [sw10]; rfl) (by decide) ?_
        refine g_aload_n C 1 std_S_node_86 rfl ?_
        refine g_get C (st_sub sti_S) 0 rfl rfl 1 (by decide) (List.mem_cons_of_mem _ kw_1_190) rfl rfl std_S_node_87 ?_
        refine g_get C (st_sub sti_Y) 5 rfl rfl 3 (by decide) (List.mem_cons_of_mem _ kw_1_89) rfl rfl std_S_node_90 ?_
        refine g_iload C 0 std_S_node_93 rfl ?_
        refine g_iald C 1 0 rfl rfl (by omega) (by omega) (by omega) std_S_node_95 ?_
        refine g_S_i (wc := []) (wr := [(s0, .inr (0, [.ref t0, .ref y0, .ref f0, .ref n0, .int (iI (bI H))])), (yk, .inl (cI, aI cap gk)), (yc, .inl (cI, aI cap gct)), (yd, .inl (cI, aI cap gcf)), (yx, .inl (cJ, aL cap gwf)), (y0, .inr (2, [.ref t0, .int (iI total), .ref ys, .ref yk, .ref yc, .ref yd, .ref yw, .ref yx, .ref yb, .ref yu])), (t0, .inr (1, [.int (iI steps), .int (iI choices), .int (iI bars), .ref hs, .ref hc, .ref hf, .ref hg, .ref hb, .ref he, .ref hm])), (ys, .inl (cI, aI 14 gst))]) (rest := []) C (c_usedOfSecond l dC dI cI cJ cZ (gk ((gst a) + b)) (by omega)) (st_cS C kw_2_89 kw_2_193 kw_1_1 kw_2_88 sth_S_usedOfSecond ⟨Nat.le_of_ble_eq_true rfl, Nat.le_of_ble_eq_true rfl⟩) rfl rfl (Nat.le_of_ble_eq_true rfl) std_S_node_96 ⟨Nat.le_of_ble_eq_true rfl, Nat.le_of_ble_eq_true rfl⟩ [] [0, 1, 2, 3, 4, 5, 6, 7] rfl rfl rfl rfl (by decide) (fun r11 u12 h13 => ?_)
        subst h13
        refine g_ws (ws' := [(s0, .inr (0, [.ref t0, .ref y0, .ref f0, .ref n0, .int (iI (bI H))])), (yk, .inl (cI, aI cap gk)), (yc, .inl (cI, aI cap gct)), (yd, .inl (cI, aI cap gcf)), (yx, .inl (cJ, aL cap gwf)), (y0, .inr (2, [.ref t0, .int (iI total), .ref ys, .ref yk, .ref yc, .ref yd, .ref yw, .ref yx, .ref yb, .ref yu])), (t0, .inr (1, [.int (iI steps), .int (iI choices), .int (iI bars), .ref hs, .ref hc, .ref hf, .ref hg, .ref hb, .ref he, .ref hm])), (ys, .inl (cI, aI 14 gst))]) rfl ?_
        refine g_sub (ws' := [(s0, .inr (0, [.ref t0, .ref y0, .ref f0, .ref n0, .int (iI (bI H))])), (y0, .inr (2, [.ref t0, .int (iI total), .ref ys, .ref yk, .ref yc, .ref yd, .ref yw, .ref yx, .ref yb, .ref yu])), (t0, .inr (1, [.int (iI steps), .int (iI choices), .int (iI bars), .ref hs, .ref hc, .ref hf, .ref hg, .ref hb, .ref he, .ref hm])), (ys, .inl (cI, aI 14 gst)), (yk, .inl (cI, aI cap gk)), (yc, .inl (cI, aI cap gct)), (yd, .inl (cI, aI cap gcf)), (yx, .inl (cJ, aL cap gwf))]) [0, 5, 6, 7, 1, 2, 3, 4] rfl rfl ?_
        refine g_wide (k := 0) (n := 0) (Nat.le_of_ble_eq_true rfl) (Nat.le_of_ble_eq_true rfl) ?_
        exact hret _ _ _ () (by rw [sel_t c1, sel_t (by omega), sel_f (by omega), sel_t (by omega)]) std_S_node_99
      by_cases sw14 : k = 2
      · refine g_tin (tgt := 100) C std_S_node_39 ⟨by omega, by omega⟩ (by omega) (by omega) (by rw [sw14]; rfl) (by decide) ?_
        refine g_aload_n C 1 std_S_node_100 rfl ?_
        refine g_get C (st_sub sti_S) 0 rfl rfl 1 (by decide) (List.mem_cons_of_mem _ kw_1_190) rfl rfl std_S_node_101 ?_
        refine g_get C (st_sub sti_Y) 5 rfl rfl 3 (by decide) (List.mem_cons_of_mem _ kw_1_89) rfl rfl std_S_node_104 ?_
        refine g_iload C 0 std_S_node_107 rfl ?_
        refine g_iald C 1 0 rfl rfl (by omega) (by omega) (by omega) std_S_node_109 ?_
        refine g_S_i (wc := []) (wr := [(s0, .inr (0, [.ref t0, .ref y0, .ref f0, .ref n0, .int (iI (bI H))])), (yk, .inl (cI, aI cap gk)), (yc, .inl (cI, aI cap gct)), (yd, .inl (cI, aI cap gcf)), (yx, .inl (cJ, aL cap gwf)), (y0, .inr (2, [.ref t0, .int (iI total), .ref ys, .ref yk, .ref yc, .ref yd, .ref yw, .ref yx, .ref yb, .ref yu])), (t0, .inr (1, [.int (iI steps), .int (iI choices), .int (iI bars), .ref hs, .ref hc, .ref hf, .ref hg, .ref hb, .ref he, .ref hm])), (ys, .inl (cI, aI 14 gst))]) (rest := []) C (c_lastChoice l dC dI cI cJ cZ (gk ((gst a) + b)) ) (st_cS C kw_2_83 kw_2_194 kw_1_1 kw_2_82 sth_S_lastChoice ⟨Nat.le_of_ble_eq_true rfl, Nat.le_of_ble_eq_true rfl⟩) rfl rfl (Nat.le_of_ble_eq_true rfl) std_S_node_110 ⟨Nat.le_of_ble_eq_true rfl, Nat.le_of_ble_eq_true rfl⟩ [] [0, 1, 2, 3, 4, 5, 6, 7] rfl rfl rfl rfl (by decide) (fun r15 u16 h17 => ?_)
        subst h17
        refine g_ws (ws' := [(s0, .inr (0, [.ref t0, .ref y0, .ref f0, .ref n0, .int (iI (bI H))])), (yk, .inl (cI, aI cap gk)), (yc, .inl (cI, aI cap gct)), (yd, .inl (cI, aI cap gcf)), (yx, .inl (cJ, aL cap gwf)), (y0, .inr (2, [.ref t0, .int (iI total), .ref ys, .ref yk, .ref yc, .ref yd, .ref yw, .ref yx, .ref yb, .ref yu])), (t0, .inr (1, [.int (iI steps), .int (iI choices), .int (iI bars), .ref hs, .ref hc, .ref hf, .ref hg, .ref hb, .ref he, .ref hm])), (ys, .inl (cI, aI 14 gst))]) rfl ?_
        refine g_sub (ws' := [(s0, .inr (0, [.ref t0, .ref y0, .ref f0, .ref n0, .int (iI (bI H))])), (y0, .inr (2, [.ref t0, .int (iI total), .ref ys, .ref yk, .ref yc, .ref yd, .ref yw, .ref yx, .ref yb, .ref yu])), (t0, .inr (1, [.int (iI steps), .int (iI choices), .int (iI bars), .ref hs, .ref hc, .ref hf, .ref hg, .ref hb, .ref he, .ref hm])), (ys, .inl (cI, aI 14 gst)), (yk, .inl (cI, aI cap gk)), (yc, .inl (cI, aI cap gct)), (yd, .inl (cI, aI cap gcf)), (yx, .inl (cJ, aL cap gwf))]) [0, 5, 6, 7, 1, 2, 3, 4] rfl rfl ?_
        refine g_wide (k := 0) (n := 0) (Nat.le_of_ble_eq_true rfl) (Nat.le_of_ble_eq_true rfl) ?_
        exact hret _ _ _ () (by rw [sel_t c1, sel_t (by omega), sel_f (by omega), sel_f (by omega), sel_t (by omega)]) std_S_node_113
      by_cases sw18 : k = 3
      · refine g_tin (tgt := 114) C std_S_node_39 ⟨by omega, by omega⟩ (by omega) (by omega) (by rw [sw18]; rfl) (by decide) ?_
        refine g_aload_n C 1 std_S_node_114 rfl ?_
        refine g_get C (st_sub sti_S) 0 rfl rfl 1 (by decide) (List.mem_cons_of_mem _ kw_1_190) rfl rfl std_S_node_115 ?_
        refine g_get C (st_sub sti_Y) 5 rfl rfl 4 (by decide) (List.mem_cons_of_mem _ kw_1_91) rfl rfl std_S_node_118 ?_
        refine g_iload C 0 std_S_node_121 rfl ?_
        refine g_iald C 2 0 rfl rfl (by omega) (by omega) (by omega) std_S_node_123 ?_
        refine g_sub (ws' := [(s0, .inr (0, [.ref t0, .ref y0, .ref f0, .ref n0, .int (iI (bI H))])), (y0, .inr (2, [.ref t0, .int (iI total), .ref ys, .ref yk, .ref yc, .ref yd, .ref yw, .ref yx, .ref yb, .ref yu])), (t0, .inr (1, [.int (iI steps), .int (iI choices), .int (iI bars), .ref hs, .ref hc, .ref hf, .ref hg, .ref hb, .ref he, .ref hm])), (ys, .inl (cI, aI 14 gst)), (yk, .inl (cI, aI cap gk)), (yc, .inl (cI, aI cap gct)), (yd, .inl (cI, aI cap gcf)), (yx, .inl (cJ, aL cap gwf))]) [0, 5, 6, 7, 1, 2, 3, 4] rfl rfl ?_
        refine g_wide (k := 0) (n := 0) (Nat.le_of_ble_eq_true rfl) (Nat.le_of_ble_eq_true rfl) ?_
        exact hret _ _ _ () (by rw [sel_t c1, sel_t (by omega), sel_f (by omega), sel_f (by omega), sel_f (by omega), sel_t (by omega)]) std_S_node_124
      by_cases sw19 : k = 4
      · refine g_tin (tgt := 125) C std_S_node_39 ⟨by omega, by omega⟩ (by omega) (by omega) (by rw [sw19]; rfl) (by decide) ?_
        refine g_aload_n C 1 std_S_node_125 rfl ?_
        refine g_get C (st_sub sti_S) 0 rfl rfl 1 (by decide) (List.mem_cons_of_mem _ kw_1_190) rfl rfl std_S_node_126 ?_
        refine g_iload C 0 std_S_node_129 rfl ?_
        refine g_V_i (wc := [(y0, .inr (2, [.ref t0, .int (iI total), .ref ys, .ref yk, .ref yc, .ref yd, .ref yw, .ref yx, .ref yb, .ref yu])), (yd, .inl (cI, aI cap gcf)), (yx, .inl (cJ, aL cap gwf))]) (wr := [(s0, .inr (0, [.ref t0, .ref y0, .ref f0, .ref n0, .int (iI (bI H))])), (yk, .inl (cI, aI cap gk)), (yc, .inl (cI, aI cap gct)), (t0, .inr (1, [.int (iI steps), .int (iI choices), .int (iI bars), .ref hs, .ref hc, .ref hf, .ref hg, .ref hb, .ref he, .ref hm])), (ys, .inl (cI, aI 14 gst))]) (rest := []) C (c_leastFrom l dC dI cI cJ cZ y0 ys yk yc yd yw yx yb yu total t0 cap gcf gwf ((gst a) + b) (kcap) (by omega) (hh.2)) (st_cV C kw_2_150 kw_2_147 kw_1_3 kw_2_148 kw_2_149 sth_Y_leastFrom ⟨Nat.le_of_ble_eq_true rfl, Nat.le_of_ble_eq_true rfl⟩) 0 rfl rfl rfl rfl (Nat.le_of_ble_eq_true rfl) std_S_node_131 ⟨Nat.le_of_ble_eq_true rfl, Nat.le_of_ble_eq_true rfl⟩ [5, 3, 4] [0, 1, 2, 6, 7] rfl rfl rfl rfl (by decide) (fun r20 u21 h22 => ?_)
        subst h22
        refine g_ws (ws' := [(s0, .inr (0, [.ref t0, .ref y0, .ref f0, .ref n0, .int (iI (bI H))])), (yk, .inl (cI, aI cap gk)), (yc, .inl (cI, aI cap gct)), (t0, .inr (1, [.int (iI steps), .int (iI choices), .int (iI bars), .ref hs, .ref hc, .ref hf, .ref hg, .ref hb, .ref he, .ref hm])), (ys, .inl (cI, aI 14 gst)), (y0, .inr (2, [.ref t0, .int (iI total), .ref ys, .ref yk, .ref yc, .ref yd, .ref yw, .ref yx, .ref yb, .ref yu])), (yd, .inl (cI, aI cap gcf)), (yx, .inl (cJ, aL cap gwf))]) rfl ?_
        refine g_sub (ws' := [(s0, .inr (0, [.ref t0, .ref y0, .ref f0, .ref n0, .int (iI (bI H))])), (y0, .inr (2, [.ref t0, .int (iI total), .ref ys, .ref yk, .ref yc, .ref yd, .ref yw, .ref yx, .ref yb, .ref yu])), (t0, .inr (1, [.int (iI steps), .int (iI choices), .int (iI bars), .ref hs, .ref hc, .ref hf, .ref hg, .ref hb, .ref he, .ref hm])), (ys, .inl (cI, aI 14 gst)), (yk, .inl (cI, aI cap gk)), (yc, .inl (cI, aI cap gct)), (yd, .inl (cI, aI cap gcf)), (yx, .inl (cJ, aL cap gwf))]) [0, 5, 3, 4, 1, 2, 6, 7] rfl rfl ?_
        refine g_wide (k := 0) (n := 0) (Nat.le_of_ble_eq_true rfl) (Nat.le_of_ble_eq_true rfl) ?_
        exact hret _ _ _ () (by rw [sel_t c1, sel_t (by omega), sel_f (by omega), sel_f (by omega), sel_f (by omega), sel_f (by omega), sel_t (by omega)]) std_S_node_134
      refine g_tout (tgt := 135) C std_S_node_39 ⟨by omega, by omega⟩ (by omega) (by decide) ?_
      refine g_ldc C (z := (-2000000)) (List.mem_cons_of_mem _ kw_1_228) (by decide) std_S_node_135 ?_
      refine g_sub (ws' := [(s0, .inr (0, [.ref t0, .ref y0, .ref f0, .ref n0, .int (iI (bI H))])), (y0, .inr (2, [.ref t0, .int (iI total), .ref ys, .ref yk, .ref yc, .ref yd, .ref yw, .ref yx, .ref yb, .ref yu])), (t0, .inr (1, [.int (iI steps), .int (iI choices), .int (iI bars), .ref hs, .ref hc, .ref hf, .ref hg, .ref hb, .ref he, .ref hm])), (ys, .inl (cI, aI 14 gst)), (yk, .inl (cI, aI cap gk)), (yc, .inl (cI, aI cap gct)), (yd, .inl (cI, aI cap gcf)), (yx, .inl (cJ, aL cap gwf))]) [0, 5, 6, 7, 1, 2, 3, 4] rfl rfl ?_
      refine g_wide (k := 0) (n := 0) (Nat.le_of_ble_eq_true rfl) (Nat.le_of_ble_eq_true rfl) ?_
      exact hret _ _ _ () (by rw [sel_t c1, sel_t (by omega), sel_f (by omega), sel_f (by omega), sel_f (by omega), sel_f (by omega), sel_f (by omega)]) std_S_node_137
    · refine g_ldc C (z := (-2000000)) (List.mem_cons_of_mem _ kw_1_228) (by decide) std_S_node_22 ?_
      refine g_sub (ws' := [(s0, .inr (0, [.ref t0, .ref y0, .ref f0, .ref n0, .int (iI (bI H))])), (y0, .inr (2, [.ref t0, .int (iI total), .ref ys, .ref yk, .ref yc, .ref yd, .ref yw, .ref yx, .ref yb, .ref yu])), (t0, .inr (1, [.int (iI steps), .int (iI choices), .int (iI bars), .ref hs, .ref hc, .ref hf, .ref hg, .ref hb, .ref he, .ref hm])), (ys, .inl (cI, aI 14 gst)), (yk, .inl (cI, aI cap gk)), (yc, .inl (cI, aI cap gct)), (yd, .inl (cI, aI cap gcf)), (yx, .inl (cJ, aL cap gwf))]) [0, 5, 6, 7, 1, 2, 3, 4] rfl rfl ?_
      refine g_wide (k := 0) (n := 0) (Nat.le_of_ble_eq_true rfl) (Nat.le_of_ble_eq_true rfl) ?_
      exact hret _ _ _ () (by rw [sel_t c1, sel_f (by omega)]) std_S_node_24
  · refine g_ldc C (z := (-4000000)) (List.mem_cons_of_mem _ kw_2_152) (by decide) std_S_node_7 ?_
    exact hret _ _ _ () (by rw [sel_f c1]) std_S_node_9

abbrev sty_S_leads : MethodName := ⟨"StateTables", "leads", "(III)I"⟩
abbrev stc_S_leads : ByteArray := prog_1_method_16_code
theorem sth_S_leads : (sty_S_leads).cls ≠ "java/lang/invoke/MethodHandle" ∧ (sty_S_leads).cls ≠ "java/lang/invoke/VarHandle" ∧ (parseMethodDescriptor (sty_S_leads).desc).map (fun d => d.parameters.length) = some 3 := by decide +kernel
theorem std_S_leads_0 : decode stc_S_leads 0 = .ok (.aload_n 0, 1) := by decide +kernel
theorem std_S_leads_1 : decode stc_S_leads 1 = .ok (.getfield 41, 3) := by decide +kernel
theorem std_S_leads_4 : decode stc_S_leads 4 = .ok (.ifCond .ne 6, 3) := by decide +kernel
theorem std_S_leads_10 : decode stc_S_leads 10 = .ok (.aload_n 0, 1) := by decide +kernel
theorem std_S_leads_11 : decode stc_S_leads 11 = .ok (.getfield 21, 3) := by decide +kernel
theorem std_S_leads_14 : decode stc_S_leads 14 = .ok (.iload_n 1, 1) := by decide +kernel
theorem std_S_leads_15 : decode stc_S_leads 15 = .ok (.iload_n 2, 1) := by decide +kernel
theorem std_S_leads_16 : decode stc_S_leads 16 = .ok (.invokevirtual 128, 3) := by decide +kernel
theorem std_S_leads_19 : decode stc_S_leads 19 = .ok (.ifCond .eq 15, 3) := by decide +kernel
theorem std_S_leads_34 : decode stc_S_leads 34 = .ok (.ldc 64, 2) := by decide +kernel
theorem std_S_leads_36 : decode stc_S_leads 36 = .ok (.ireturn, 1) := by decide +kernel
theorem std_S_leads_22 : decode stc_S_leads 22 = .ok (.aload_n 0, 1) := by decide +kernel
theorem std_S_leads_23 : decode stc_S_leads 23 = .ok (.getfield 12, 3) := by decide +kernel
theorem std_S_leads_26 : decode stc_S_leads 26 = .ok (.iload_n 1, 1) := by decide +kernel
theorem std_S_leads_27 : decode stc_S_leads 27 = .ok (.iload_n 3, 1) := by decide +kernel
theorem std_S_leads_28 : decode stc_S_leads 28 = .ok (.invokevirtual 73, 3) := by decide +kernel
theorem kw_2_3 : Cond.code sty_T_hasChoice stc_T_hasChoice 3 (some .boolean) ∈ stGW := st_t2 (List.mem_of_getElem? (i := 3) (by decide +kernel)) (by decide +kernel)
theorem kw_2_0 : Cond.methodLink "StateTables" 73 (sty_T_hasChoice) ∈ stGW := st_t2 (List.mem_of_getElem? (i := 0) (by decide +kernel)) (by decide +kernel)
theorem kw_2_1 : Cond.instanceMethod (sty_T_hasChoice) ∈ stGW := st_t2 (List.mem_of_getElem? (i := 1) (by decide +kernel)) (by decide +kernel)
theorem kw_2_2 : Cond.selects "StateTables$Told" (sty_T_hasChoice) (sty_T_hasChoice) ∈ stGW := st_t2 (List.mem_of_getElem? (i := 2) (by decide +kernel)) (by decide +kernel)
theorem std_S_leads_31 : decode stc_S_leads 31 = .ok (.ifCond .ne 6, 3) := by decide +kernel
theorem std_S_leads_37 : decode stc_S_leads 37 = .ok (.aload_n 0, 1) := by decide +kernel
theorem std_S_leads_38 : decode stc_S_leads 38 = .ok (.getfield 21, 3) := by decide +kernel
theorem std_S_leads_41 : decode stc_S_leads 41 = .ok (.aload_n 0, 1) := by decide +kernel
theorem std_S_leads_42 : decode stc_S_leads 42 = .ok (.getfield 21, 3) := by decide +kernel
theorem std_S_leads_45 : decode stc_S_leads 45 = .ok (.getfield 131, 3) := by decide +kernel
theorem std_S_leads_48 : decode stc_S_leads 48 = .ok (.iload_n 1, 1) := by decide +kernel
theorem std_S_leads_49 : decode stc_S_leads 49 = .ok (.iaload, 1) := by decide +kernel
theorem std_S_leads_50 : decode stc_S_leads 50 = .ok (.iload_n 2, 1) := by decide +kernel
theorem std_S_leads_51 : decode stc_S_leads 51 = .ok (.iadd, 1) := by decide +kernel
theorem std_S_leads_52 : decode stc_S_leads 52 = .ok (.iload_n 3, 1) := by decide +kernel
theorem std_S_leads_53 : decode stc_S_leads 53 = .ok (.invokevirtual 157, 3) := by decide +kernel
theorem kw_2_220 : Cond.methodLink "StateTables" 157 (sty_Y_nodeBehind) ∈ stGW := st_t2 (List.mem_of_getElem? (i := 220) (by decide +kernel)) (by decide +kernel)
theorem std_S_leads_56 : decode stc_S_leads 56 = .ok (.istore 4, 2) := by decide +kernel
theorem std_S_leads_58 : decode stc_S_leads 58 = .ok (.iload 4, 2) := by decide +kernel
theorem std_S_leads_60 : decode stc_S_leads 60 = .ok (.ifCond .ge 8, 3) := by decide +kernel
theorem std_S_leads_68 : decode stc_S_leads 68 = .ok (.iload 4, 2) := by decide +kernel
theorem std_S_leads_70 : decode stc_S_leads 70 = .ok (.aload_n 0, 1) := by decide +kernel
theorem std_S_leads_71 : decode stc_S_leads 71 = .ok (.getfield 21, 3) := by decide +kernel
theorem std_S_leads_74 : decode stc_S_leads 74 = .ok (.getfield 131, 3) := by decide +kernel
theorem std_S_leads_77 : decode stc_S_leads 77 = .ok (.iload_n 1, 1) := by decide +kernel
theorem std_S_leads_78 : decode stc_S_leads 78 = .ok (.iconst 1, 1) := by decide +kernel
theorem std_S_leads_79 : decode stc_S_leads 79 = .ok (.iadd, 1) := by decide +kernel
theorem std_S_leads_80 : decode stc_S_leads 80 = .ok (.iaload, 1) := by decide +kernel
theorem std_S_leads_81 : decode stc_S_leads 81 = .ok (.isub, 1) := by decide +kernel
theorem std_S_leads_82 : decode stc_S_leads 82 = .ok (.ireturn, 1) := by decide +kernel
theorem std_S_leads_63 : decode stc_S_leads 63 = .ok (.ldc 160, 2) := by decide +kernel
theorem kw_2_221 : Cond.constant "StateTables" 160 (-1000000) ∈ stGW := st_t2 (List.mem_of_getElem? (i := 221) (by decide +kernel)) (by decide +kernel)
theorem std_S_leads_65 : decode stc_S_leads 65 = .ok (.goto 17, 3) := by decide +kernel
theorem std_S_leads_7 : decode stc_S_leads 7 = .ok (.ldc 105, 2) := by decide +kernel
theorem std_S_leads_9 : decode stc_S_leads 9 = .ok (.ireturn, 1) := by decide +kernel
set_option maxHeartbeats 4000000 in
set_option maxRecDepth 100000 in
theorem c_leads (l : Launch) (dC : Nat → ClassId) (dI : Nat → Nat → Nat) (cI cJ cZ : ClassId) (s0 : Nat) (n0 : Nat) (H : Prop) (y0 : Nat) (ys : Nat) (yk : Nat) (yc : Nat) (yd : Nat) (yw : Nat) (yx : Nat) (yb : Nat) (yu : Nat) (total : Int) (t0 : Nat) (hs : Nat) (hc : Nat) (hf : Nat) (hg : Nat) (hb : Nat) (he : Nat) (hm : Nat) (steps : Int) (choices : Int) (bars : Int) (f0 : Nat) (cap : Nat) (gst : Int → Int) (gbe : Int → Int) (fsz : Int → Int) (a : Int) (b : Int) (k : Int) (kst : 0 ≤ steps ∧ steps ≤ 12) (kcap : cap ≤ 4801) (kgst : ∀ j, 0 ≤ j → j < 14 → 0 ≤ gst j ∧ gst j ≤ cap) (ka : rI a) (kb : rI b) (ksz : ∀ j, 0 ≤ j → j < 12 → 0 ≤ fsz j ∧ fsz j ≤ 6) (kk : rI k) (kH : H → ∀ a b k, 0 ≤ a → a < steps → 0 ≤ b → b < gst (a + 1) - gst a → 0 ≤ k → k < fsz a → rI (gbe ((((gst a) + b) * 6) + k))) : ∀ sz, Met l sty_S_leads (Cond.code sty_S_leads stc_S_leads 5 (some .int) :: stGW) ({ frames := 2, cells := 0, slots := 0, locals := 43 } : Room) (va_Pc [.ref s0, .int (iI a), .int (iI b), .int (iI k)] (zPre (dC, dI) stCl [(cI, .int), (cJ, .long), (cZ, .boolean)] st_nw [(s0, .inr (0, [.ref t0, .ref y0, .ref f0, .ref n0, .int (iI (bI H))])), (y0, .inr (2, [.ref t0, .int (iI total), .ref ys, .ref yk, .ref yc, .ref yd, .ref yw, .ref yx, .ref yb, .ref yu])), (t0, .inr (1, [.int (iI steps), .int (iI choices), .int (iI bars), .ref hs, .ref hc, .ref hf, .ref hg, .ref hb, .ref he, .ref hm])), (hs, .inl (cI, aI 12 fsz)), (ys, .inl (cI, aI 14 gst)), (yb, .inl (cI, aI (6 * cap) gbe))] sz)) (va_Qi (fun (r : Int32) (_ : Unit) => r = iI (sel H (sel (((0 ≤ a ∧ a ≤ steps) ∧ 0 ≤ b ∧ b < (gst (a + 1)) - (gst a)) ∧ ((0 ≤ a ∧ a < steps) ∧ 0 ≤ k ∧ k < fsz a)) (sel ((gbe ((((gst a) + b) * 6) + k)) < 0) (-1000000) ((gbe ((((gst a) + b) * 6) + k)) - (gst (a + 1)))) (-2000000)) (-4000000))) (zPost (dC, dI) stCl [(cI, .int), (cJ, .long), (cZ, .boolean)] [(s0, .inr (0, [.ref t0, .ref y0, .ref f0, .ref n0, .int (iI (bI H))])), (y0, .inr (2, [.ref t0, .int (iI total), .ref ys, .ref yk, .ref yc, .ref yd, .ref yw, .ref yx, .ref yb, .ref yu])), (t0, .inr (1, [.int (iI steps), .int (iI choices), .int (iI bars), .ref hs, .ref hc, .ref hf, .ref hg, .ref hb, .ref he, .ref hm])), (hs, .inl (cI, aI 12 fsz)), (ys, .inl (cI, aI 14 gst)), (yb, .inl (cI, aI (6 * cap) gbe))] sz (fun _ : Unit => [(s0, .inr (0, [.ref t0, .ref y0, .ref f0, .ref n0, .int (iI (bI H))])), (y0, .inr (2, [.ref t0, .int (iI total), .ref ys, .ref yk, .ref yc, .ref yd, .ref yw, .ref yx, .ref yb, .ref yu])), (t0, .inr (1, [.int (iI steps), .int (iI choices), .int (iI bars), .ref hs, .ref hc, .ref hf, .ref hg, .ref hb, .ref he, .ref hm])), (hs, .inl (cI, aI 12 fsz)), (ys, .inl (cI, aI 14 gst)), (yb, .inl (cI, aI (6 * cap) gbe))])) (va_A [(s0, .inr (0, [.ref t0, .ref y0, .ref f0, .ref n0, .int (iI (bI H))])), (y0, .inr (2, [.ref t0, .int (iI total), .ref ys, .ref yk, .ref yc, .ref yd, .ref yw, .ref yx, .ref yb, .ref yu])), (t0, .inr (1, [.int (iI steps), .int (iI choices), .int (iI bars), .ref hs, .ref hc, .ref hf, .ref hg, .ref hb, .ref he, .ref hm])), (hs, .inl (cI, aI 12 fsz)), (ys, .inl (cI, aI 14 gst)), (yb, .inl (cI, aI (6 * cap) gbe))] sz)) 0 0 (va_A [(s0, .inr (0, [.ref t0, .ref y0, .ref f0, .ref n0, .int (iI (bI H))])), (y0, .inr (2, [.ref t0, .int (iI total), .ref ys, .ref yk, .ref yc, .ref yd, .ref yw, .ref yx, .ref yb, .ref yu])), (t0, .inr (1, [.int (iI steps), .int (iI choices), .int (iI bars), .ref hs, .ref hc, .ref hf, .ref hg, .ref hb, .ref he, .ref hm])), (hs, .inl (cI, aI 12 fsz)), (ys, .inl (cI, aI 14 gst)), (yb, .inl (cI, aI (6 * cap) gbe))] sz) := by
  refine met_i (by decide) rfl (Nat.le_of_ble_eq_true rfl) ?_
  intro p e s m below meth c A Q C hmn hret
  refine g_aload_n C 0 std_S_leads_0 rfl ?_
  refine g_get C (st_sub sti_S) 0 rfl rfl 4 (by decide) (List.mem_cons_of_mem _ kw_1_193) rfl rfl std_S_leads_1 ?_
  refine g_ifne_b (tgt := 10) C std_S_leads_4 (by decide) (fun c1 => ?_) (fun c1 => ?_)
  · refine g_aload_n C 0 std_S_leads_10 rfl ?_
    refine g_get C (st_sub sti_S) 0 rfl rfl 1 (by decide) (List.mem_cons_of_mem _ kw_1_190) rfl rfl std_S_leads_11 ?_
    refine g_iload_n C 1 std_S_leads_14 rfl ?_
    refine g_iload_n C 2 std_S_leads_15 rfl ?_
    refine g_V_i (wc := [(y0, .inr (2, [.ref t0, .int (iI total), .ref ys, .ref yk, .ref yc, .ref yd, .ref yw, .ref yx, .ref yb, .ref yu])), (t0, .inr (1, [.int (iI steps), .int (iI choices), .int (iI bars), .ref hs, .ref hc, .ref hf, .ref hg, .ref hb, .ref he, .ref hm])), (ys, .inl (cI, aI 14 gst))]) (wr := [(s0, .inr (0, [.ref t0, .ref y0, .ref f0, .ref n0, .int (iI (bI H))])), (hs, .inl (cI, aI 12 fsz)), (yb, .inl (cI, aI (6 * cap) gbe))]) (rest := []) C (c_hasNode l dC dI cI cJ cZ y0 ys yk yc yd yw yx yb yu total t0 hs hc hf hg hb he hm steps choices bars cap gst a b (kst) (kcap) (kgst) (by omega) (by omega)) (st_cV C kw_2_190 kw_2_187 kw_1_3 kw_2_188 kw_2_189 sth_Y_hasNode ⟨Nat.le_of_ble_eq_true rfl, Nat.le_of_ble_eq_true rfl⟩) 0 rfl rfl rfl rfl (Nat.le_of_ble_eq_true rfl) std_S_leads_16 ⟨Nat.le_of_ble_eq_true rfl, Nat.le_of_ble_eq_true rfl⟩ [1, 2, 4] [0, 3, 5] rfl rfl rfl rfl (by decide) (fun r2 u3 h4 => ?_)
    subst h4
    refine g_ws (ws' := [(s0, .inr (0, [.ref t0, .ref y0, .ref f0, .ref n0, .int (iI (bI H))])), (hs, .inl (cI, aI 12 fsz)), (yb, .inl (cI, aI (6 * cap) gbe)), (y0, .inr (2, [.ref t0, .int (iI total), .ref ys, .ref yk, .ref yc, .ref yd, .ref yw, .ref yx, .ref yb, .ref yu])), (t0, .inr (1, [.int (iI steps), .int (iI choices), .int (iI bars), .ref hs, .ref hc, .ref hf, .ref hg, .ref hb, .ref he, .ref hm])), (ys, .inl (cI, aI 14 gst))]) rfl ?_
    refine g_ifeq_b (tgt := 34) C std_S_leads_19 (by decide) (fun c5 => ?_) (fun c5 => ?_)
    · refine g_ldc C (z := (-2000000)) (List.mem_cons_of_mem _ kw_1_228) (by decide) std_S_leads_34 ?_
      refine g_sub (ws' := [(s0, .inr (0, [.ref t0, .ref y0, .ref f0, .ref n0, .int (iI (bI H))])), (y0, .inr (2, [.ref t0, .int (iI total), .ref ys, .ref yk, .ref yc, .ref yd, .ref yw, .ref yx, .ref yb, .ref yu])), (t0, .inr (1, [.int (iI steps), .int (iI choices), .int (iI bars), .ref hs, .ref hc, .ref hf, .ref hg, .ref hb, .ref he, .ref hm])), (hs, .inl (cI, aI 12 fsz)), (ys, .inl (cI, aI 14 gst)), (yb, .inl (cI, aI (6 * cap) gbe))]) [0, 3, 4, 1, 5, 2] rfl rfl ?_
      refine g_wide (k := 0) (n := 0) (Nat.le_of_ble_eq_true rfl) (Nat.le_of_ble_eq_true rfl) ?_
      exact hret _ _ _ () (by rw [sel_t c1, sel_f (by omega)]) std_S_leads_36
    · refine g_aload_n C 0 std_S_leads_22 rfl ?_
      refine g_get C (st_sub sti_S) 0 rfl rfl 0 (by decide) (List.mem_cons_of_mem _ kw_1_189) rfl rfl std_S_leads_23 ?_
      refine g_iload_n C 1 std_S_leads_26 rfl ?_
      refine g_iload_n C 3 std_S_leads_27 rfl ?_
      refine g_V_i (wc := [(t0, .inr (1, [.int (iI steps), .int (iI choices), .int (iI bars), .ref hs, .ref hc, .ref hf, .ref hg, .ref hb, .ref he, .ref hm])), (hs, .inl (cI, aI 12 fsz))]) (wr := [(s0, .inr (0, [.ref t0, .ref y0, .ref f0, .ref n0, .int (iI (bI H))])), (yb, .inl (cI, aI (6 * cap) gbe)), (y0, .inr (2, [.ref t0, .int (iI total), .ref ys, .ref yk, .ref yc, .ref yd, .ref yw, .ref yx, .ref yb, .ref yu])), (ys, .inl (cI, aI 14 gst))]) (rest := []) C (c_hasChoice l dC dI cI cJ cZ t0 hs hc hf hg hb he hm steps choices bars fsz a k (kst) (ksz) (by omega) (by omega)) (st_cV C kw_2_3 kw_2_0 kw_1_2 kw_2_1 kw_2_2 sth_T_hasChoice ⟨Nat.le_of_ble_eq_true rfl, Nat.le_of_ble_eq_true rfl⟩) 0 rfl rfl rfl rfl (Nat.le_of_ble_eq_true rfl) std_S_leads_28 ⟨Nat.le_of_ble_eq_true rfl, Nat.le_of_ble_eq_true rfl⟩ [4, 1] [0, 2, 3, 5] rfl rfl rfl rfl (by decide) (fun r6 u7 h8 => ?_)
      subst h8
      refine g_ws (ws' := [(s0, .inr (0, [.ref t0, .ref y0, .ref f0, .ref n0, .int (iI (bI H))])), (yb, .inl (cI, aI (6 * cap) gbe)), (y0, .inr (2, [.ref t0, .int (iI total), .ref ys, .ref yk, .ref yc, .ref yd, .ref yw, .ref yx, .ref yb, .ref yu])), (ys, .inl (cI, aI 14 gst)), (t0, .inr (1, [.int (iI steps), .int (iI choices), .int (iI bars), .ref hs, .ref hc, .ref hf, .ref hg, .ref hb, .ref he, .ref hm])), (hs, .inl (cI, aI 12 fsz))]) rfl ?_
      refine g_ifne_b (tgt := 37) C std_S_leads_31 (by decide) (fun c9 => ?_) (fun c9 => ?_)
      · have hq0 := kgst a (by omega) (by omega)
        have hq1 := kgst (a + 1) (by omega) (by omega)
        have hq5 := ksz a (by omega) (by omega)
        have hh := kH c1 a b k (by omega) (by omega) (by omega) (by omega) (by omega) (by omega)
        refine g_aload_n C 0 std_S_leads_37 rfl ?_
        refine g_get C (st_sub sti_S) 0 rfl rfl 1 (by decide) (List.mem_cons_of_mem _ kw_1_190) rfl rfl std_S_leads_38 ?_
        refine g_aload_n C 0 std_S_leads_41 rfl ?_
        refine g_get C (st_sub sti_S) 0 rfl rfl 1 (by decide) (List.mem_cons_of_mem _ kw_1_190) rfl rfl std_S_leads_42 ?_
        refine g_get C (st_sub sti_Y) 2 rfl rfl 2 (by decide) (List.mem_cons_of_mem _ kw_1_87) rfl rfl std_S_leads_45 ?_
        refine g_iload_n C 1 std_S_leads_48 rfl ?_
        refine g_iald C 3 0 rfl rfl (by omega) (by omega) (by omega) std_S_leads_49 ?_
        refine g_iload_n C 2 std_S_leads_50 rfl ?_
        refine g_iadd C std_S_leads_51 ?_
        refine g_iload_n C 3 std_S_leads_52 rfl ?_
        refine g_V_i (wc := [(y0, .inr (2, [.ref t0, .int (iI total), .ref ys, .ref yk, .ref yc, .ref yd, .ref yw, .ref yx, .ref yb, .ref yu])), (yb, .inl (cI, aI (6 * cap) gbe))]) (wr := [(s0, .inr (0, [.ref t0, .ref y0, .ref f0, .ref n0, .int (iI (bI H))])), (ys, .inl (cI, aI 14 gst)), (t0, .inr (1, [.int (iI steps), .int (iI choices), .int (iI bars), .ref hs, .ref hc, .ref hf, .ref hg, .ref hb, .ref he, .ref hm])), (hs, .inl (cI, aI 12 fsz))]) (rest := []) C (c_nodeBehind l dC dI cI cJ cZ y0 ys yk yc yd yw yx yb yu total t0 cap gbe ((gst a) + b) k (kcap) (by omega)) (st_cV C kw_2_101 kw_2_220 kw_1_3 kw_2_99 kw_2_100 sth_Y_nodeBehind ⟨Nat.le_of_ble_eq_true rfl, Nat.le_of_ble_eq_true rfl⟩) 0 rfl rfl rfl rfl (Nat.le_of_ble_eq_true rfl) std_S_leads_53 ⟨Nat.le_of_ble_eq_true rfl, Nat.le_of_ble_eq_true rfl⟩ [2, 1] [0, 3, 4, 5] rfl rfl rfl rfl (by decide) (fun r10 u11 h12 => ?_)
        subst h12
        refine g_ws (ws' := [(s0, .inr (0, [.ref t0, .ref y0, .ref f0, .ref n0, .int (iI (bI H))])), (ys, .inl (cI, aI 14 gst)), (t0, .inr (1, [.int (iI steps), .int (iI choices), .int (iI bars), .ref hs, .ref hc, .ref hf, .ref hg, .ref hb, .ref he, .ref hm])), (hs, .inl (cI, aI 12 fsz)), (y0, .inr (2, [.ref t0, .int (iI total), .ref ys, .ref yk, .ref yc, .ref yd, .ref yw, .ref yx, .ref yb, .ref yu])), (yb, .inl (cI, aI (6 * cap) gbe))]) rfl ?_
        refine g_istore C (lv' := [(4, .int (iI (gbe ((((gst a) + b) * 6) + k)))), (0, .ref s0), (1, .int (iI a)), (2, .int (iI b)), (3, .int (iI k))]) std_S_leads_56 (by decide) rfl ?_
        refine g_iload C 0 std_S_leads_58 rfl ?_
        refine g_if_ge (tgt := 68) C std_S_leads_60 (by decide) ⟨by omega, by omega⟩ (fun c13 => ?_) (fun c13 => ?_)
        · refine g_iload C 0 std_S_leads_68 rfl ?_
          refine g_aload_n C 1 std_S_leads_70 rfl ?_
          refine g_get C (st_sub sti_S) 0 rfl rfl 1 (by decide) (List.mem_cons_of_mem _ kw_1_190) rfl rfl std_S_leads_71 ?_
          refine g_get C (st_sub sti_Y) 4 rfl rfl 2 (by decide) (List.mem_cons_of_mem _ kw_1_87) rfl rfl std_S_leads_74 ?_
          refine g_iload_n C 2 std_S_leads_77 rfl ?_
          refine g_iconst C std_S_leads_78 ?_
          refine g_iadd C std_S_leads_79 ?_
          refine g_iald C 1 0 rfl rfl (by omega) (by omega) (by omega) std_S_leads_80 ?_
          refine g_isub C std_S_leads_81 ?_
          refine g_sub (ws' := [(s0, .inr (0, [.ref t0, .ref y0, .ref f0, .ref n0, .int (iI (bI H))])), (y0, .inr (2, [.ref t0, .int (iI total), .ref ys, .ref yk, .ref yc, .ref yd, .ref yw, .ref yx, .ref yb, .ref yu])), (t0, .inr (1, [.int (iI steps), .int (iI choices), .int (iI bars), .ref hs, .ref hc, .ref hf, .ref hg, .ref hb, .ref he, .ref hm])), (hs, .inl (cI, aI 12 fsz)), (ys, .inl (cI, aI 14 gst)), (yb, .inl (cI, aI (6 * cap) gbe))]) [0, 4, 2, 3, 1, 5] rfl rfl ?_
          refine g_wide (k := 0) (n := 0) (Nat.le_of_ble_eq_true rfl) (Nat.le_of_ble_eq_true rfl) ?_
          exact hret _ _ _ () (by rw [sel_t c1, sel_t (by omega), sel_f (by omega)]) std_S_leads_82
        · refine g_ldc C (z := (-1000000)) (List.mem_cons_of_mem _ kw_2_221) (by decide) std_S_leads_63 ?_
          refine g_goto (tgt := 82) C std_S_leads_65 (by decide) ?_
          refine g_sub (ws' := [(s0, .inr (0, [.ref t0, .ref y0, .ref f0, .ref n0, .int (iI (bI H))])), (y0, .inr (2, [.ref t0, .int (iI total), .ref ys, .ref yk, .ref yc, .ref yd, .ref yw, .ref yx, .ref yb, .ref yu])), (t0, .inr (1, [.int (iI steps), .int (iI choices), .int (iI bars), .ref hs, .ref hc, .ref hf, .ref hg, .ref hb, .ref he, .ref hm])), (hs, .inl (cI, aI 12 fsz)), (ys, .inl (cI, aI 14 gst)), (yb, .inl (cI, aI (6 * cap) gbe))]) [0, 4, 2, 3, 1, 5] rfl rfl ?_
          refine g_wide (k := 0) (n := 0) (Nat.le_of_ble_eq_true rfl) (Nat.le_of_ble_eq_true rfl) ?_
          exact hret _ _ _ () (by rw [sel_t c1, sel_t (by omega), sel_t (by omega)]) std_S_leads_82
      · refine g_ldc C (z := (-2000000)) (List.mem_cons_of_mem _ kw_1_228) (by decide) std_S_leads_34 ?_
        refine g_sub (ws' := [(s0, .inr (0, [.ref t0, .ref y0, .ref f0, .ref n0, .int (iI (bI H))])), (y0, .inr (2, [.ref t0, .int (iI total), .ref ys, .ref yk, .ref yc, .ref yd, .ref yw, .ref yx, .ref yb, .ref yu])), (t0, .inr (1, [.int (iI steps), .int (iI choices), .int (iI bars), .ref hs, .ref hc, .ref hf, .ref hg, .ref hb, .ref he, .ref hm])), (hs, .inl (cI, aI 12 fsz)), (ys, .inl (cI, aI 14 gst)), (yb, .inl (cI, aI (6 * cap) gbe))]) [0, 2, 4, 5, 3, 1] rfl rfl ?_
        refine g_wide (k := 0) (n := 0) (Nat.le_of_ble_eq_true rfl) (Nat.le_of_ble_eq_true rfl) ?_
        exact hret _ _ _ () (by rw [sel_t c1, sel_f (by omega)]) std_S_leads_36
  · refine g_ldc C (z := (-4000000)) (List.mem_cons_of_mem _ kw_2_152) (by decide) std_S_leads_7 ?_
    exact hret _ _ _ () (by rw [sel_f c1]) std_S_leads_9

abbrev sty_S_dominated : MethodName := ⟨"StateTables", "dominated", "(II)I"⟩
abbrev stc_S_dominated : ByteArray := prog_1_method_15_code
theorem sth_S_dominated : (sty_S_dominated).cls ≠ "java/lang/invoke/MethodHandle" ∧ (sty_S_dominated).cls ≠ "java/lang/invoke/VarHandle" ∧ (parseMethodDescriptor (sty_S_dominated).desc).map (fun d => d.parameters.length) = some 2 := by decide +kernel
theorem std_S_dominated_0 : decode stc_S_dominated 0 = .ok (.aload_n 0, 1) := by decide +kernel
theorem std_S_dominated_1 : decode stc_S_dominated 1 = .ok (.getfield 41, 3) := by decide +kernel
theorem std_S_dominated_4 : decode stc_S_dominated 4 = .ok (.ifCond .ne 6, 3) := by decide +kernel
theorem std_S_dominated_10 : decode stc_S_dominated 10 = .ok (.aload_n 0, 1) := by decide +kernel
theorem std_S_dominated_11 : decode stc_S_dominated 11 = .ok (.getfield 21, 3) := by decide +kernel
theorem std_S_dominated_14 : decode stc_S_dominated 14 = .ok (.iload_n 1, 1) := by decide +kernel
theorem std_S_dominated_15 : decode stc_S_dominated 15 = .ok (.iload_n 2, 1) := by decide +kernel
theorem std_S_dominated_16 : decode stc_S_dominated 16 = .ok (.invokevirtual 128, 3) := by decide +kernel
theorem std_S_dominated_19 : decode stc_S_dominated 19 = .ok (.ifCond .eq 15, 3) := by decide +kernel
theorem std_S_dominated_34 : decode stc_S_dominated 34 = .ok (.ldc 64, 2) := by decide +kernel
theorem std_S_dominated_36 : decode stc_S_dominated 36 = .ok (.ireturn, 1) := by decide +kernel
theorem std_S_dominated_22 : decode stc_S_dominated 22 = .ok (.aload_n 0, 1) := by decide +kernel
theorem std_S_dominated_23 : decode stc_S_dominated 23 = .ok (.getfield 21, 3) := by decide +kernel
theorem std_S_dominated_26 : decode stc_S_dominated 26 = .ok (.iload_n 1, 1) := by decide +kernel
theorem std_S_dominated_27 : decode stc_S_dominated 27 = .ok (.iload_n 2, 1) := by decide +kernel
theorem std_S_dominated_28 : decode stc_S_dominated 28 = .ok (.invokevirtual 154, 3) := by decide +kernel
theorem kw_2_207 : Cond.code sty_Y_firstThatDominates stc_Y_firstThatDominates 5 (some .int) ∈ stGW := st_t2 (List.mem_of_getElem? (i := 207) (by decide +kernel)) (by decide +kernel)
theorem kw_2_204 : Cond.methodLink "StateTables" 154 (sty_Y_firstThatDominates) ∈ stGW := st_t2 (List.mem_of_getElem? (i := 204) (by decide +kernel)) (by decide +kernel)
theorem kw_2_205 : Cond.instanceMethod (sty_Y_firstThatDominates) ∈ stGW := st_t2 (List.mem_of_getElem? (i := 205) (by decide +kernel)) (by decide +kernel)
theorem kw_2_206 : Cond.selects "StateTables$Layers" (sty_Y_firstThatDominates) (sty_Y_firstThatDominates) ∈ stGW := st_t2 (List.mem_of_getElem? (i := 206) (by decide +kernel)) (by decide +kernel)
theorem std_S_dominated_31 : decode stc_S_dominated 31 = .ok (.goto 5, 3) := by decide +kernel
theorem std_S_dominated_7 : decode stc_S_dominated 7 = .ok (.ldc 105, 2) := by decide +kernel
theorem std_S_dominated_9 : decode stc_S_dominated 9 = .ok (.ireturn, 1) := by decide +kernel
set_option maxHeartbeats 4000000 in
set_option maxRecDepth 100000 in
theorem c_dominated (l : Launch) (dC : Nat → ClassId) (dI : Nat → Nat → Nat) (cI cJ cZ : ClassId) (s0 : Nat) (n0 : Nat) (H : Prop) (y0 : Nat) (ys : Nat) (yk : Nat) (yc : Nat) (yd : Nat) (yw : Nat) (yx : Nat) (yb : Nat) (yu : Nat) (total : Int) (t0 : Nat) (hs : Nat) (hc : Nat) (hf : Nat) (hg : Nat) (hb : Nat) (he : Nat) (hm : Nat) (steps : Int) (choices : Int) (bars : Int) (f0 : Nat) (cap : Nat) (gst : Int → Int) (gk : Int → Int) (gct : Int → Int) (fle : Int → Int) (a : Int) (b : Int) (kst : 0 ≤ steps ∧ steps ≤ 12) (kcap : cap ≤ 4801) (kgst : ∀ j, 0 ≤ j → j < 14 → 0 ≤ gst j ∧ gst j ≤ cap) (ka : rI a) (kb : rI b) (kle : ∀ j, 0 ≤ j → j < 2 → 0 ≤ fle j ∧ fle j ≤ 40) (kH : H → ∀ i, 0 ≤ i → i < gst (steps + 1) → (0 ≤ gk i ∧ gk i < 32768) ∧ -100000 ≤ gct i ∧ gct i ≤ 100000) (kmon : H → ∀ j, 0 ≤ j → j ≤ steps → gst (j + 1) ≤ gst (steps + 1)) : ∀ sz, Met l sty_S_dominated (Cond.code sty_S_dominated stc_S_dominated 3 (some .int) :: stGW) ({ frames := 3, cells := 0, slots := 0, locals := 69 } : Room) (va_Pc [.ref s0, .int (iI a), .int (iI b)] (zPre (dC, dI) stCl [(cI, .int), (cJ, .long), (cZ, .boolean)] st_nw [(s0, .inr (0, [.ref t0, .ref y0, .ref f0, .ref n0, .int (iI (bI H))])), (y0, .inr (2, [.ref t0, .int (iI total), .ref ys, .ref yk, .ref yc, .ref yd, .ref yw, .ref yx, .ref yb, .ref yu])), (t0, .inr (1, [.int (iI steps), .int (iI choices), .int (iI bars), .ref hs, .ref hc, .ref hf, .ref hg, .ref hb, .ref he, .ref hm])), (ys, .inl (cI, aI 14 gst)), (yk, .inl (cI, aI cap gk)), (yc, .inl (cI, aI cap gct)), (he, .inl (cI, aI 2 fle))] sz)) (va_Qi (fun (r : Int32) (z : Int) => r = iI (sel H (sel ((0 ≤ a ∧ a ≤ steps) ∧ 0 ≤ b ∧ b < (gst (a + 1)) - (gst a)) z (-2000000)) (-4000000)) ∧ (H → ((0 ≤ a ∧ a ≤ steps) ∧ 0 ≤ b ∧ b < (gst (a + 1)) - (gst a)) → FDp fle gk gct (gst a) b z)) (zPost (dC, dI) stCl [(cI, .int), (cJ, .long), (cZ, .boolean)] [(s0, .inr (0, [.ref t0, .ref y0, .ref f0, .ref n0, .int (iI (bI H))])), (y0, .inr (2, [.ref t0, .int (iI total), .ref ys, .ref yk, .ref yc, .ref yd, .ref yw, .ref yx, .ref yb, .ref yu])), (t0, .inr (1, [.int (iI steps), .int (iI choices), .int (iI bars), .ref hs, .ref hc, .ref hf, .ref hg, .ref hb, .ref he, .ref hm])), (ys, .inl (cI, aI 14 gst)), (yk, .inl (cI, aI cap gk)), (yc, .inl (cI, aI cap gct)), (he, .inl (cI, aI 2 fle))] sz (fun _ : Int => [(s0, .inr (0, [.ref t0, .ref y0, .ref f0, .ref n0, .int (iI (bI H))])), (y0, .inr (2, [.ref t0, .int (iI total), .ref ys, .ref yk, .ref yc, .ref yd, .ref yw, .ref yx, .ref yb, .ref yu])), (t0, .inr (1, [.int (iI steps), .int (iI choices), .int (iI bars), .ref hs, .ref hc, .ref hf, .ref hg, .ref hb, .ref he, .ref hm])), (ys, .inl (cI, aI 14 gst)), (yk, .inl (cI, aI cap gk)), (yc, .inl (cI, aI cap gct)), (he, .inl (cI, aI 2 fle))])) (va_A [(s0, .inr (0, [.ref t0, .ref y0, .ref f0, .ref n0, .int (iI (bI H))])), (y0, .inr (2, [.ref t0, .int (iI total), .ref ys, .ref yk, .ref yc, .ref yd, .ref yw, .ref yx, .ref yb, .ref yu])), (t0, .inr (1, [.int (iI steps), .int (iI choices), .int (iI bars), .ref hs, .ref hc, .ref hf, .ref hg, .ref hb, .ref he, .ref hm])), (ys, .inl (cI, aI 14 gst)), (yk, .inl (cI, aI cap gk)), (yc, .inl (cI, aI cap gct)), (he, .inl (cI, aI 2 fle))] sz)) 0 0 (va_A [(s0, .inr (0, [.ref t0, .ref y0, .ref f0, .ref n0, .int (iI (bI H))])), (y0, .inr (2, [.ref t0, .int (iI total), .ref ys, .ref yk, .ref yc, .ref yd, .ref yw, .ref yx, .ref yb, .ref yu])), (t0, .inr (1, [.int (iI steps), .int (iI choices), .int (iI bars), .ref hs, .ref hc, .ref hf, .ref hg, .ref hb, .ref he, .ref hm])), (ys, .inl (cI, aI 14 gst)), (yk, .inl (cI, aI cap gk)), (yc, .inl (cI, aI cap gct)), (he, .inl (cI, aI 2 fle))] sz) := by
  refine met_i (by decide) rfl (Nat.le_of_ble_eq_true rfl) ?_
  intro p e s m below meth c A Q C hmn hret
  refine g_aload_n C 0 std_S_dominated_0 rfl ?_
  refine g_get C (st_sub sti_S) 0 rfl rfl 4 (by decide) (List.mem_cons_of_mem _ kw_1_193) rfl rfl std_S_dominated_1 ?_
  refine g_ifne_b (tgt := 10) C std_S_dominated_4 (by decide) (fun c1 => ?_) (fun c1 => ?_)
  · refine g_aload_n C 0 std_S_dominated_10 rfl ?_
    refine g_get C (st_sub sti_S) 0 rfl rfl 1 (by decide) (List.mem_cons_of_mem _ kw_1_190) rfl rfl std_S_dominated_11 ?_
    refine g_iload_n C 1 std_S_dominated_14 rfl ?_
    refine g_iload_n C 2 std_S_dominated_15 rfl ?_
    refine g_V_i (wc := [(y0, .inr (2, [.ref t0, .int (iI total), .ref ys, .ref yk, .ref yc, .ref yd, .ref yw, .ref yx, .ref yb, .ref yu])), (t0, .inr (1, [.int (iI steps), .int (iI choices), .int (iI bars), .ref hs, .ref hc, .ref hf, .ref hg, .ref hb, .ref he, .ref hm])), (ys, .inl (cI, aI 14 gst))]) (wr := [(s0, .inr (0, [.ref t0, .ref y0, .ref f0, .ref n0, .int (iI (bI H))])), (yk, .inl (cI, aI cap gk)), (yc, .inl (cI, aI cap gct)), (he, .inl (cI, aI 2 fle))]) (rest := []) C (c_hasNode l dC dI cI cJ cZ y0 ys yk yc yd yw yx yb yu total t0 hs hc hf hg hb he hm steps choices bars cap gst a b (kst) (kcap) (kgst) (by omega) (by omega)) (st_cV C kw_2_190 kw_2_187 kw_1_3 kw_2_188 kw_2_189 sth_Y_hasNode ⟨Nat.le_of_ble_eq_true rfl, Nat.le_of_ble_eq_true rfl⟩) 0 rfl rfl rfl rfl (Nat.le_of_ble_eq_true rfl) std_S_dominated_16 ⟨Nat.le_of_ble_eq_true rfl, Nat.le_of_ble_eq_true rfl⟩ [1, 2, 3] [0, 4, 5, 6] rfl rfl rfl rfl (by decide) (fun r2 u3 h4 => ?_)
    subst h4
    refine g_ws (ws' := [(s0, .inr (0, [.ref t0, .ref y0, .ref f0, .ref n0, .int (iI (bI H))])), (yk, .inl (cI, aI cap gk)), (yc, .inl (cI, aI cap gct)), (he, .inl (cI, aI 2 fle)), (y0, .inr (2, [.ref t0, .int (iI total), .ref ys, .ref yk, .ref yc, .ref yd, .ref yw, .ref yx, .ref yb, .ref yu])), (t0, .inr (1, [.int (iI steps), .int (iI choices), .int (iI bars), .ref hs, .ref hc, .ref hf, .ref hg, .ref hb, .ref he, .ref hm])), (ys, .inl (cI, aI 14 gst))]) rfl ?_
    refine g_ifeq_b (tgt := 34) C std_S_dominated_19 (by decide) (fun c5 => ?_) (fun c5 => ?_)
    · refine g_ldc C (z := (-2000000)) (List.mem_cons_of_mem _ kw_1_228) (by decide) std_S_dominated_34 ?_
      refine g_sub (ws' := [(s0, .inr (0, [.ref t0, .ref y0, .ref f0, .ref n0, .int (iI (bI H))])), (y0, .inr (2, [.ref t0, .int (iI total), .ref ys, .ref yk, .ref yc, .ref yd, .ref yw, .ref yx, .ref yb, .ref yu])), (t0, .inr (1, [.int (iI steps), .int (iI choices), .int (iI bars), .ref hs, .ref hc, .ref hf, .ref hg, .ref hb, .ref he, .ref hm])), (ys, .inl (cI, aI 14 gst)), (yk, .inl (cI, aI cap gk)), (yc, .inl (cI, aI cap gct)), (he, .inl (cI, aI 2 fle))]) [0, 4, 5, 6, 1, 2, 3] rfl rfl ?_
      refine g_wide (k := 0) (n := 0) (Nat.le_of_ble_eq_true rfl) (Nat.le_of_ble_eq_true rfl) ?_
      exact hret _ _ _ 0 (⟨by rw [sel_t c1, sel_f (by omega)], fun _ q => absurd q (by omega)⟩) std_S_dominated_36
    · have hq0 := kgst a (by omega) (by omega)
      have hq1 := kgst (a + 1) (by omega) (by omega)
      have hq2 := kmon c1 a (by omega) (by omega)
      have hh := kH c1
      refine g_aload_n C 0 std_S_dominated_22 rfl ?_
      refine g_get C (st_sub sti_S) 0 rfl rfl 1 (by decide) (List.mem_cons_of_mem _ kw_1_190) rfl rfl std_S_dominated_23 ?_
      refine g_iload_n C 1 std_S_dominated_26 rfl ?_
      refine g_iload_n C 2 std_S_dominated_27 rfl ?_
      refine g_V_i (wc := [(y0, .inr (2, [.ref t0, .int (iI total), .ref ys, .ref yk, .ref yc, .ref yd, .ref yw, .ref yx, .ref yb, .ref yu])), (ys, .inl (cI, aI 14 gst)), (yk, .inl (cI, aI cap gk)), (yc, .inl (cI, aI cap gct)), (t0, .inr (1, [.int (iI steps), .int (iI choices), .int (iI bars), .ref hs, .ref hc, .ref hf, .ref hg, .ref hb, .ref he, .ref hm])), (he, .inl (cI, aI 2 fle))]) (wr := [(s0, .inr (0, [.ref t0, .ref y0, .ref f0, .ref n0, .int (iI (bI H))]))]) (rest := []) C (c_firstThatDominates l dC dI cI cJ cZ y0 ys yk yc yd yw yx yb yu total t0 hs hc hf hg hb he hm steps choices bars cap gst gk gct fle a b (kcap) (kgst) (kle) (by omega) (by omega) (fun i i1 i2 => hh i (by omega) (by omega))) (st_cV C kw_2_207 kw_2_204 kw_1_3 kw_2_205 kw_2_206 sth_Y_firstThatDominates ⟨Nat.le_of_ble_eq_true rfl, Nat.le_of_ble_eq_true rfl⟩) 0 rfl rfl rfl rfl (Nat.le_of_ble_eq_true rfl) std_S_dominated_28 ⟨Nat.le_of_ble_eq_true rfl, Nat.le_of_ble_eq_true rfl⟩ [4, 6, 1, 2, 5, 3] [0] rfl rfl rfl rfl (by decide) (fun r6 u7 h8 => ?_)
      obtain ⟨h8r, h8p⟩ := h8
      subst h8r
      refine g_ws (ws' := [(s0, .inr (0, [.ref t0, .ref y0, .ref f0, .ref n0, .int (iI (bI H))])), (y0, .inr (2, [.ref t0, .int (iI total), .ref ys, .ref yk, .ref yc, .ref yd, .ref yw, .ref yx, .ref yb, .ref yu])), (ys, .inl (cI, aI 14 gst)), (yk, .inl (cI, aI cap gk)), (yc, .inl (cI, aI cap gct)), (t0, .inr (1, [.int (iI steps), .int (iI choices), .int (iI bars), .ref hs, .ref hc, .ref hf, .ref hg, .ref hb, .ref he, .ref hm])), (he, .inl (cI, aI 2 fle))]) rfl ?_
      refine g_goto (tgt := 36) C std_S_dominated_31 (by decide) ?_
      refine g_sub (ws' := [(s0, .inr (0, [.ref t0, .ref y0, .ref f0, .ref n0, .int (iI (bI H))])), (y0, .inr (2, [.ref t0, .int (iI total), .ref ys, .ref yk, .ref yc, .ref yd, .ref yw, .ref yx, .ref yb, .ref yu])), (t0, .inr (1, [.int (iI steps), .int (iI choices), .int (iI bars), .ref hs, .ref hc, .ref hf, .ref hg, .ref hb, .ref he, .ref hm])), (ys, .inl (cI, aI 14 gst)), (yk, .inl (cI, aI cap gk)), (yc, .inl (cI, aI cap gct)), (he, .inl (cI, aI 2 fle))]) [0, 1, 5, 2, 3, 4, 6] rfl rfl ?_
      refine g_wide (k := 0) (n := 0) (Nat.le_of_ble_eq_true rfl) (Nat.le_of_ble_eq_true rfl) ?_
      exact hret _ _ _ u7 (⟨by rw [sel_t c1, sel_t (by omega)], fun _ _ => h8p⟩) std_S_dominated_36
  · refine g_ldc C (z := (-4000000)) (List.mem_cons_of_mem _ kw_2_152) (by decide) std_S_dominated_7 ?_
    exact hret _ _ _ 0 (⟨by rw [sel_f c1], fun q => absurd q c1⟩) std_S_dominated_9

abbrev sty_S_count : MethodName := ⟨"StateTables", "count", "(I)I"⟩
abbrev stc_S_count : ByteArray := prog_1_method_19_code
theorem sth_S_count : (sty_S_count).cls ≠ "java/lang/invoke/MethodHandle" ∧ (sty_S_count).cls ≠ "java/lang/invoke/VarHandle" ∧ (parseMethodDescriptor (sty_S_count).desc).map (fun d => d.parameters.length) = some 1 := by decide +kernel
theorem std_S_count_0 : decode stc_S_count 0 = .ok (.iload_n 1, 1) := by decide +kernel
theorem std_S_count_1 : decode stc_S_count 1 = .ok (.tableswitch 68 0 3 #[31, 39, 47, 55], 31) := by decide +kernel
theorem std_S_count_32 : decode stc_S_count 32 = .ok (.aload_n 0, 1) := by decide +kernel
theorem std_S_count_33 : decode stc_S_count 33 = .ok (.getfield 12, 3) := by decide +kernel
theorem std_S_count_36 : decode stc_S_count 36 = .ok (.getfield 45, 3) := by decide +kernel
theorem kw_1_24 : Cond.fieldLink "StateTables" 45 "StateTables$Told" "steps" "I" ∈ stGW := st_t1 (List.mem_of_getElem? (i := 24) (by decide +kernel)) (by decide +kernel)
theorem std_S_count_39 : decode stc_S_count 39 = .ok (.ireturn, 1) := by decide +kernel
theorem std_S_count_40 : decode stc_S_count 40 = .ok (.aload_n 0, 1) := by decide +kernel
theorem std_S_count_41 : decode stc_S_count 41 = .ok (.getfield 12, 3) := by decide +kernel
theorem std_S_count_44 : decode stc_S_count 44 = .ok (.getfield 174, 3) := by decide +kernel
theorem kw_1_30 : Cond.fieldLink "StateTables" 174 "StateTables$Told" "choices" "I" ∈ stGW := st_t1 (List.mem_of_getElem? (i := 30) (by decide +kernel)) (by decide +kernel)
theorem std_S_count_47 : decode stc_S_count 47 = .ok (.ireturn, 1) := by decide +kernel
theorem std_S_count_48 : decode stc_S_count 48 = .ok (.aload_n 0, 1) := by decide +kernel
theorem std_S_count_49 : decode stc_S_count 49 = .ok (.getfield 12, 3) := by decide +kernel
theorem std_S_count_52 : decode stc_S_count 52 = .ok (.getfield 177, 3) := by decide +kernel
theorem kw_1_32 : Cond.fieldLink "StateTables" 177 "StateTables$Told" "bars" "I" ∈ stGW := st_t1 (List.mem_of_getElem? (i := 32) (by decide +kernel)) (by decide +kernel)
theorem std_S_count_55 : decode stc_S_count 55 = .ok (.ireturn, 1) := by decide +kernel
theorem std_S_count_56 : decode stc_S_count 56 = .ok (.aload_n 0, 1) := by decide +kernel
theorem std_S_count_57 : decode stc_S_count 57 = .ok (.getfield 41, 3) := by decide +kernel
theorem std_S_count_60 : decode stc_S_count 60 = .ok (.ifCond .eq 7, 3) := by decide +kernel
theorem std_S_count_67 : decode stc_S_count 67 = .ok (.iconst 0, 1) := by decide +kernel
theorem std_S_count_68 : decode stc_S_count 68 = .ok (.ireturn, 1) := by decide +kernel
theorem std_S_count_63 : decode stc_S_count 63 = .ok (.iconst 1, 1) := by decide +kernel
theorem std_S_count_64 : decode stc_S_count 64 = .ok (.goto 4, 3) := by decide +kernel
theorem std_S_count_69 : decode stc_S_count 69 = .ok (.ldc 64, 2) := by decide +kernel
theorem std_S_count_71 : decode stc_S_count 71 = .ok (.ireturn, 1) := by decide +kernel
set_option maxHeartbeats 4000000 in
set_option maxRecDepth 100000 in
theorem c_count (l : Launch) (dC : Nat → ClassId) (dI : Nat → Nat → Nat) (cI cJ cZ : ClassId) (s0 : Nat) (n0 : Nat) (H : Prop) (t0 : Nat) (hs : Nat) (hc : Nat) (hf : Nat) (hg : Nat) (hb : Nat) (he : Nat) (hm : Nat) (steps : Int) (choices : Int) (bars : Int) (y0 : Nat) (f0 : Nat) (k : Int) (kk : rI k) : ∀ sz, Met l sty_S_count (Cond.code sty_S_count stc_S_count 2 (some .int) :: stGW) ({ frames := 0, cells := 0, slots := 0, locals := 0 } : Room) (va_Pc [.ref s0, .int (iI k)] (zPre (dC, dI) stCl [(cI, .int), (cJ, .long), (cZ, .boolean)] st_nw [(s0, .inr (0, [.ref t0, .ref y0, .ref f0, .ref n0, .int (iI (bI H))])), (t0, .inr (1, [.int (iI steps), .int (iI choices), .int (iI bars), .ref hs, .ref hc, .ref hf, .ref hg, .ref hb, .ref he, .ref hm]))] sz)) (va_Qi (fun (r : Int32) (_ : Unit) => r = iI (sel (k = 0) steps (sel (k = 1) choices (sel (k = 2) bars (sel (k = 3) (bI H) (-2000000)))))) (zPost (dC, dI) stCl [(cI, .int), (cJ, .long), (cZ, .boolean)] [(s0, .inr (0, [.ref t0, .ref y0, .ref f0, .ref n0, .int (iI (bI H))])), (t0, .inr (1, [.int (iI steps), .int (iI choices), .int (iI bars), .ref hs, .ref hc, .ref hf, .ref hg, .ref hb, .ref he, .ref hm]))] sz (fun _ : Unit => [(s0, .inr (0, [.ref t0, .ref y0, .ref f0, .ref n0, .int (iI (bI H))])), (t0, .inr (1, [.int (iI steps), .int (iI choices), .int (iI bars), .ref hs, .ref hc, .ref hf, .ref hg, .ref hb, .ref he, .ref hm]))])) (va_A [(s0, .inr (0, [.ref t0, .ref y0, .ref f0, .ref n0, .int (iI (bI H))])), (t0, .inr (1, [.int (iI steps), .int (iI choices), .int (iI bars), .ref hs, .ref hc, .ref hf, .ref hg, .ref hb, .ref he, .ref hm]))] sz)) 0 0 (va_A [(s0, .inr (0, [.ref t0, .ref y0, .ref f0, .ref n0, .int (iI (bI H))])), (t0, .inr (1, [.int (iI steps), .int (iI choices), .int (iI bars), .ref hs, .ref hc, .ref hf, .ref hg, .ref hb, .ref he, .ref hm]))] sz) := by
  refine met_i (by decide) rfl (Nat.le_of_ble_eq_true rfl) ?_
  intro p e s m below meth c A Q C hmn hret
  refine g_iload_n C 1 std_S_count_0 rfl ?_
  by_cases sw1 : k = 0
  · refine g_tin (tgt := 32) C std_S_count_1 ⟨by omega, by omega⟩ (by omega) (by omega) (by rw [sw1]; rfl) (by decide) ?_
    refine g_aload_n C 0 std_S_count_32 rfl ?_
    refine g_get C (st_sub sti_S) 0 rfl rfl 0 (by decide) (List.mem_cons_of_mem _ kw_1_189) rfl rfl std_S_count_33 ?_
    refine g_get C (st_sub sti_T) 1 rfl rfl 0 (by decide) (List.mem_cons_of_mem _ kw_1_24) rfl rfl std_S_count_36 ?_
    exact hret _ _ _ () (by rw [sel_t (by omega)]) std_S_count_39
  by_cases sw2 : k = 1
  · refine g_tin (tgt := 40) C std_S_count_1 ⟨by omega, by omega⟩ (by omega) (by omega) (by rw [sw2]; rfl) (by decide) ?_
    refine g_aload_n C 0 std_S_count_40 rfl ?_
    refine g_get C (st_sub sti_S) 0 rfl rfl 0 (by decide) (List.mem_cons_of_mem _ kw_1_189) rfl rfl std_S_count_41 ?_
    refine g_get C (st_sub sti_T) 1 rfl rfl 1 (by decide) (List.mem_cons_of_mem _ kw_1_30) rfl rfl std_S_count_44 ?_
    exact hret _ _ _ () (by rw [sel_f (by omega), sel_t (by omega)]) std_S_count_47
  by_cases sw3 : k = 2
  · refine g_tin (tgt := 48) C std_S_count_1 ⟨by omega, by omega⟩ (by omega) (by omega) (by rw [sw3]; rfl) (by decide) ?_
    refine g_aload_n C 0 std_S_count_48 rfl ?_
    refine g_get C (st_sub sti_S) 0 rfl rfl 0 (by decide) (List.mem_cons_of_mem _ kw_1_189) rfl rfl std_S_count_49 ?_
    refine g_get C (st_sub sti_T) 1 rfl rfl 2 (by decide) (List.mem_cons_of_mem _ kw_1_32) rfl rfl std_S_count_52 ?_
    exact hret _ _ _ () (by rw [sel_f (by omega), sel_f (by omega), sel_t (by omega)]) std_S_count_55
  by_cases sw4 : k = 3
  · refine g_tin (tgt := 56) C std_S_count_1 ⟨by omega, by omega⟩ (by omega) (by omega) (by rw [sw4]; rfl) (by decide) ?_
    refine g_aload_n C 0 std_S_count_56 rfl ?_
    refine g_get C (st_sub sti_S) 0 rfl rfl 4 (by decide) (List.mem_cons_of_mem _ kw_1_193) rfl rfl std_S_count_57 ?_
    refine g_ifeq_b (tgt := 67) C std_S_count_60 (by decide) (fun c5 => ?_) (fun c5 => ?_)
    · refine g_iconst C std_S_count_67 ?_
      exact hret _ _ _ () (by rw [sel_f (by omega), sel_f (by omega), sel_f (by omega), sel_t (by omega), bI_f c5]) std_S_count_68
    · refine g_iconst C std_S_count_63 ?_
      refine g_goto (tgt := 68) C std_S_count_64 (by decide) ?_
      exact hret _ _ _ () (by rw [sel_f (by omega), sel_f (by omega), sel_f (by omega), sel_t (by omega), bI_t c5]) std_S_count_68
  refine g_tout (tgt := 69) C std_S_count_1 ⟨by omega, by omega⟩ (by omega) (by decide) ?_
  refine g_ldc C (z := (-2000000)) (List.mem_cons_of_mem _ kw_1_228) (by decide) std_S_count_69 ?_
  exact hret _ _ _ () (by rw [sel_f (by omega), sel_f (by omega), sel_f (by omega), sel_f (by omega)]) std_S_count_71

