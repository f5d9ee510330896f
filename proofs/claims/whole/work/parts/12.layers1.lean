/-! Layers: reads -/
abbrev sty_Y_hasLayer : MethodName := ⟨"StateTables$Layers", "hasLayer", "(I)Z"⟩
abbrev stc_Y_hasLayer : ByteArray := prog_3_method_2_code
theorem sth_Y_hasLayer : (sty_Y_hasLayer).cls ≠ "java/lang/invoke/MethodHandle" ∧ (sty_Y_hasLayer).cls ≠ "java/lang/invoke/VarHandle" ∧ (parseMethodDescriptor (sty_Y_hasLayer).desc).map (fun d => d.parameters.length) = some 1 := by decide +kernel
theorem std_Y_hasLayer_0 : decode stc_Y_hasLayer 0 = .ok (.iload_n 1, 1) := by decide +kernel
theorem std_Y_hasLayer_1 : decode stc_Y_hasLayer 1 = .ok (.ifCond .lt 18, 3) := by decide +kernel
theorem std_Y_hasLayer_19 : decode stc_Y_hasLayer 19 = .ok (.iconst 0, 1) := by decide +kernel
theorem std_Y_hasLayer_20 : decode stc_Y_hasLayer 20 = .ok (.ireturn, 1) := by decide +kernel
theorem std_Y_hasLayer_4 : decode stc_Y_hasLayer 4 = .ok (.iload_n 1, 1) := by decide +kernel
theorem std_Y_hasLayer_5 : decode stc_Y_hasLayer 5 = .ok (.aload_n 0, 1) := by decide +kernel
theorem std_Y_hasLayer_6 : decode stc_Y_hasLayer 6 = .ok (.getfield 37, 3) := by decide +kernel
theorem kw_1_83 : Cond.fieldLink "StateTables$Layers" 37 "StateTables$Layers" "told" "LStateTables$Told;" ∈ stGW := st_t1 (List.mem_of_getElem? (i := 83) (by decide +kernel)) (by decide +kernel)
theorem std_Y_hasLayer_9 : decode stc_Y_hasLayer 9 = .ok (.getfield 41, 3) := by decide +kernel
theorem kw_1_26 : Cond.fieldLink "StateTables$Layers" 41 "StateTables$Told" "steps" "I" ∈ stGW := st_t1 (List.mem_of_getElem? (i := 26) (by decide +kernel)) (by decide +kernel)
theorem std_Y_hasLayer_12 : decode stc_Y_hasLayer 12 = .ok (.if_icmp .gt 7, 3) := by decide +kernel
theorem std_Y_hasLayer_15 : decode stc_Y_hasLayer 15 = .ok (.iconst 1, 1) := by decide +kernel
theorem std_Y_hasLayer_16 : decode stc_Y_hasLayer 16 = .ok (.goto 4, 3) := by decide +kernel
set_option maxHeartbeats 4000000 in
set_option maxRecDepth 100000 in
theorem c_hasLayer (l : Launch) (dC : Nat → ClassId) (dI : Nat → Nat → Nat) (cI cJ cZ : ClassId) (y0 : Nat) (ys : Nat) (yk : Nat) (yc : Nat) (yd : Nat) (yw : Nat) (yx : Nat) (yb : Nat) (yu : Nat) (total : Int) (t0 : Nat) (hs : Nat) (hc : Nat) (hf : Nat) (hg : Nat) (hb : Nat) (he : Nat) (hm : Nat) (steps : Int) (choices : Int) (bars : Int) (a : Int) (kst : 0 ≤ steps ∧ steps ≤ 12) (ka : rI a) : ∀ sz, Met l sty_Y_hasLayer (Cond.code sty_Y_hasLayer stc_Y_hasLayer 2 (some .boolean) :: stGW) ({ frames := 0, cells := 0, slots := 0, locals := 0 } : Room) (va_Pc [.ref y0, .int (iI a)] (zPre (dC, dI) stCl [(cI, .int), (cJ, .long), (cZ, .boolean)] st_nw [(y0, .inr (2, [.ref t0, .int (iI total), .ref ys, .ref yk, .ref yc, .ref yd, .ref yw, .ref yx, .ref yb, .ref yu])), (t0, .inr (1, [.int (iI steps), .int (iI choices), .int (iI bars), .ref hs, .ref hc, .ref hf, .ref hg, .ref hb, .ref he, .ref hm]))] sz)) (va_Qi (fun (r : Int32) (_ : Unit) => r = iI (bI (0 ≤ a ∧ a ≤ steps))) (zPost (dC, dI) stCl [(cI, .int), (cJ, .long), (cZ, .boolean)] [(y0, .inr (2, [.ref t0, .int (iI total), .ref ys, .ref yk, .ref yc, .ref yd, .ref yw, .ref yx, .ref yb, .ref yu])), (t0, .inr (1, [.int (iI steps), .int (iI choices), .int (iI bars), .ref hs, .ref hc, .ref hf, .ref hg, .ref hb, .ref he, .ref hm]))] sz (fun _ : Unit => [(y0, .inr (2, [.ref t0, .int (iI total), .ref ys, .ref yk, .ref yc, .ref yd, .ref yw, .ref yx, .ref yb, .ref yu])), (t0, .inr (1, [.int (iI steps), .int (iI choices), .int (iI bars), .ref hs, .ref hc, .ref hf, .ref hg, .ref hb, .ref he, .ref hm]))])) (va_A [(y0, .inr (2, [.ref t0, .int (iI total), .ref ys, .ref yk, .ref yc, .ref yd, .ref yw, .ref yx, .ref yb, .ref yu])), (t0, .inr (1, [.int (iI steps), .int (iI choices), .int (iI bars), .ref hs, .ref hc, .ref hf, .ref hg, .ref hb, .ref he, .ref hm]))] sz)) 0 0 (va_A [(y0, .inr (2, [.ref t0, .int (iI total), .ref ys, .ref yk, .ref yc, .ref yd, .ref yw, .ref yx, .ref yb, .ref yu])), (t0, .inr (1, [.int (iI steps), .int (iI choices), .int (iI bars), .ref hs, .ref hc, .ref hf, .ref hg, .ref hb, .ref he, .ref hm]))] sz) := by
  refine met_z (by decide) rfl (Nat.le_of_ble_eq_true rfl) ?_
  intro p e s m below meth c A Q C hmn hret
  refine g_iload_n C 1 std_Y_hasLayer_0 rfl ?_
  refine g_if_lt (tgt := 19) C std_Y_hasLayer_1 (by decide) ⟨by omega, by omega⟩ (fun c1 => ?_) (fun c1 => ?_)
  · refine g_iconst C std_Y_hasLayer_19 ?_
    exact hret _ _ _ () (by rw [bI_f (by omega)]) (by decide) std_Y_hasLayer_20
  · refine g_iload_n C 1 std_Y_hasLayer_4 rfl ?_
    refine g_aload_n C 0 std_Y_hasLayer_5 rfl ?_
    refine g_get C (st_sub sti_Y) 0 rfl rfl 0 (by decide) (List.mem_cons_of_mem _ kw_1_83) rfl rfl std_Y_hasLayer_6 ?_
    refine g_get C (st_sub sti_T) 1 rfl rfl 0 (by decide) (List.mem_cons_of_mem _ kw_1_26) rfl rfl std_Y_hasLayer_9 ?_
    refine g_icmp_gt (tgt := 19) C std_Y_hasLayer_12 (by decide) ⟨by omega, by omega⟩ ⟨by omega, by omega⟩ (fun c2 => ?_) (fun c2 => ?_)
    · refine g_iconst C std_Y_hasLayer_19 ?_
      exact hret _ _ _ () (by rw [bI_f (by omega)]) (by decide) std_Y_hasLayer_20
    · refine g_iconst C std_Y_hasLayer_15 ?_
      refine g_goto (tgt := 20) C std_Y_hasLayer_16 (by decide) ?_
      exact hret _ _ _ () (by rw [bI_t (by omega)]) (by decide) std_Y_hasLayer_20

abbrev sty_Y_sizeOf : MethodName := ⟨"StateTables$Layers", "sizeOf", "(I)I"⟩
abbrev stc_Y_sizeOf : ByteArray := prog_3_method_4_code
theorem sth_Y_sizeOf : (sty_Y_sizeOf).cls ≠ "java/lang/invoke/MethodHandle" ∧ (sty_Y_sizeOf).cls ≠ "java/lang/invoke/VarHandle" ∧ (parseMethodDescriptor (sty_Y_sizeOf).desc).map (fun d => d.parameters.length) = some 1 := by decide +kernel
theorem std_Y_sizeOf_0 : decode stc_Y_sizeOf 0 = .ok (.aload_n 0, 1) := by decide +kernel
theorem std_Y_sizeOf_1 : decode stc_Y_sizeOf 1 = .ok (.getfield 9, 3) := by decide +kernel
theorem kw_1_86 : Cond.fieldLink "StateTables$Layers" 9 "StateTables$Layers" "start" "[I" ∈ stGW := st_t1 (List.mem_of_getElem? (i := 86) (by decide +kernel)) (by decide +kernel)
theorem std_Y_sizeOf_4 : decode stc_Y_sizeOf 4 = .ok (.iload_n 1, 1) := by decide +kernel
theorem std_Y_sizeOf_5 : decode stc_Y_sizeOf 5 = .ok (.iconst 1, 1) := by decide +kernel
theorem std_Y_sizeOf_6 : decode stc_Y_sizeOf 6 = .ok (.iadd, 1) := by decide +kernel
theorem std_Y_sizeOf_7 : decode stc_Y_sizeOf 7 = .ok (.iaload, 1) := by decide +kernel
theorem std_Y_sizeOf_8 : decode stc_Y_sizeOf 8 = .ok (.aload_n 0, 1) := by decide +kernel
theorem std_Y_sizeOf_9 : decode stc_Y_sizeOf 9 = .ok (.getfield 9, 3) := by decide +kernel
theorem std_Y_sizeOf_12 : decode stc_Y_sizeOf 12 = .ok (.iload_n 1, 1) := by decide +kernel
theorem std_Y_sizeOf_13 : decode stc_Y_sizeOf 13 = .ok (.iaload, 1) := by decide +kernel
theorem std_Y_sizeOf_14 : decode stc_Y_sizeOf 14 = .ok (.isub, 1) := by decide +kernel
theorem std_Y_sizeOf_15 : decode stc_Y_sizeOf 15 = .ok (.ireturn, 1) := by decide +kernel
set_option maxHeartbeats 4000000 in
set_option maxRecDepth 100000 in
theorem c_sizeOf (l : Launch) (dC : Nat → ClassId) (dI : Nat → Nat → Nat) (cI cJ cZ : ClassId) (y0 : Nat) (ys : Nat) (yk : Nat) (yc : Nat) (yd : Nat) (yw : Nat) (yx : Nat) (yb : Nat) (yu : Nat) (total : Int) (t0 : Nat) (gst : Int → Int) (a : Int) (ka : 0 ≤ a ∧ a < 13) : ∀ sz, Met l sty_Y_sizeOf (Cond.code sty_Y_sizeOf stc_Y_sizeOf 2 (some .int) :: stGW) ({ frames := 0, cells := 0, slots := 0, locals := 0 } : Room) (va_Pc [.ref y0, .int (iI a)] (zPre (dC, dI) stCl [(cI, .int), (cJ, .long), (cZ, .boolean)] st_nw [(y0, .inr (2, [.ref t0, .int (iI total), .ref ys, .ref yk, .ref yc, .ref yd, .ref yw, .ref yx, .ref yb, .ref yu])), (ys, .inl (cI, aI 14 gst))] sz)) (va_Qi (fun (r : Int32) (_ : Unit) => r = iI ((gst (a + 1)) - (gst a))) (zPost (dC, dI) stCl [(cI, .int), (cJ, .long), (cZ, .boolean)] [(y0, .inr (2, [.ref t0, .int (iI total), .ref ys, .ref yk, .ref yc, .ref yd, .ref yw, .ref yx, .ref yb, .ref yu])), (ys, .inl (cI, aI 14 gst))] sz (fun _ : Unit => [(y0, .inr (2, [.ref t0, .int (iI total), .ref ys, .ref yk, .ref yc, .ref yd, .ref yw, .ref yx, .ref yb, .ref yu])), (ys, .inl (cI, aI 14 gst))])) (va_A [(y0, .inr (2, [.ref t0, .int (iI total), .ref ys, .ref yk, .ref yc, .ref yd, .ref yw, .ref yx, .ref yb, .ref yu])), (ys, .inl (cI, aI 14 gst))] sz)) 0 0 (va_A [(y0, .inr (2, [.ref t0, .int (iI total), .ref ys, .ref yk, .ref yc, .ref yd, .ref yw, .ref yx, .ref yb, .ref yu])), (ys, .inl (cI, aI 14 gst))] sz) := by
  refine met_i (by decide) rfl (Nat.le_of_ble_eq_true rfl) ?_
  intro p e s m below meth c A Q C hmn hret
  refine g_aload_n C 0 std_Y_sizeOf_0 rfl ?_
  refine g_get C (st_sub sti_Y) 0 rfl rfl 2 (by decide) (List.mem_cons_of_mem _ kw_1_86) rfl rfl std_Y_sizeOf_1 ?_
  refine g_iload_n C 1 std_Y_sizeOf_4 rfl ?_
  refine g_iconst C std_Y_sizeOf_5 ?_
  refine g_iadd C std_Y_sizeOf_6 ?_
  refine g_iald C 1 0 rfl rfl (by omega) (by omega) (by omega) std_Y_sizeOf_7 ?_
  refine g_aload_n C 0 std_Y_sizeOf_8 rfl ?_
  refine g_get C (st_sub sti_Y) 0 rfl rfl 2 (by decide) (List.mem_cons_of_mem _ kw_1_86) rfl rfl std_Y_sizeOf_9 ?_
  refine g_iload_n C 1 std_Y_sizeOf_12 rfl ?_
  refine g_iald C 1 0 rfl rfl (by omega) (by omega) (by omega) std_Y_sizeOf_13 ?_
  refine g_isub C std_Y_sizeOf_14 ?_
  exact hret _ _ _ () (rfl) std_Y_sizeOf_15

abbrev sty_Y_hasNode : MethodName := ⟨"StateTables$Layers", "hasNode", "(II)Z"⟩
abbrev stc_Y_hasNode : ByteArray := prog_3_method_3_code
theorem sth_Y_hasNode : (sty_Y_hasNode).cls ≠ "java/lang/invoke/MethodHandle" ∧ (sty_Y_hasNode).cls ≠ "java/lang/invoke/VarHandle" ∧ (parseMethodDescriptor (sty_Y_hasNode).desc).map (fun d => d.parameters.length) = some 2 := by decide +kernel
theorem std_Y_hasNode_0 : decode stc_Y_hasNode 0 = .ok (.aload_n 0, 1) := by decide +kernel
theorem std_Y_hasNode_1 : decode stc_Y_hasNode 1 = .ok (.iload_n 1, 1) := by decide +kernel
theorem std_Y_hasNode_2 : decode stc_Y_hasNode 2 = .ok (.invokevirtual 47, 3) := by decide +kernel
theorem kw_2_181 : Cond.code sty_Y_hasLayer stc_Y_hasLayer 2 (some .boolean) ∈ stGW := st_t2 (List.mem_of_getElem? (i := 181) (by decide +kernel)) (by decide +kernel)
theorem kw_1_3 : Cond.initialized "StateTables$Layers" ∈ stGW := st_t1 (List.mem_of_getElem? (i := 3) (by decide +kernel)) (by decide +kernel)
theorem kw_2_191 : Cond.methodLink "StateTables$Layers" 47 (sty_Y_hasLayer) ∈ stGW := st_t2 (List.mem_of_getElem? (i := 191) (by decide +kernel)) (by decide +kernel)
theorem kw_2_179 : Cond.instanceMethod (sty_Y_hasLayer) ∈ stGW := st_t2 (List.mem_of_getElem? (i := 179) (by decide +kernel)) (by decide +kernel)
theorem kw_2_180 : Cond.selects "StateTables$Layers" (sty_Y_hasLayer) (sty_Y_hasLayer) ∈ stGW := st_t2 (List.mem_of_getElem? (i := 180) (by decide +kernel)) (by decide +kernel)
theorem std_Y_hasNode_5 : decode stc_Y_hasNode 5 = .ok (.ifCond .eq 20, 3) := by decide +kernel
theorem std_Y_hasNode_25 : decode stc_Y_hasNode 25 = .ok (.iconst 0, 1) := by decide +kernel
theorem std_Y_hasNode_26 : decode stc_Y_hasNode 26 = .ok (.ireturn, 1) := by decide +kernel
theorem std_Y_hasNode_8 : decode stc_Y_hasNode 8 = .ok (.iload_n 2, 1) := by decide +kernel
theorem std_Y_hasNode_9 : decode stc_Y_hasNode 9 = .ok (.ifCond .lt 16, 3) := by decide +kernel
theorem std_Y_hasNode_12 : decode stc_Y_hasNode 12 = .ok (.iload_n 2, 1) := by decide +kernel
theorem std_Y_hasNode_13 : decode stc_Y_hasNode 13 = .ok (.aload_n 0, 1) := by decide +kernel
theorem std_Y_hasNode_14 : decode stc_Y_hasNode 14 = .ok (.iload_n 1, 1) := by decide +kernel
theorem std_Y_hasNode_15 : decode stc_Y_hasNode 15 = .ok (.invokevirtual 51, 3) := by decide +kernel
theorem kw_2_43 : Cond.code sty_Y_sizeOf stc_Y_sizeOf 2 (some .int) ∈ stGW := st_t2 (List.mem_of_getElem? (i := 43) (by decide +kernel)) (by decide +kernel)
theorem kw_2_40 : Cond.methodLink "StateTables$Layers" 51 (sty_Y_sizeOf) ∈ stGW := st_t2 (List.mem_of_getElem? (i := 40) (by decide +kernel)) (by decide +kernel)
theorem kw_2_41 : Cond.instanceMethod (sty_Y_sizeOf) ∈ stGW := st_t2 (List.mem_of_getElem? (i := 41) (by decide +kernel)) (by decide +kernel)
theorem kw_2_42 : Cond.selects "StateTables$Layers" (sty_Y_sizeOf) (sty_Y_sizeOf) ∈ stGW := st_t2 (List.mem_of_getElem? (i := 42) (by decide +kernel)) (by decide +kernel)
theorem std_Y_hasNode_18 : decode stc_Y_hasNode 18 = .ok (.if_icmp .ge 7, 3) := by decide +kernel
theorem std_Y_hasNode_21 : decode stc_Y_hasNode 21 = .ok (.iconst 1, 1) := by decide +kernel
theorem std_Y_hasNode_22 : decode stc_Y_hasNode 22 = .ok (.goto 4, 3) := by decide +kernel
set_option maxHeartbeats 4000000 in
set_option maxRecDepth 100000 in
theorem c_hasNode (l : Launch) (dC : Nat → ClassId) (dI : Nat → Nat → Nat) (cI cJ cZ : ClassId) (y0 : Nat) (ys : Nat) (yk : Nat) (yc : Nat) (yd : Nat) (yw : Nat) (yx : Nat) (yb : Nat) (yu : Nat) (total : Int) (t0 : Nat) (hs : Nat) (hc : Nat) (hf : Nat) (hg : Nat) (hb : Nat) (he : Nat) (hm : Nat) (steps : Int) (choices : Int) (bars : Int) (cap : Nat) (gst : Int → Int) (a : Int) (b : Int) (kst : 0 ≤ steps ∧ steps ≤ 12) (kcap : cap ≤ 4801) (kgst : ∀ j, 0 ≤ j → j < 14 → 0 ≤ gst j ∧ gst j ≤ cap) (ka : rI a) (kb : rI b) : ∀ sz, Met l sty_Y_hasNode (Cond.code sty_Y_hasNode stc_Y_hasNode 3 (some .boolean) :: stGW) ({ frames := 1, cells := 0, slots := 0, locals := 21 } : Room) (va_Pc [.ref y0, .int (iI a), .int (iI b)] (zPre (dC, dI) stCl [(cI, .int), (cJ, .long), (cZ, .boolean)] st_nw [(y0, .inr (2, [.ref t0, .int (iI total), .ref ys, .ref yk, .ref yc, .ref yd, .ref yw, .ref yx, .ref yb, .ref yu])), (t0, .inr (1, [.int (iI steps), .int (iI choices), .int (iI bars), .ref hs, .ref hc, .ref hf, .ref hg, .ref hb, .ref he, .ref hm])), (ys, .inl (cI, aI 14 gst))] sz)) (va_Qi (fun (r : Int32) (_ : Unit) => r = iI (bI ((0 ≤ a ∧ a ≤ steps) ∧ 0 ≤ b ∧ b < (gst (a + 1)) - (gst a)))) (zPost (dC, dI) stCl [(cI, .int), (cJ, .long), (cZ, .boolean)] [(y0, .inr (2, [.ref t0, .int (iI total), .ref ys, .ref yk, .ref yc, .ref yd, .ref yw, .ref yx, .ref yb, .ref yu])), (t0, .inr (1, [.int (iI steps), .int (iI choices), .int (iI bars), .ref hs, .ref hc, .ref hf, .ref hg, .ref hb, .ref he, .ref hm])), (ys, .inl (cI, aI 14 gst))] sz (fun _ : Unit => [(y0, .inr (2, [.ref t0, .int (iI total), .ref ys, .ref yk, .ref yc, .ref yd, .ref yw, .ref yx, .ref yb, .ref yu])), (t0, .inr (1, [.int (iI steps), .int (iI choices), .int (iI bars), .ref hs, .ref hc, .ref hf, .ref hg, .ref hb, .ref he, .ref hm])), (ys, .inl (cI, aI 14 gst))])) (va_A [(y0, .inr (2, [.ref t0, .int (iI total), .ref ys, .ref yk, .ref yc, .ref yd, .ref yw, .ref yx, .ref yb, .ref yu])), (t0, .inr (1, [.int (iI steps), .int (iI choices), .int (iI bars), .ref hs, .ref hc, .ref hf, .ref hg, .ref hb, .ref he, .ref hm])), (ys, .inl (cI, aI 14 gst))] sz)) 0 0 (va_A [(y0, .inr (2, [.ref t0, .int (iI total), .ref ys, .ref yk, .ref yc, .ref yd, .ref yw, .ref yx, .ref yb, .ref yu])), (t0, .inr (1, [.int (iI steps), .int (iI choices), .int (iI bars), .ref hs, .ref hc, .ref hf, .ref hg, .ref hb, .ref he, .ref hm])), (ys, .inl (cI, aI 14 gst))] sz) := by
  refine met_z (by decide) rfl (Nat.le_of_ble_eq_true rfl) ?_
  intro p e s m below meth c A Q C hmn hret
  refine g_aload_n C 0 std_Y_hasNode_0 rfl ?_
  refine g_iload_n C 1 std_Y_hasNode_1 rfl ?_
  refine g_V_i (wc := [(y0, .inr (2, [.ref t0, .int (iI total), .ref ys, .ref yk, .ref yc, .ref yd, .ref yw, .ref yx, .ref yb, .ref yu])), (t0, .inr (1, [.int (iI steps), .int (iI choices), .int (iI bars), .ref hs, .ref hc, .ref hf, .ref hg, .ref hb, .ref he, .ref hm]))]) (wr := [(ys, .inl (cI, aI 14 gst))]) (rest := []) C (c_hasLayer l dC dI cI cJ cZ y0 ys yk yc yd yw yx yb yu total t0 hs hc hf hg hb he hm steps choices bars a (by omega) (by omega)) (st_cV C kw_2_181 kw_2_191 kw_1_3 kw_2_179 kw_2_180 sth_Y_hasLayer ⟨Nat.le_of_ble_eq_true rfl, Nat.le_of_ble_eq_true rfl⟩) 0 rfl rfl rfl rfl (Nat.le_of_ble_eq_true rfl) std_Y_hasNode_2 ⟨Nat.le_of_ble_eq_true rfl, Nat.le_of_ble_eq_true rfl⟩ [0, 1] [2] rfl rfl rfl rfl (by decide) (fun r1 u2 h3 => ?_)
  subst h3
  refine g_ws (ws' := [(ys, .inl (cI, aI 14 gst)), (y0, .inr (2, [.ref t0, .int (iI total), .ref ys, .ref yk, .ref yc, .ref yd, .ref yw, .ref yx, .ref yb, .ref yu])), (t0, .inr (1, [.int (iI steps), .int (iI choices), .int (iI bars), .ref hs, .ref hc, .ref hf, .ref hg, .ref hb, .ref he, .ref hm]))]) rfl ?_
  refine g_ifeq_b (tgt := 25) C std_Y_hasNode_5 (by decide) (fun c4 => ?_) (fun c4 => ?_)
  · refine g_iconst C std_Y_hasNode_25 ?_
    refine g_sub (ws' := [(y0, .inr (2, [.ref t0, .int (iI total), .ref ys, .ref yk, .ref yc, .ref yd, .ref yw, .ref yx, .ref yb, .ref yu])), (t0, .inr (1, [.int (iI steps), .int (iI choices), .int (iI bars), .ref hs, .ref hc, .ref hf, .ref hg, .ref hb, .ref he, .ref hm])), (ys, .inl (cI, aI 14 gst))]) [1, 2, 0] rfl rfl ?_
    refine g_wide (k := 0) (n := 0) (Nat.le_of_ble_eq_true rfl) (Nat.le_of_ble_eq_true rfl) ?_
    exact hret _ _ _ () (by rw [bI_f (by omega)]) (by decide) std_Y_hasNode_26
  · refine g_iload_n C 2 std_Y_hasNode_8 rfl ?_
    refine g_if_lt (tgt := 25) C std_Y_hasNode_9 (by decide) ⟨by omega, by omega⟩ (fun c5 => ?_) (fun c5 => ?_)
    · refine g_iconst C std_Y_hasNode_25 ?_
      refine g_sub (ws' := [(y0, .inr (2, [.ref t0, .int (iI total), .ref ys, .ref yk, .ref yc, .ref yd, .ref yw, .ref yx, .ref yb, .ref yu])), (t0, .inr (1, [.int (iI steps), .int (iI choices), .int (iI bars), .ref hs, .ref hc, .ref hf, .ref hg, .ref hb, .ref he, .ref hm])), (ys, .inl (cI, aI 14 gst))]) [1, 2, 0] rfl rfl ?_
      refine g_wide (k := 0) (n := 0) (Nat.le_of_ble_eq_true rfl) (Nat.le_of_ble_eq_true rfl) ?_
      exact hret _ _ _ () (by rw [bI_f (by omega)]) (by decide) std_Y_hasNode_26
    · refine g_iload_n C 2 std_Y_hasNode_12 rfl ?_
      refine g_aload_n C 0 std_Y_hasNode_13 rfl ?_
      refine g_iload_n C 1 std_Y_hasNode_14 rfl ?_
      refine g_V_i (wc := [(y0, .inr (2, [.ref t0, .int (iI total), .ref ys, .ref yk, .ref yc, .ref yd, .ref yw, .ref yx, .ref yb, .ref yu])), (ys, .inl (cI, aI 14 gst))]) (wr := [(t0, .inr (1, [.int (iI steps), .int (iI choices), .int (iI bars), .ref hs, .ref hc, .ref hf, .ref hg, .ref hb, .ref he, .ref hm]))]) (rest := [.int (iI b)]) C (c_sizeOf l dC dI cI cJ cZ y0 ys yk yc yd yw yx yb yu total t0 gst a (by omega)) (st_cV C kw_2_43 kw_2_40 kw_1_3 kw_2_41 kw_2_42 sth_Y_sizeOf ⟨Nat.le_of_ble_eq_true rfl, Nat.le_of_ble_eq_true rfl⟩) 0 rfl rfl rfl rfl (Nat.le_of_ble_eq_true rfl) std_Y_hasNode_15 ⟨Nat.le_of_ble_eq_true rfl, Nat.le_of_ble_eq_true rfl⟩ [1, 0] [2] rfl rfl rfl rfl (by decide) (fun r6 u7 h8 => ?_)
      subst h8
      refine g_ws (ws' := [(t0, .inr (1, [.int (iI steps), .int (iI choices), .int (iI bars), .ref hs, .ref hc, .ref hf, .ref hg, .ref hb, .ref he, .ref hm])), (y0, .inr (2, [.ref t0, .int (iI total), .ref ys, .ref yk, .ref yc, .ref yd, .ref yw, .ref yx, .ref yb, .ref yu])), (ys, .inl (cI, aI 14 gst))]) rfl ?_
      have hq0 := kgst a (by omega) (by omega)
      have hq1 := kgst (a + 1) (by omega) (by omega)
      refine g_icmp_ge (tgt := 25) C std_Y_hasNode_18 (by decide) ⟨by omega, by omega⟩ ⟨by omega, by omega⟩ (fun c9 => ?_) (fun c9 => ?_)
      · refine g_iconst C std_Y_hasNode_25 ?_
        refine g_sub (ws' := [(y0, .inr (2, [.ref t0, .int (iI total), .ref ys, .ref yk, .ref yc, .ref yd, .ref yw, .ref yx, .ref yb, .ref yu])), (t0, .inr (1, [.int (iI steps), .int (iI choices), .int (iI bars), .ref hs, .ref hc, .ref hf, .ref hg, .ref hb, .ref he, .ref hm])), (ys, .inl (cI, aI 14 gst))]) [1, 0, 2] rfl rfl ?_
        refine g_wide (k := 0) (n := 0) (Nat.le_of_ble_eq_true rfl) (Nat.le_of_ble_eq_true rfl) ?_
        exact hret _ _ _ () (by rw [bI_f (by omega)]) (by decide) std_Y_hasNode_26
      · refine g_iconst C std_Y_hasNode_21 ?_
        refine g_goto (tgt := 26) C std_Y_hasNode_22 (by decide) ?_
        refine g_sub (ws' := [(y0, .inr (2, [.ref t0, .int (iI total), .ref ys, .ref yk, .ref yc, .ref yd, .ref yw, .ref yx, .ref yb, .ref yu])), (t0, .inr (1, [.int (iI steps), .int (iI choices), .int (iI bars), .ref hs, .ref hc, .ref hf, .ref hg, .ref hb, .ref he, .ref hm])), (ys, .inl (cI, aI 14 gst))]) [1, 0, 2] rfl rfl ?_
        refine g_wide (k := 0) (n := 0) (Nat.le_of_ble_eq_true rfl) (Nat.le_of_ble_eq_true rfl) ?_
        exact hret _ _ _ () (by rw [bI_t (by omega)]) (by decide) std_Y_hasNode_26

abbrev sty_Y_nodeBehind : MethodName := ⟨"StateTables$Layers", "nodeBehind", "(II)I"⟩
abbrev stc_Y_nodeBehind : ByteArray := prog_3_method_5_code
theorem sth_Y_nodeBehind : (sty_Y_nodeBehind).cls ≠ "java/lang/invoke/MethodHandle" ∧ (sty_Y_nodeBehind).cls ≠ "java/lang/invoke/VarHandle" ∧ (parseMethodDescriptor (sty_Y_nodeBehind).desc).map (fun d => d.parameters.length) = some 2 := by decide +kernel
theorem std_Y_nodeBehind_0 : decode stc_Y_nodeBehind 0 = .ok (.aload_n 0, 1) := by decide +kernel
theorem std_Y_nodeBehind_1 : decode stc_Y_nodeBehind 1 = .ok (.getfield 31, 3) := by decide +kernel
theorem kw_1_99 : Cond.fieldLink "StateTables$Layers" 31 "StateTables$Layers" "behind" "[I" ∈ stGW := st_t1 (List.mem_of_getElem? (i := 99) (by decide +kernel)) (by decide +kernel)
theorem std_Y_nodeBehind_4 : decode stc_Y_nodeBehind 4 = .ok (.iload_n 1, 1) := by decide +kernel
theorem std_Y_nodeBehind_5 : decode stc_Y_nodeBehind 5 = .ok (.bipush 6, 2) := by decide +kernel
theorem std_Y_nodeBehind_7 : decode stc_Y_nodeBehind 7 = .ok (.imul, 1) := by decide +kernel
theorem std_Y_nodeBehind_8 : decode stc_Y_nodeBehind 8 = .ok (.iload_n 2, 1) := by decide +kernel
theorem std_Y_nodeBehind_9 : decode stc_Y_nodeBehind 9 = .ok (.iadd, 1) := by decide +kernel
theorem std_Y_nodeBehind_10 : decode stc_Y_nodeBehind 10 = .ok (.iaload, 1) := by decide +kernel
theorem std_Y_nodeBehind_11 : decode stc_Y_nodeBehind 11 = .ok (.ireturn, 1) := by decide +kernel
set_option maxHeartbeats 4000000 in
set_option maxRecDepth 100000 in
theorem c_nodeBehind (l : Launch) (dC : Nat → ClassId) (dI : Nat → Nat → Nat) (cI cJ cZ : ClassId) (y0 : Nat) (ys : Nat) (yk : Nat) (yc : Nat) (yd : Nat) (yw : Nat) (yx : Nat) (yb : Nat) (yu : Nat) (total : Int) (t0 : Nat) (cap : Nat) (gbe : Int → Int) (a : Int) (b : Int) (kcap : cap ≤ 4801) (ka : 0 ≤ (a * 6) + b ∧ (a * 6) + b < 6 * (cap : Int)) : ∀ sz, Met l sty_Y_nodeBehind (Cond.code sty_Y_nodeBehind stc_Y_nodeBehind 3 (some .int) :: stGW) ({ frames := 0, cells := 0, slots := 0, locals := 0 } : Room) (va_Pc [.ref y0, .int (iI a), .int (iI b)] (zPre (dC, dI) stCl [(cI, .int), (cJ, .long), (cZ, .boolean)] st_nw [(y0, .inr (2, [.ref t0, .int (iI total), .ref ys, .ref yk, .ref yc, .ref yd, .ref yw, .ref yx, .ref yb, .ref yu])), (yb, .inl (cI, aI (6 * cap) gbe))] sz)) (va_Qi (fun (r : Int32) (_ : Unit) => r = iI (gbe ((a * 6) + b))) (zPost (dC, dI) stCl [(cI, .int), (cJ, .long), (cZ, .boolean)] [(y0, .inr (2, [.ref t0, .int (iI total), .ref ys, .ref yk, .ref yc, .ref yd, .ref yw, .ref yx, .ref yb, .ref yu])), (yb, .inl (cI, aI (6 * cap) gbe))] sz (fun _ : Unit => [(y0, .inr (2, [.ref t0, .int (iI total), .ref ys, .ref yk, .ref yc, .ref yd, .ref yw, .ref yx, .ref yb, .ref yu])), (yb, .inl (cI, aI (6 * cap) gbe))])) (va_A [(y0, .inr (2, [.ref t0, .int (iI total), .ref ys, .ref yk, .ref yc, .ref yd, .ref yw, .ref yx, .ref yb, .ref yu])), (yb, .inl (cI, aI (6 * cap) gbe))] sz)) 0 0 (va_A [(y0, .inr (2, [.ref t0, .int (iI total), .ref ys, .ref yk, .ref yc, .ref yd, .ref yw, .ref yx, .ref yb, .ref yu])), (yb, .inl (cI, aI (6 * cap) gbe))] sz) := by
  refine met_i (by decide) rfl (Nat.le_of_ble_eq_true rfl) ?_
  intro p e s m below meth c A Q C hmn hret
  refine g_aload_n C 0 std_Y_nodeBehind_0 rfl ?_
  refine g_get C (st_sub sti_Y) 0 rfl rfl 8 (by decide) (List.mem_cons_of_mem _ kw_1_99) rfl rfl std_Y_nodeBehind_1 ?_
  refine g_iload_n C 1 std_Y_nodeBehind_4 rfl ?_
  refine g_bipush C std_Y_nodeBehind_5 (by decide) ?_
  refine g_imul C std_Y_nodeBehind_7 ?_
  refine g_iload_n C 2 std_Y_nodeBehind_8 rfl ?_
  refine g_iadd C std_Y_nodeBehind_9 ?_
  refine g_iald C 1 0 rfl rfl (by omega) (by omega) (by omega) std_Y_nodeBehind_10 ?_
  exact hret _ _ _ () (rfl) std_Y_nodeBehind_11

abbrev sty_Y_leastFrom : MethodName := ⟨"StateTables$Layers", "leastFrom", "(I)I"⟩
abbrev stc_Y_leastFrom : ByteArray := prog_3_method_6_code
theorem sth_Y_leastFrom : (sty_Y_leastFrom).cls ≠ "java/lang/invoke/MethodHandle" ∧ (sty_Y_leastFrom).cls ≠ "java/lang/invoke/VarHandle" ∧ (parseMethodDescriptor (sty_Y_leastFrom).desc).map (fun d => d.parameters.length) = some 1 := by decide +kernel
theorem std_Y_leastFrom_0 : decode stc_Y_leastFrom 0 = .ok (.aload_n 0, 1) := by decide +kernel
theorem std_Y_leastFrom_1 : decode stc_Y_leastFrom 1 = .ok (.getfield 28, 3) := by decide +kernel
theorem kw_1_96 : Cond.fieldLink "StateTables$Layers" 28 "StateTables$Layers" "waysFrom" "[J" ∈ stGW := st_t1 (List.mem_of_getElem? (i := 96) (by decide +kernel)) (by decide +kernel)
theorem std_Y_leastFrom_4 : decode stc_Y_leastFrom 4 = .ok (.iload_n 1, 1) := by decide +kernel
theorem std_Y_leastFrom_5 : decode stc_Y_leastFrom 5 = .ok (.laload, 1) := by decide +kernel
theorem std_Y_leastFrom_6 : decode stc_Y_leastFrom 6 = .ok (.lconst 0, 1) := by decide +kernel
theorem std_Y_leastFrom_7 : decode stc_Y_leastFrom 7 = .ok (.lcmp, 1) := by decide +kernel
theorem std_Y_leastFrom_8 : decode stc_Y_leastFrom 8 = .ok (.ifCond .le 12, 3) := by decide +kernel
theorem std_Y_leastFrom_20 : decode stc_Y_leastFrom 20 = .ok (.ldc 55, 2) := by decide +kernel
theorem kw_2_151 : Cond.constant "StateTables$Layers" 55 (-1000000) ∈ stGW := st_t2 (List.mem_of_getElem? (i := 151) (by decide +kernel)) (by decide +kernel)
theorem std_Y_leastFrom_22 : decode stc_Y_leastFrom 22 = .ok (.ireturn, 1) := by decide +kernel
theorem std_Y_leastFrom_11 : decode stc_Y_leastFrom 11 = .ok (.aload_n 0, 1) := by decide +kernel
theorem std_Y_leastFrom_12 : decode stc_Y_leastFrom 12 = .ok (.getfield 21, 3) := by decide +kernel
theorem kw_1_92 : Cond.fieldLink "StateTables$Layers" 21 "StateTables$Layers" "costFrom" "[I" ∈ stGW := st_t1 (List.mem_of_getElem? (i := 92) (by decide +kernel)) (by decide +kernel)
theorem std_Y_leastFrom_15 : decode stc_Y_leastFrom 15 = .ok (.iload_n 1, 1) := by decide +kernel
theorem std_Y_leastFrom_16 : decode stc_Y_leastFrom 16 = .ok (.iaload, 1) := by decide +kernel
theorem std_Y_leastFrom_17 : decode stc_Y_leastFrom 17 = .ok (.goto 5, 3) := by decide +kernel
set_option maxHeartbeats 4000000 in
set_option maxRecDepth 100000 in
theorem c_leastFrom (l : Launch) (dC : Nat → ClassId) (dI : Nat → Nat → Nat) (cI cJ cZ : ClassId) (y0 : Nat) (ys : Nat) (yk : Nat) (yc : Nat) (yd : Nat) (yw : Nat) (yx : Nat) (yb : Nat) (yu : Nat) (total : Int) (t0 : Nat) (cap : Nat) (gcf : Int → Int) (gwf : Int → Int) (a : Int) (kcap : cap ≤ 4801) (ka : 0 ≤ a ∧ a < (cap : Int)) (kw : rL (gwf a)) : ∀ sz, Met l sty_Y_leastFrom (Cond.code sty_Y_leastFrom stc_Y_leastFrom 2 (some .int) :: stGW) ({ frames := 0, cells := 0, slots := 0, locals := 0 } : Room) (va_Pc [.ref y0, .int (iI a)] (zPre (dC, dI) stCl [(cI, .int), (cJ, .long), (cZ, .boolean)] st_nw [(y0, .inr (2, [.ref t0, .int (iI total), .ref ys, .ref yk, .ref yc, .ref yd, .ref yw, .ref yx, .ref yb, .ref yu])), (yd, .inl (cI, aI cap gcf)), (yx, .inl (cJ, aL cap gwf))] sz)) (va_Qi (fun (r : Int32) (_ : Unit) => r = iI (if 0 < gwf a then gcf a else (-1000000))) (zPost (dC, dI) stCl [(cI, .int), (cJ, .long), (cZ, .boolean)] [(y0, .inr (2, [.ref t0, .int (iI total), .ref ys, .ref yk, .ref yc, .ref yd, .ref yw, .ref yx, .ref yb, .ref yu])), (yd, .inl (cI, aI cap gcf)), (yx, .inl (cJ, aL cap gwf))] sz (fun _ : Unit => [(y0, .inr (2, [.ref t0, .int (iI total), .ref ys, .ref yk, .ref yc, .ref yd, .ref yw, .ref yx, .ref yb, .ref yu])), (yd, .inl (cI, aI cap gcf)), (yx, .inl (cJ, aL cap gwf))])) (va_A [(y0, .inr (2, [.ref t0, .int (iI total), .ref ys, .ref yk, .ref yc, .ref yd, .ref yw, .ref yx, .ref yb, .ref yu])), (yd, .inl (cI, aI cap gcf)), (yx, .inl (cJ, aL cap gwf))] sz)) 0 0 (va_A [(y0, .inr (2, [.ref t0, .int (iI total), .ref ys, .ref yk, .ref yc, .ref yd, .ref yw, .ref yx, .ref yb, .ref yu])), (yd, .inl (cI, aI cap gcf)), (yx, .inl (cJ, aL cap gwf))] sz) := by
  refine met_i (by decide) rfl (Nat.le_of_ble_eq_true rfl) ?_
  intro p e s m below meth c A Q C hmn hret
  refine g_aload_n C 0 std_Y_leastFrom_0 rfl ?_
  refine g_get C (st_sub sti_Y) 0 rfl rfl 7 (by decide) (List.mem_cons_of_mem _ kw_1_96) rfl rfl std_Y_leastFrom_1 ?_
  refine g_iload_n C 1 std_Y_leastFrom_4 rfl ?_
  refine g_lald C 2 1 rfl rfl (by omega) (by omega) (by omega) std_Y_leastFrom_5 ?_
  refine g_lconst C (z := 0) std_Y_leastFrom_6 (by decide) ?_
  refine g_lcmp_le (tgt := 20) C std_Y_leastFrom_7 std_Y_leastFrom_8 (by decide) ⟨by omega, by omega⟩ ⟨by omega, by omega⟩ (fun c1 => ?_) (fun c1 => ?_)
  · refine g_ldc C (z := (-1000000)) (List.mem_cons_of_mem _ kw_2_151) (by decide) std_Y_leastFrom_20 ?_
    exact hret _ _ _ () (by rw [if_neg (by omega)]) std_Y_leastFrom_22
  · refine g_aload_n C 0 std_Y_leastFrom_11 rfl ?_
    refine g_get C (st_sub sti_Y) 0 rfl rfl 5 (by decide) (List.mem_cons_of_mem _ kw_1_92) rfl rfl std_Y_leastFrom_12 ?_
    refine g_iload_n C 1 std_Y_leastFrom_15 rfl ?_
    refine g_iald C 1 0 rfl rfl (by omega) (by omega) (by omega) std_Y_leastFrom_16 ?_
    refine g_goto (tgt := 22) C std_Y_leastFrom_17 (by decide) ?_
    exact hret _ _ _ () (by rw [if_pos (by omega)]) std_Y_leastFrom_22

abbrev sty_Y_isAsGoodOf : MethodName := ⟨"StateTables$Layers", "isAsGoodOf", "(III)Z"⟩
abbrev stc_Y_isAsGoodOf : ByteArray := prog_3_method_18_code
theorem sth_Y_isAsGoodOf : (sty_Y_isAsGoodOf).cls ≠ "java/lang/invoke/MethodHandle" ∧ (sty_Y_isAsGoodOf).cls ≠ "java/lang/invoke/VarHandle" ∧ (parseMethodDescriptor (sty_Y_isAsGoodOf).desc).map (fun d => d.parameters.length) = some 3 := by decide +kernel
theorem std_Y_isAsGoodOf_0 : decode stc_Y_isAsGoodOf 0 = .ok (.aload_n 0, 1) := by decide +kernel
theorem std_Y_isAsGoodOf_1 : decode stc_Y_isAsGoodOf 1 = .ok (.getfield 37, 3) := by decide +kernel
theorem std_Y_isAsGoodOf_4 : decode stc_Y_isAsGoodOf 4 = .ok (.getfield 148, 3) := by decide +kernel
theorem kw_1_52 : Cond.fieldLink "StateTables$Layers" 148 "StateTables$Told" "least" "[I" ∈ stGW := st_t1 (List.mem_of_getElem? (i := 52) (by decide +kernel)) (by decide +kernel)
theorem std_Y_isAsGoodOf_7 : decode stc_Y_isAsGoodOf 7 = .ok (.iload_n 1, 1) := by decide +kernel
theorem std_Y_isAsGoodOf_8 : decode stc_Y_isAsGoodOf 8 = .ok (.iaload, 1) := by decide +kernel
theorem std_Y_isAsGoodOf_9 : decode stc_Y_isAsGoodOf 9 = .ok (.ifCond .le 16, 3) := by decide +kernel
theorem std_Y_isAsGoodOf_25 : decode stc_Y_isAsGoodOf 25 = .ok (.iload_n 2, 1) := by decide +kernel
theorem std_Y_isAsGoodOf_26 : decode stc_Y_isAsGoodOf 26 = .ok (.iload_n 3, 1) := by decide +kernel
theorem std_Y_isAsGoodOf_27 : decode stc_Y_isAsGoodOf 27 = .ok (.if_icmp .gt 7, 3) := by decide +kernel
theorem std_Y_isAsGoodOf_34 : decode stc_Y_isAsGoodOf 34 = .ok (.iconst 0, 1) := by decide +kernel
theorem std_Y_isAsGoodOf_35 : decode stc_Y_isAsGoodOf 35 = .ok (.ireturn, 1) := by decide +kernel
theorem std_Y_isAsGoodOf_30 : decode stc_Y_isAsGoodOf 30 = .ok (.iconst 1, 1) := by decide +kernel
theorem std_Y_isAsGoodOf_31 : decode stc_Y_isAsGoodOf 31 = .ok (.goto 4, 3) := by decide +kernel
theorem std_Y_isAsGoodOf_12 : decode stc_Y_isAsGoodOf 12 = .ok (.iload_n 2, 1) := by decide +kernel
theorem std_Y_isAsGoodOf_13 : decode stc_Y_isAsGoodOf 13 = .ok (.iload_n 3, 1) := by decide +kernel
theorem std_Y_isAsGoodOf_14 : decode stc_Y_isAsGoodOf 14 = .ok (.if_icmp .ne 7, 3) := by decide +kernel
theorem std_Y_isAsGoodOf_21 : decode stc_Y_isAsGoodOf 21 = .ok (.iconst 0, 1) := by decide +kernel
theorem std_Y_isAsGoodOf_22 : decode stc_Y_isAsGoodOf 22 = .ok (.goto 13, 3) := by decide +kernel
theorem std_Y_isAsGoodOf_17 : decode stc_Y_isAsGoodOf 17 = .ok (.iconst 1, 1) := by decide +kernel
theorem std_Y_isAsGoodOf_18 : decode stc_Y_isAsGoodOf 18 = .ok (.goto 17, 3) := by decide +kernel
set_option maxHeartbeats 4000000 in
set_option maxRecDepth 100000 in
theorem c_isAsGoodOf (l : Launch) (dC : Nat → ClassId) (dI : Nat → Nat → Nat) (cI cJ cZ : ClassId) (y0 : Nat) (ys : Nat) (yk : Nat) (yc : Nat) (yd : Nat) (yw : Nat) (yx : Nat) (yb : Nat) (yu : Nat) (total : Int) (t0 : Nat) (hs : Nat) (hc : Nat) (hf : Nat) (hg : Nat) (hb : Nat) (he : Nat) (hm : Nat) (steps : Int) (choices : Int) (bars : Int) (fle : Int → Int) (k : Int) (a : Int) (b : Int) (kle : ∀ j, 0 ≤ j → j < 2 → 0 ≤ fle j ∧ fle j ≤ 40) (kk : 0 ≤ k ∧ k < 2) (ka : rI a) (kb : rI b) : ∀ sz, Met l sty_Y_isAsGoodOf (Cond.code sty_Y_isAsGoodOf stc_Y_isAsGoodOf 4 (some .boolean) :: stGW) ({ frames := 0, cells := 0, slots := 0, locals := 0 } : Room) (va_Pc [.ref y0, .int (iI k), .int (iI a), .int (iI b)] (zPre (dC, dI) stCl [(cI, .int), (cJ, .long), (cZ, .boolean)] st_nw [(y0, .inr (2, [.ref t0, .int (iI total), .ref ys, .ref yk, .ref yc, .ref yd, .ref yw, .ref yx, .ref yb, .ref yu])), (t0, .inr (1, [.int (iI steps), .int (iI choices), .int (iI bars), .ref hs, .ref hc, .ref hf, .ref hg, .ref hb, .ref he, .ref hm])), (he, .inl (cI, aI 2 fle))] sz)) (va_Qi (fun (r : Int32) (_ : Unit) => r = iI (bI ((0 < fle k ∧ a = b) ∨ (fle k ≤ 0 ∧ a ≤ b)))) (zPost (dC, dI) stCl [(cI, .int), (cJ, .long), (cZ, .boolean)] [(y0, .inr (2, [.ref t0, .int (iI total), .ref ys, .ref yk, .ref yc, .ref yd, .ref yw, .ref yx, .ref yb, .ref yu])), (t0, .inr (1, [.int (iI steps), .int (iI choices), .int (iI bars), .ref hs, .ref hc, .ref hf, .ref hg, .ref hb, .ref he, .ref hm])), (he, .inl (cI, aI 2 fle))] sz (fun _ : Unit => [(y0, .inr (2, [.ref t0, .int (iI total), .ref ys, .ref yk, .ref yc, .ref yd, .ref yw, .ref yx, .ref yb, .ref yu])), (t0, .inr (1, [.int (iI steps), .int (iI choices), .int (iI bars), .ref hs, .ref hc, .ref hf, .ref hg, .ref hb, .ref he, .ref hm])), (he, .inl (cI, aI 2 fle))])) (va_A [(y0, .inr (2, [.ref t0, .int (iI total), .ref ys, .ref yk, .ref yc, .ref yd, .ref yw, .ref yx, .ref yb, .ref yu])), (t0, .inr (1, [.int (iI steps), .int (iI choices), .int (iI bars), .ref hs, .ref hc, .ref hf, .ref hg, .ref hb, .ref he, .ref hm])), (he, .inl (cI, aI 2 fle))] sz)) 0 0 (va_A [(y0, .inr (2, [.ref t0, .int (iI total), .ref ys, .ref yk, .ref yc, .ref yd, .ref yw, .ref yx, .ref yb, .ref yu])), (t0, .inr (1, [.int (iI steps), .int (iI choices), .int (iI bars), .ref hs, .ref hc, .ref hf, .ref hg, .ref hb, .ref he, .ref hm])), (he, .inl (cI, aI 2 fle))] sz) := by
  refine met_z (by decide) rfl (Nat.le_of_ble_eq_true rfl) ?_
  intro p e s m below meth c A Q C hmn hret
  have hq := kle k (by omega) (by omega)
  refine g_aload_n C 0 std_Y_isAsGoodOf_0 rfl ?_
  refine g_get C (st_sub sti_Y) 0 rfl rfl 0 (by decide) (List.mem_cons_of_mem _ kw_1_83) rfl rfl std_Y_isAsGoodOf_1 ?_
  refine g_get C (st_sub sti_T) 1 rfl rfl 8 (by decide) (List.mem_cons_of_mem _ kw_1_52) rfl rfl std_Y_isAsGoodOf_4 ?_
  refine g_iload_n C 1 std_Y_isAsGoodOf_7 rfl ?_
  refine g_iald C 2 0 rfl rfl (by omega) (by omega) (by omega) std_Y_isAsGoodOf_8 ?_
  refine g_if_le (tgt := 25) C std_Y_isAsGoodOf_9 (by decide) ⟨by omega, by omega⟩ (fun c1 => ?_) (fun c1 => ?_)
  · refine g_iload_n C 2 std_Y_isAsGoodOf_25 rfl ?_
    refine g_iload_n C 3 std_Y_isAsGoodOf_26 rfl ?_
    refine g_icmp_gt (tgt := 34) C std_Y_isAsGoodOf_27 (by decide) ⟨by omega, by omega⟩ ⟨by omega, by omega⟩ (fun c2 => ?_) (fun c2 => ?_)
    · refine g_iconst C std_Y_isAsGoodOf_34 ?_
      exact hret _ _ _ () (by rw [bI_f (by omega)]) (by decide) std_Y_isAsGoodOf_35
    · refine g_iconst C std_Y_isAsGoodOf_30 ?_
      refine g_goto (tgt := 35) C std_Y_isAsGoodOf_31 (by decide) ?_
      exact hret _ _ _ () (by rw [bI_t (by omega)]) (by decide) std_Y_isAsGoodOf_35
  · refine g_iload_n C 2 std_Y_isAsGoodOf_12 rfl ?_
    refine g_iload_n C 3 std_Y_isAsGoodOf_13 rfl ?_
    refine g_icmp_ne (tgt := 21) C std_Y_isAsGoodOf_14 (by decide) ⟨by omega, by omega⟩ ⟨by omega, by omega⟩ (fun c3 => ?_) (fun c3 => ?_)
    · refine g_iconst C std_Y_isAsGoodOf_21 ?_
      refine g_goto (tgt := 35) C std_Y_isAsGoodOf_22 (by decide) ?_
      exact hret _ _ _ () (by rw [bI_f (by omega)]) (by decide) std_Y_isAsGoodOf_35
    · refine g_iconst C std_Y_isAsGoodOf_17 ?_
      refine g_goto (tgt := 35) C std_Y_isAsGoodOf_18 (by decide) ?_
      exact hret _ _ _ () (by rw [bI_t (by omega)]) (by decide) std_Y_isAsGoodOf_35

abbrev sty_Y_isAsGood : MethodName := ⟨"StateTables$Layers", "isAsGood", "(II)Z"⟩
abbrev stc_Y_isAsGood : ByteArray := prog_3_method_17_code
theorem sth_Y_isAsGood : (sty_Y_isAsGood).cls ≠ "java/lang/invoke/MethodHandle" ∧ (sty_Y_isAsGood).cls ≠ "java/lang/invoke/VarHandle" ∧ (parseMethodDescriptor (sty_Y_isAsGood).desc).map (fun d => d.parameters.length) = some 2 := by decide +kernel
theorem std_Y_isAsGood_0 : decode stc_Y_isAsGood 0 = .ok (.aload_n 0, 1) := by decide +kernel
theorem std_Y_isAsGood_1 : decode stc_Y_isAsGood 1 = .ok (.getfield 15, 3) := by decide +kernel
theorem kw_1_88 : Cond.fieldLink "StateTables$Layers" 15 "StateTables$Layers" "keys" "[I" ∈ stGW := st_t1 (List.mem_of_getElem? (i := 88) (by decide +kernel)) (by decide +kernel)
theorem std_Y_isAsGood_4 : decode stc_Y_isAsGood 4 = .ok (.iload_n 1, 1) := by decide +kernel
theorem std_Y_isAsGood_5 : decode stc_Y_isAsGood 5 = .ok (.iaload, 1) := by decide +kernel
theorem std_Y_isAsGood_6 : decode stc_Y_isAsGood 6 = .ok (.invokestatic 107, 3) := by decide +kernel
theorem kw_2_83 : Cond.code sty_S_lastChoice stc_S_lastChoice 1 (some .int) ∈ stGW := st_t2 (List.mem_of_getElem? (i := 83) (by decide +kernel)) (by decide +kernel)
theorem kw_2_82 : Cond.static (sty_S_lastChoice) ∈ stGW := st_t2 (List.mem_of_getElem? (i := 82) (by decide +kernel)) (by decide +kernel)
theorem std_Y_isAsGood_9 : decode stc_Y_isAsGood 9 = .ok (.aload_n 0, 1) := by decide +kernel
theorem std_Y_isAsGood_10 : decode stc_Y_isAsGood 10 = .ok (.getfield 15, 3) := by decide +kernel
theorem std_Y_isAsGood_13 : decode stc_Y_isAsGood 13 = .ok (.iload_n 2, 1) := by decide +kernel
theorem std_Y_isAsGood_14 : decode stc_Y_isAsGood 14 = .ok (.iaload, 1) := by decide +kernel
theorem std_Y_isAsGood_15 : decode stc_Y_isAsGood 15 = .ok (.invokestatic 107, 3) := by decide +kernel
theorem std_Y_isAsGood_18 : decode stc_Y_isAsGood 18 = .ok (.if_icmp .ne 74, 3) := by decide +kernel
theorem std_Y_isAsGood_92 : decode stc_Y_isAsGood 92 = .ok (.iconst 0, 1) := by decide +kernel
theorem std_Y_isAsGood_93 : decode stc_Y_isAsGood 93 = .ok (.ireturn, 1) := by decide +kernel
theorem std_Y_isAsGood_21 : decode stc_Y_isAsGood 21 = .ok (.aload_n 0, 1) := by decide +kernel
theorem std_Y_isAsGood_22 : decode stc_Y_isAsGood 22 = .ok (.getfield 18, 3) := by decide +kernel
theorem kw_1_90 : Cond.fieldLink "StateTables$Layers" 18 "StateTables$Layers" "costTo" "[I" ∈ stGW := st_t1 (List.mem_of_getElem? (i := 90) (by decide +kernel)) (by decide +kernel)
theorem std_Y_isAsGood_25 : decode stc_Y_isAsGood 25 = .ok (.iload_n 1, 1) := by decide +kernel
theorem std_Y_isAsGood_26 : decode stc_Y_isAsGood 26 = .ok (.iaload, 1) := by decide +kernel
theorem std_Y_isAsGood_27 : decode stc_Y_isAsGood 27 = .ok (.aload_n 0, 1) := by decide +kernel
theorem std_Y_isAsGood_28 : decode stc_Y_isAsGood 28 = .ok (.getfield 18, 3) := by decide +kernel
theorem std_Y_isAsGood_31 : decode stc_Y_isAsGood 31 = .ok (.iload_n 2, 1) := by decide +kernel
theorem std_Y_isAsGood_32 : decode stc_Y_isAsGood 32 = .ok (.iaload, 1) := by decide +kernel
theorem std_Y_isAsGood_33 : decode stc_Y_isAsGood 33 = .ok (.if_icmp .gt 59, 3) := by decide +kernel
theorem std_Y_isAsGood_36 : decode stc_Y_isAsGood 36 = .ok (.aload_n 0, 1) := by decide +kernel
theorem std_Y_isAsGood_37 : decode stc_Y_isAsGood 37 = .ok (.iconst 0, 1) := by decide +kernel
theorem std_Y_isAsGood_38 : decode stc_Y_isAsGood 38 = .ok (.aload_n 0, 1) := by decide +kernel
theorem std_Y_isAsGood_39 : decode stc_Y_isAsGood 39 = .ok (.getfield 15, 3) := by decide +kernel
theorem std_Y_isAsGood_42 : decode stc_Y_isAsGood 42 = .ok (.iload_n 1, 1) := by decide +kernel
theorem std_Y_isAsGood_43 : decode stc_Y_isAsGood 43 = .ok (.iaload, 1) := by decide +kernel
theorem std_Y_isAsGood_44 : decode stc_Y_isAsGood 44 = .ok (.invokestatic 110, 3) := by decide +kernel
theorem kw_2_86 : Cond.code sty_S_usedOfFirst stc_S_usedOfFirst 1 (some .int) ∈ stGW := st_t2 (List.mem_of_getElem? (i := 86) (by decide +kernel)) (by decide +kernel)
theorem kw_2_85 : Cond.static (sty_S_usedOfFirst) ∈ stGW := st_t2 (List.mem_of_getElem? (i := 85) (by decide +kernel)) (by decide +kernel)
theorem std_Y_isAsGood_47 : decode stc_Y_isAsGood 47 = .ok (.aload_n 0, 1) := by decide +kernel
theorem std_Y_isAsGood_48 : decode stc_Y_isAsGood 48 = .ok (.getfield 15, 3) := by decide +kernel
theorem std_Y_isAsGood_51 : decode stc_Y_isAsGood 51 = .ok (.iload_n 2, 1) := by decide +kernel
theorem std_Y_isAsGood_52 : decode stc_Y_isAsGood 52 = .ok (.iaload, 1) := by decide +kernel
theorem std_Y_isAsGood_53 : decode stc_Y_isAsGood 53 = .ok (.invokestatic 110, 3) := by decide +kernel
theorem std_Y_isAsGood_56 : decode stc_Y_isAsGood 56 = .ok (.invokevirtual 144, 3) := by decide +kernel
theorem kw_2_215 : Cond.code sty_Y_isAsGoodOf stc_Y_isAsGoodOf 4 (some .boolean) ∈ stGW := st_t2 (List.mem_of_getElem? (i := 215) (by decide +kernel)) (by decide +kernel)
theorem kw_2_212 : Cond.methodLink "StateTables$Layers" 144 (sty_Y_isAsGoodOf) ∈ stGW := st_t2 (List.mem_of_getElem? (i := 212) (by decide +kernel)) (by decide +kernel)
theorem kw_2_214 : Cond.instanceMethod (sty_Y_isAsGoodOf) ∈ stGW := st_t2 (List.mem_of_getElem? (i := 214) (by decide +kernel)) (by decide +kernel)
theorem kw_0_11 : Cond.selects "StateTables$Layers" (sty_Y_isAsGoodOf) (sty_Y_isAsGoodOf) ∈ stGW := st_t0 (List.mem_of_getElem? (i := 11) (by decide +kernel)) (by decide +kernel)
theorem std_Y_isAsGood_59 : decode stc_Y_isAsGood 59 = .ok (.ifCond .eq 33, 3) := by decide +kernel
theorem std_Y_isAsGood_62 : decode stc_Y_isAsGood 62 = .ok (.aload_n 0, 1) := by decide +kernel
theorem std_Y_isAsGood_63 : decode stc_Y_isAsGood 63 = .ok (.iconst 1, 1) := by decide +kernel
theorem std_Y_isAsGood_64 : decode stc_Y_isAsGood 64 = .ok (.aload_n 0, 1) := by decide +kernel
theorem std_Y_isAsGood_65 : decode stc_Y_isAsGood 65 = .ok (.getfield 15, 3) := by decide +kernel
theorem std_Y_isAsGood_68 : decode stc_Y_isAsGood 68 = .ok (.iload_n 1, 1) := by decide +kernel
theorem std_Y_isAsGood_69 : decode stc_Y_isAsGood 69 = .ok (.iaload, 1) := by decide +kernel
theorem std_Y_isAsGood_70 : decode stc_Y_isAsGood 70 = .ok (.invokestatic 116, 3) := by decide +kernel
theorem kw_2_89 : Cond.code sty_S_usedOfSecond stc_S_usedOfSecond 1 (some .int) ∈ stGW := st_t2 (List.mem_of_getElem? (i := 89) (by decide +kernel)) (by decide +kernel)
theorem kw_2_88 : Cond.static (sty_S_usedOfSecond) ∈ stGW := st_t2 (List.mem_of_getElem? (i := 88) (by decide +kernel)) (by decide +kernel)
theorem std_Y_isAsGood_73 : decode stc_Y_isAsGood 73 = .ok (.aload_n 0, 1) := by decide +kernel
theorem std_Y_isAsGood_74 : decode stc_Y_isAsGood 74 = .ok (.getfield 15, 3) := by decide +kernel
theorem std_Y_isAsGood_77 : decode stc_Y_isAsGood 77 = .ok (.iload_n 2, 1) := by decide +kernel
theorem std_Y_isAsGood_78 : decode stc_Y_isAsGood 78 = .ok (.iaload, 1) := by decide +kernel
theorem std_Y_isAsGood_79 : decode stc_Y_isAsGood 79 = .ok (.invokestatic 116, 3) := by decide +kernel
theorem std_Y_isAsGood_82 : decode stc_Y_isAsGood 82 = .ok (.invokevirtual 144, 3) := by decide +kernel
theorem std_Y_isAsGood_85 : decode stc_Y_isAsGood 85 = .ok (.ifCond .eq 7, 3) := by decide +kernel
theorem std_Y_isAsGood_88 : decode stc_Y_isAsGood 88 = .ok (.iconst 1, 1) := by decide +kernel
theorem std_Y_isAsGood_89 : decode stc_Y_isAsGood 89 = .ok (.goto 4, 3) := by decide +kernel
set_option maxHeartbeats 4000000 in
set_option maxRecDepth 100000 in
theorem c_isAsGood (l : Launch) (dC : Nat → ClassId) (dI : Nat → Nat → Nat) (cI cJ cZ : ClassId) (y0 : Nat) (ys : Nat) (yk : Nat) (yc : Nat) (yd : Nat) (yw : Nat) (yx : Nat) (yb : Nat) (yu : Nat) (total : Int) (t0 : Nat) (hs : Nat) (hc : Nat) (hf : Nat) (hg : Nat) (hb : Nat) (he : Nat) (hm : Nat) (steps : Int) (choices : Int) (bars : Int) (cap : Nat) (fle : Int → Int) (gk : Int → Int) (gct : Int → Int) (a : Int) (b : Int) (kle : ∀ j, 0 ≤ j → j < 2 → 0 ≤ fle j ∧ fle j ≤ 40) (kcap : cap ≤ 4801) (kab : (0 ≤ a ∧ a < (cap : Int)) ∧ 0 ≤ b ∧ b < (cap : Int)) (kk : rI (gk a) ∧ rI (gk b)) (kc : rI (gct a) ∧ rI (gct b)) : ∀ sz, Met l sty_Y_isAsGood (Cond.code sty_Y_isAsGood stc_Y_isAsGood 3 (some .boolean) :: stGW) ({ frames := 1, cells := 0, slots := 0, locals := 23 } : Room) (va_Pc [.ref y0, .int (iI a), .int (iI b)] (zPre (dC, dI) stCl [(cI, .int), (cJ, .long), (cZ, .boolean)] st_nw [(y0, .inr (2, [.ref t0, .int (iI total), .ref ys, .ref yk, .ref yc, .ref yd, .ref yw, .ref yx, .ref yb, .ref yu])), (t0, .inr (1, [.int (iI steps), .int (iI choices), .int (iI bars), .ref hs, .ref hc, .ref hf, .ref hg, .ref hb, .ref he, .ref hm])), (he, .inl (cI, aI 2 fle)), (yk, .inl (cI, aI cap gk)), (yc, .inl (cI, aI cap gct))] sz)) (va_Qi (fun (r : Int32) (_ : Unit) => r = iI (bI ((gk a) % 8 = (gk b) % 8 ∧ gct a ≤ gct b ∧ ((0 < fle 0 ∧ (gk a) / 512 = (gk b) / 512) ∨ (fle 0 ≤ 0 ∧ (gk a) / 512 ≤ (gk b) / 512)) ∧ ((0 < fle 1 ∧ ((gk a) / 8) % 64 = ((gk b) / 8) % 64) ∨ (fle 1 ≤ 0 ∧ ((gk a) / 8) % 64 ≤ ((gk b) / 8) % 64))))) (zPost (dC, dI) stCl [(cI, .int), (cJ, .long), (cZ, .boolean)] [(y0, .inr (2, [.ref t0, .int (iI total), .ref ys, .ref yk, .ref yc, .ref yd, .ref yw, .ref yx, .ref yb, .ref yu])), (t0, .inr (1, [.int (iI steps), .int (iI choices), .int (iI bars), .ref hs, .ref hc, .ref hf, .ref hg, .ref hb, .ref he, .ref hm])), (he, .inl (cI, aI 2 fle)), (yk, .inl (cI, aI cap gk)), (yc, .inl (cI, aI cap gct))] sz (fun _ : Unit => [(y0, .inr (2, [.ref t0, .int (iI total), .ref ys, .ref yk, .ref yc, .ref yd, .ref yw, .ref yx, .ref yb, .ref yu])), (t0, .inr (1, [.int (iI steps), .int (iI choices), .int (iI bars), .ref hs, .ref hc, .ref hf, .ref hg, .ref hb, .ref he, .ref hm])), (he, .inl (cI, aI 2 fle)), (yk, .inl (cI, aI cap gk)), (yc, .inl (cI, aI cap gct))])) (va_A [(y0, .inr (2, [.ref t0, .int (iI total), .ref ys, .ref yk, .ref yc, .ref yd, .ref yw, .ref yx, .ref yb, .ref yu])), (t0, .inr (1, [.int (iI steps), .int (iI choices), .int (iI bars), .ref hs, .ref hc, .ref hf, .ref hg, .ref hb, .ref he, .ref hm])), (he, .inl (cI, aI 2 fle)), (yk, .inl (cI, aI cap gk)), (yc, .inl (cI, aI cap gct))] sz)) 0 0 (va_A [(y0, .inr (2, [.ref t0, .int (iI total), .ref ys, .ref yk, .ref yc, .ref yd, .ref yw, .ref yx, .ref yb, .ref yu])), (t0, .inr (1, [.int (iI steps), .int (iI choices), .int (iI bars), .ref hs, .ref hc, .ref hf, .ref hg, .ref hb, .ref he, .ref hm])), (he, .inl (cI, aI 2 fle)), (yk, .inl (cI, aI cap gk)), (yc, .inl (cI, aI cap gct))] sz) := by
  refine met_z (by decide) rfl (Nat.le_of_ble_eq_true rfl) ?_
  intro p e s m below meth c A Q C hmn hret
  refine g_aload_n C 0 std_Y_isAsGood_0 rfl ?_
  refine g_get C (st_sub sti_Y) 0 rfl rfl 3 (by decide) (List.mem_cons_of_mem _ kw_1_88) rfl rfl std_Y_isAsGood_1 ?_
  refine g_iload_n C 1 std_Y_isAsGood_4 rfl ?_
  refine g_iald C 3 0 rfl rfl (by omega) (by omega) (by omega) std_Y_isAsGood_5 ?_
  refine g_SN_i (wc := []) (wr := [(y0, .inr (2, [.ref t0, .int (iI total), .ref ys, .ref yk, .ref yc, .ref yd, .ref yw, .ref yx, .ref yb, .ref yu])), (t0, .inr (1, [.int (iI steps), .int (iI choices), .int (iI bars), .ref hs, .ref hc, .ref hf, .ref hg, .ref hb, .ref he, .ref hm])), (he, .inl (cI, aI 2 fle)), (yk, .inl (cI, aI cap gk)), (yc, .inl (cI, aI cap gct))]) (rest := []) C (c_lastChoice l dC dI cI cJ cZ (gk a) ) (st_cSN C kw_2_83 (List.mem_of_getElem? (i := 4) rfl) kw_1_1 kw_2_82 sth_S_lastChoice ⟨Nat.le_of_ble_eq_true rfl, Nat.le_of_ble_eq_true rfl⟩) rfl rfl (Nat.le_of_ble_eq_true rfl) std_Y_isAsGood_6 ⟨Nat.le_of_ble_eq_true rfl, Nat.le_of_ble_eq_true rfl⟩ [] [0, 1, 2, 3, 4] rfl rfl rfl rfl (by decide) (fun r1 u2 h3 => ?_)
  subst h3
  refine g_ws (ws' := [(y0, .inr (2, [.ref t0, .int (iI total), .ref ys, .ref yk, .ref yc, .ref yd, .ref yw, .ref yx, .ref yb, .ref yu])), (t0, .inr (1, [.int (iI steps), .int (iI choices), .int (iI bars), .ref hs, .ref hc, .ref hf, .ref hg, .ref hb, .ref he, .ref hm])), (he, .inl (cI, aI 2 fle)), (yk, .inl (cI, aI cap gk)), (yc, .inl (cI, aI cap gct))]) rfl ?_
  refine g_aload_n C 0 std_Y_isAsGood_9 rfl ?_
  refine g_get C (st_sub sti_Y) 0 rfl rfl 3 (by decide) (List.mem_cons_of_mem _ kw_1_88) rfl rfl std_Y_isAsGood_10 ?_
  refine g_iload_n C 2 std_Y_isAsGood_13 rfl ?_
  refine g_iald C 3 0 rfl rfl (by omega) (by omega) (by omega) std_Y_isAsGood_14 ?_
  refine g_SN_i (wc := []) (wr := [(y0, .inr (2, [.ref t0, .int (iI total), .ref ys, .ref yk, .ref yc, .ref yd, .ref yw, .ref yx, .ref yb, .ref yu])), (t0, .inr (1, [.int (iI steps), .int (iI choices), .int (iI bars), .ref hs, .ref hc, .ref hf, .ref hg, .ref hb, .ref he, .ref hm])), (he, .inl (cI, aI 2 fle)), (yk, .inl (cI, aI cap gk)), (yc, .inl (cI, aI cap gct))]) (rest := [.int (iI (((gk a) % 8) - 1))]) C (c_lastChoice l dC dI cI cJ cZ (gk b) ) (st_cSN C kw_2_83 (List.mem_of_getElem? (i := 4) rfl) kw_1_1 kw_2_82 sth_S_lastChoice ⟨Nat.le_of_ble_eq_true rfl, Nat.le_of_ble_eq_true rfl⟩) rfl rfl (Nat.le_of_ble_eq_true rfl) std_Y_isAsGood_15 ⟨Nat.le_of_ble_eq_true rfl, Nat.le_of_ble_eq_true rfl⟩ [] [0, 1, 2, 3, 4] rfl rfl rfl rfl (by decide) (fun r4 u5 h6 => ?_)
  subst h6
  refine g_ws (ws' := [(y0, .inr (2, [.ref t0, .int (iI total), .ref ys, .ref yk, .ref yc, .ref yd, .ref yw, .ref yx, .ref yb, .ref yu])), (t0, .inr (1, [.int (iI steps), .int (iI choices), .int (iI bars), .ref hs, .ref hc, .ref hf, .ref hg, .ref hb, .ref he, .ref hm])), (he, .inl (cI, aI 2 fle)), (yk, .inl (cI, aI cap gk)), (yc, .inl (cI, aI cap gct))]) rfl ?_
  refine g_icmp_ne (tgt := 92) C std_Y_isAsGood_18 (by decide) ⟨by omega, by omega⟩ ⟨by omega, by omega⟩ (fun c7 => ?_) (fun c7 => ?_)
  · refine g_iconst C std_Y_isAsGood_92 ?_
    refine g_wide (k := 0) (n := 0) (Nat.le_of_ble_eq_true rfl) (Nat.le_of_ble_eq_true rfl) ?_
    exact hret _ _ _ () (by rw [bI_f (by omega)]) (by decide) std_Y_isAsGood_93
  · refine g_aload_n C 0 std_Y_isAsGood_21 rfl ?_
    refine g_get C (st_sub sti_Y) 0 rfl rfl 4 (by decide) (List.mem_cons_of_mem _ kw_1_90) rfl rfl std_Y_isAsGood_22 ?_
    refine g_iload_n C 1 std_Y_isAsGood_25 rfl ?_
    refine g_iald C 4 0 rfl rfl (by omega) (by omega) (by omega) std_Y_isAsGood_26 ?_
    refine g_aload_n C 0 std_Y_isAsGood_27 rfl ?_
    refine g_get C (st_sub sti_Y) 0 rfl rfl 4 (by decide) (List.mem_cons_of_mem _ kw_1_90) rfl rfl std_Y_isAsGood_28 ?_
    refine g_iload_n C 2 std_Y_isAsGood_31 rfl ?_
    refine g_iald C 4 0 rfl rfl (by omega) (by omega) (by omega) std_Y_isAsGood_32 ?_
    refine g_icmp_gt (tgt := 92) C std_Y_isAsGood_33 (by decide) ⟨by omega, by omega⟩ ⟨by omega, by omega⟩ (fun c8 => ?_) (fun c8 => ?_)
    · refine g_iconst C std_Y_isAsGood_92 ?_
      refine g_wide (k := 0) (n := 0) (Nat.le_of_ble_eq_true rfl) (Nat.le_of_ble_eq_true rfl) ?_
      exact hret _ _ _ () (by rw [bI_f (by omega)]) (by decide) std_Y_isAsGood_93
    · refine g_aload_n C 0 std_Y_isAsGood_36 rfl ?_
      refine g_iconst C std_Y_isAsGood_37 ?_
      refine g_aload_n C 0 std_Y_isAsGood_38 rfl ?_
      refine g_get C (st_sub sti_Y) 0 rfl rfl 3 (by decide) (List.mem_cons_of_mem _ kw_1_88) rfl rfl std_Y_isAsGood_39 ?_
      refine g_iload_n C 1 std_Y_isAsGood_42 rfl ?_
      refine g_iald C 3 0 rfl rfl (by omega) (by omega) (by omega) std_Y_isAsGood_43 ?_
      refine g_SN_i (wc := []) (wr := [(y0, .inr (2, [.ref t0, .int (iI total), .ref ys, .ref yk, .ref yc, .ref yd, .ref yw, .ref yx, .ref yb, .ref yu])), (t0, .inr (1, [.int (iI steps), .int (iI choices), .int (iI bars), .ref hs, .ref hc, .ref hf, .ref hg, .ref hb, .ref he, .ref hm])), (he, .inl (cI, aI 2 fle)), (yk, .inl (cI, aI cap gk)), (yc, .inl (cI, aI cap gct))]) (rest := [.int (iI 0), .ref y0]) C (c_usedOfFirst l dC dI cI cJ cZ (gk a) (by omega)) (st_cSN C kw_2_86 (List.mem_of_getElem? (i := 5) rfl) kw_1_1 kw_2_85 sth_S_usedOfFirst ⟨Nat.le_of_ble_eq_true rfl, Nat.le_of_ble_eq_true rfl⟩) rfl rfl (Nat.le_of_ble_eq_true rfl) std_Y_isAsGood_44 ⟨Nat.le_of_ble_eq_true rfl, Nat.le_of_ble_eq_true rfl⟩ [] [0, 1, 2, 3, 4] rfl rfl rfl rfl (by decide) (fun r9 u10 h11 => ?_)
      subst h11
      refine g_ws (ws' := [(y0, .inr (2, [.ref t0, .int (iI total), .ref ys, .ref yk, .ref yc, .ref yd, .ref yw, .ref yx, .ref yb, .ref yu])), (t0, .inr (1, [.int (iI steps), .int (iI choices), .int (iI bars), .ref hs, .ref hc, .ref hf, .ref hg, .ref hb, .ref he, .ref hm])), (he, .inl (cI, aI 2 fle)), (yk, .inl (cI, aI cap gk)), (yc, .inl (cI, aI cap gct))]) rfl ?_
      refine g_aload_n C 0 std_Y_isAsGood_47 rfl ?_
      refine g_get C (st_sub sti_Y) 0 rfl rfl 3 (by decide) (List.mem_cons_of_mem _ kw_1_88) rfl rfl std_Y_isAsGood_48 ?_
      refine g_iload_n C 2 std_Y_isAsGood_51 rfl ?_
      refine g_iald C 3 0 rfl rfl (by omega) (by omega) (by omega) std_Y_isAsGood_52 ?_
      refine g_SN_i (wc := []) (wr := [(y0, .inr (2, [.ref t0, .int (iI total), .ref ys, .ref yk, .ref yc, .ref yd, .ref yw, .ref yx, .ref yb, .ref yu])), (t0, .inr (1, [.int (iI steps), .int (iI choices), .int (iI bars), .ref hs, .ref hc, .ref hf, .ref hg, .ref hb, .ref he, .ref hm])), (he, .inl (cI, aI 2 fle)), (yk, .inl (cI, aI cap gk)), (yc, .inl (cI, aI cap gct))]) (rest := [.int (iI ((gk a) / 512)), .int (iI 0), .ref y0]) C (c_usedOfFirst l dC dI cI cJ cZ (gk b) (by omega)) (st_cSN C kw_2_86 (List.mem_of_getElem? (i := 5) rfl) kw_1_1 kw_2_85 sth_S_usedOfFirst ⟨Nat.le_of_ble_eq_true rfl, Nat.le_of_ble_eq_true rfl⟩) rfl rfl (Nat.le_of_ble_eq_true rfl) std_Y_isAsGood_53 ⟨Nat.le_of_ble_eq_true rfl, Nat.le_of_ble_eq_true rfl⟩ [] [0, 1, 2, 3, 4] rfl rfl rfl rfl (by decide) (fun r12 u13 h14 => ?_)
      subst h14
      refine g_ws (ws' := [(y0, .inr (2, [.ref t0, .int (iI total), .ref ys, .ref yk, .ref yc, .ref yd, .ref yw, .ref yx, .ref yb, .ref yu])), (t0, .inr (1, [.int (iI steps), .int (iI choices), .int (iI bars), .ref hs, .ref hc, .ref hf, .ref hg, .ref hb, .ref he, .ref hm])), (he, .inl (cI, aI 2 fle)), (yk, .inl (cI, aI cap gk)), (yc, .inl (cI, aI cap gct))]) rfl ?_
      refine g_V_i (wc := [(y0, .inr (2, [.ref t0, .int (iI total), .ref ys, .ref yk, .ref yc, .ref yd, .ref yw, .ref yx, .ref yb, .ref yu])), (t0, .inr (1, [.int (iI steps), .int (iI choices), .int (iI bars), .ref hs, .ref hc, .ref hf, .ref hg, .ref hb, .ref he, .ref hm])), (he, .inl (cI, aI 2 fle))]) (wr := [(yk, .inl (cI, aI cap gk)), (yc, .inl (cI, aI cap gct))]) (rest := []) C (c_isAsGoodOf l dC dI cI cJ cZ y0 ys yk yc yd yw yx yb yu total t0 hs hc hf hg hb he hm steps choices bars fle 0 ((gk a) / 512) ((gk b) / 512) (by omega) (by omega) (by omega) (by omega)) (st_cV C kw_2_215 kw_2_212 kw_1_3 kw_2_214 kw_0_11 sth_Y_isAsGoodOf ⟨Nat.le_of_ble_eq_true rfl, Nat.le_of_ble_eq_true rfl⟩) 0 rfl rfl rfl rfl (Nat.le_of_ble_eq_true rfl) std_Y_isAsGood_56 ⟨Nat.le_of_ble_eq_true rfl, Nat.le_of_ble_eq_true rfl⟩ [0, 1, 2] [3, 4] rfl rfl rfl rfl (by decide) (fun r15 u16 h17 => ?_)
      subst h17
      refine g_ws (ws' := [(yk, .inl (cI, aI cap gk)), (yc, .inl (cI, aI cap gct)), (y0, .inr (2, [.ref t0, .int (iI total), .ref ys, .ref yk, .ref yc, .ref yd, .ref yw, .ref yx, .ref yb, .ref yu])), (t0, .inr (1, [.int (iI steps), .int (iI choices), .int (iI bars), .ref hs, .ref hc, .ref hf, .ref hg, .ref hb, .ref he, .ref hm])), (he, .inl (cI, aI 2 fle))]) rfl ?_
      refine g_ifeq_b (tgt := 92) C std_Y_isAsGood_59 (by decide) (fun c18 => ?_) (fun c18 => ?_)
      · refine g_iconst C std_Y_isAsGood_92 ?_
        refine g_sub (ws' := [(y0, .inr (2, [.ref t0, .int (iI total), .ref ys, .ref yk, .ref yc, .ref yd, .ref yw, .ref yx, .ref yb, .ref yu])), (t0, .inr (1, [.int (iI steps), .int (iI choices), .int (iI bars), .ref hs, .ref hc, .ref hf, .ref hg, .ref hb, .ref he, .ref hm])), (he, .inl (cI, aI 2 fle)), (yk, .inl (cI, aI cap gk)), (yc, .inl (cI, aI cap gct))]) [2, 3, 4, 0, 1] rfl rfl ?_
        refine g_wide (k := 0) (n := 0) (Nat.le_of_ble_eq_true rfl) (Nat.le_of_ble_eq_true rfl) ?_
        exact hret _ _ _ () (by rw [bI_f (by omega)]) (by decide) std_Y_isAsGood_93
      · refine g_aload_n C 0 std_Y_isAsGood_62 rfl ?_
        refine g_iconst C std_Y_isAsGood_63 ?_
        refine g_aload_n C 0 std_Y_isAsGood_64 rfl ?_
        refine g_get C (st_sub sti_Y) 2 rfl rfl 3 (by decide) (List.mem_cons_of_mem _ kw_1_88) rfl rfl std_Y_isAsGood_65 ?_
        refine g_iload_n C 1 std_Y_isAsGood_68 rfl ?_
        refine g_iald C 0 0 rfl rfl (by omega) (by omega) (by omega) std_Y_isAsGood_69 ?_
        refine g_SN_i (wc := []) (wr := [(yk, .inl (cI, aI cap gk)), (yc, .inl (cI, aI cap gct)), (y0, .inr (2, [.ref t0, .int (iI total), .ref ys, .ref yk, .ref yc, .ref yd, .ref yw, .ref yx, .ref yb, .ref yu])), (t0, .inr (1, [.int (iI steps), .int (iI choices), .int (iI bars), .ref hs, .ref hc, .ref hf, .ref hg, .ref hb, .ref he, .ref hm])), (he, .inl (cI, aI 2 fle))]) (rest := [.int (iI 1), .ref y0]) C (c_usedOfSecond l dC dI cI cJ cZ (gk a) (by omega)) (st_cSN C kw_2_89 (List.mem_of_getElem? (i := 6) rfl) kw_1_1 kw_2_88 sth_S_usedOfSecond ⟨Nat.le_of_ble_eq_true rfl, Nat.le_of_ble_eq_true rfl⟩) rfl rfl (Nat.le_of_ble_eq_true rfl) std_Y_isAsGood_70 ⟨Nat.le_of_ble_eq_true rfl, Nat.le_of_ble_eq_true rfl⟩ [] [0, 1, 2, 3, 4] rfl rfl rfl rfl (by decide) (fun r19 u20 h21 => ?_)
        subst h21
        refine g_ws (ws' := [(yk, .inl (cI, aI cap gk)), (yc, .inl (cI, aI cap gct)), (y0, .inr (2, [.ref t0, .int (iI total), .ref ys, .ref yk, .ref yc, .ref yd, .ref yw, .ref yx, .ref yb, .ref yu])), (t0, .inr (1, [.int (iI steps), .int (iI choices), .int (iI bars), .ref hs, .ref hc, .ref hf, .ref hg, .ref hb, .ref he, .ref hm])), (he, .inl (cI, aI 2 fle))]) rfl ?_
        refine g_aload_n C 0 std_Y_isAsGood_73 rfl ?_
        refine g_get C (st_sub sti_Y) 2 rfl rfl 3 (by decide) (List.mem_cons_of_mem _ kw_1_88) rfl rfl std_Y_isAsGood_74 ?_
        refine g_iload_n C 2 std_Y_isAsGood_77 rfl ?_
        refine g_iald C 0 0 rfl rfl (by omega) (by omega) (by omega) std_Y_isAsGood_78 ?_
        refine g_SN_i (wc := []) (wr := [(yk, .inl (cI, aI cap gk)), (yc, .inl (cI, aI cap gct)), (y0, .inr (2, [.ref t0, .int (iI total), .ref ys, .ref yk, .ref yc, .ref yd, .ref yw, .ref yx, .ref yb, .ref yu])), (t0, .inr (1, [.int (iI steps), .int (iI choices), .int (iI bars), .ref hs, .ref hc, .ref hf, .ref hg, .ref hb, .ref he, .ref hm])), (he, .inl (cI, aI 2 fle))]) (rest := [.int (iI (((gk a) / 8) % 64)), .int (iI 1), .ref y0]) C (c_usedOfSecond l dC dI cI cJ cZ (gk b) (by omega)) (st_cSN C kw_2_89 (List.mem_of_getElem? (i := 6) rfl) kw_1_1 kw_2_88 sth_S_usedOfSecond ⟨Nat.le_of_ble_eq_true rfl, Nat.le_of_ble_eq_true rfl⟩) rfl rfl (Nat.le_of_ble_eq_true rfl) std_Y_isAsGood_79 ⟨Nat.le_of_ble_eq_true rfl, Nat.le_of_ble_eq_true rfl⟩ [] [0, 1, 2, 3, 4] rfl rfl rfl rfl (by decide) (fun r22 u23 h24 => ?_)
        subst h24
        refine g_ws (ws' := [(yk, .inl (cI, aI cap gk)), (yc, .inl (cI, aI cap gct)), (y0, .inr (2, [.ref t0, .int (iI total), .ref ys, .ref yk, .ref yc, .ref yd, .ref yw, .ref yx, .ref yb, .ref yu])), (t0, .inr (1, [.int (iI steps), .int (iI choices), .int (iI bars), .ref hs, .ref hc, .ref hf, .ref hg, .ref hb, .ref he, .ref hm])), (he, .inl (cI, aI 2 fle))]) rfl ?_
        refine g_V_i (wc := [(y0, .inr (2, [.ref t0, .int (iI total), .ref ys, .ref yk, .ref yc, .ref yd, .ref yw, .ref yx, .ref yb, .ref yu])), (t0, .inr (1, [.int (iI steps), .int (iI choices), .int (iI bars), .ref hs, .ref hc, .ref hf, .ref hg, .ref hb, .ref he, .ref hm])), (he, .inl (cI, aI 2 fle))]) (wr := [(yk, .inl (cI, aI cap gk)), (yc, .inl (cI, aI cap gct))]) (rest := []) C (c_isAsGoodOf l dC dI cI cJ cZ y0 ys yk yc yd yw yx yb yu total t0 hs hc hf hg hb he hm steps choices bars fle 1 (((gk a) / 8) % 64) (((gk b) / 8) % 64) (by omega) (by omega) (by omega) (by omega)) (st_cV C kw_2_215 kw_2_212 kw_1_3 kw_2_214 kw_0_11 sth_Y_isAsGoodOf ⟨Nat.le_of_ble_eq_true rfl, Nat.le_of_ble_eq_true rfl⟩) 0 rfl rfl rfl rfl (Nat.le_of_ble_eq_true rfl) std_Y_isAsGood_82 ⟨Nat.le_of_ble_eq_true rfl, Nat.le_of_ble_eq_true rfl⟩ [2, 3, 4] [0, 1] rfl rfl rfl rfl (by decide) (fun r25 u26 h27 => ?_)
        subst h27
        refine g_ws (ws' := [(yk, .inl (cI, aI cap gk)), (yc, .inl (cI, aI cap gct)), (y0, .inr (2, [.ref t0, .int (iI total), .ref ys, .ref yk, .ref yc, .ref yd, .ref yw, .ref yx, .ref yb, .ref yu])), (t0, .inr (1, [.int (iI steps), .int (iI choices), .int (iI bars), .ref hs, .ref hc, .ref hf, .ref hg, .ref hb, .ref he, .ref hm])), (he, .inl (cI, aI 2 fle))]) rfl ?_
        refine g_ifeq_b (tgt := 92) C std_Y_isAsGood_85 (by decide) (fun c28 => ?_) (fun c28 => ?_)
        · refine g_iconst C std_Y_isAsGood_92 ?_
          refine g_sub (ws' := [(y0, .inr (2, [.ref t0, .int (iI total), .ref ys, .ref yk, .ref yc, .ref yd, .ref yw, .ref yx, .ref yb, .ref yu])), (t0, .inr (1, [.int (iI steps), .int (iI choices), .int (iI bars), .ref hs, .ref hc, .ref hf, .ref hg, .ref hb, .ref he, .ref hm])), (he, .inl (cI, aI 2 fle)), (yk, .inl (cI, aI cap gk)), (yc, .inl (cI, aI cap gct))]) [2, 3, 4, 0, 1] rfl rfl ?_
          refine g_wide (k := 0) (n := 0) (Nat.le_of_ble_eq_true rfl) (Nat.le_of_ble_eq_true rfl) ?_
          exact hret _ _ _ () (by rw [bI_f (by omega)]) (by decide) std_Y_isAsGood_93
        · refine g_iconst C std_Y_isAsGood_88 ?_
          refine g_goto (tgt := 93) C std_Y_isAsGood_89 (by decide) ?_
          refine g_sub (ws' := [(y0, .inr (2, [.ref t0, .int (iI total), .ref ys, .ref yk, .ref yc, .ref yd, .ref yw, .ref yx, .ref yb, .ref yu])), (t0, .inr (1, [.int (iI steps), .int (iI choices), .int (iI bars), .ref hs, .ref hc, .ref hf, .ref hg, .ref hb, .ref he, .ref hm])), (he, .inl (cI, aI 2 fle)), (yk, .inl (cI, aI cap gk)), (yc, .inl (cI, aI cap gct))]) [2, 3, 4, 0, 1] rfl rfl ?_
          refine g_wide (k := 0) (n := 0) (Nat.le_of_ble_eq_true rfl) (Nat.le_of_ble_eq_true rfl) ?_
          exact hret _ _ _ () (by rw [bI_t (by omega)]) (by decide) std_Y_isAsGood_93

