/-! StateTables: what is told -/
abbrev sty_S_step : MethodName := ⟨"StateTables", "step", "()I"⟩
abbrev stc_S_step : ByteArray := prog_1_method_2_code
theorem sth_S_step : (sty_S_step).cls ≠ "java/lang/invoke/MethodHandle" ∧ (sty_S_step).cls ≠ "java/lang/invoke/VarHandle" ∧ (parseMethodDescriptor (sty_S_step).desc).map (fun d => d.parameters.length) = some 0 := by decide +kernel
theorem std_S_step_0 : decode stc_S_step 0 = .ok (.aload_n 0, 1) := by decide +kernel
theorem std_S_step_1 : decode stc_S_step 1 = .ok (.getfield 12, 3) := by decide +kernel
theorem std_S_step_4 : decode stc_S_step 4 = .ok (.getfield 45, 3) := by decide +kernel
theorem std_S_step_7 : decode stc_S_step 7 = .ok (.bipush 12, 2) := by decide +kernel
theorem std_S_step_9 : decode stc_S_step 9 = .ok (.if_icmp .lt 6, 3) := by decide +kernel
theorem std_S_step_15 : decode stc_S_step 15 = .ok (.aload_n 0, 1) := by decide +kernel
theorem std_S_step_16 : decode stc_S_step 16 = .ok (.iconst 0, 1) := by decide +kernel
theorem std_S_step_17 : decode stc_S_step 17 = .ok (.putfield 41, 3) := by decide +kernel
theorem std_S_step_20 : decode stc_S_step 20 = .ok (.aload_n 0, 1) := by decide +kernel
theorem std_S_step_21 : decode stc_S_step 21 = .ok (.getfield 12, 3) := by decide +kernel
theorem std_S_step_24 : decode stc_S_step 24 = .ok (.invokevirtual 50, 3) := by decide +kernel
theorem kw_1_213 : Cond.code sty_T_addStep stc_T_addStep 1 (some .int) ∈ stGW := st_t1 (List.mem_of_getElem? (i := 213) (by decide +kernel)) (by decide +kernel)
theorem kw_1_210 : Cond.methodLink "StateTables" 50 (sty_T_addStep) ∈ stGW := st_t1 (List.mem_of_getElem? (i := 210) (by decide +kernel)) (by decide +kernel)
theorem kw_1_211 : Cond.instanceMethod (sty_T_addStep) ∈ stGW := st_t1 (List.mem_of_getElem? (i := 211) (by decide +kernel)) (by decide +kernel)
theorem kw_1_212 : Cond.selects "StateTables$Told" (sty_T_addStep) (sty_T_addStep) ∈ stGW := st_t1 (List.mem_of_getElem? (i := 212) (by decide +kernel)) (by decide +kernel)
theorem std_S_step_27 : decode stc_S_step 27 = .ok (.ireturn, 1) := by decide +kernel
theorem std_S_step_12 : decode stc_S_step 12 = .ok (.ldc 49, 2) := by decide +kernel
theorem std_S_step_14 : decode stc_S_step 14 = .ok (.ireturn, 1) := by decide +kernel
set_option maxHeartbeats 4000000 in
set_option maxRecDepth 100000 in
theorem c_step (l : Launch) (dC : Nat → ClassId) (dI : Nat → Nat → Nat) (cI cJ cZ : ClassId) (s0 : Nat) (n0 : Nat) (H : Prop) (t0 : Nat) (hs : Nat) (hc : Nat) (hf : Nat) (hg : Nat) (hb : Nat) (he : Nat) (hm : Nat) (steps : Int) (choices : Int) (bars : Int) (y0 : Nat) (f0 : Nat) (fsz : Int → Int) (kst : 0 ≤ steps ∧ steps ≤ 12) : ∀ sz, Met l sty_S_step (Cond.code sty_S_step stc_S_step 1 (some .int) :: stGW) ({ frames := 1, cells := 0, slots := 0, locals := 20 } : Room) (va_Pc [.ref s0] (zPre (dC, dI) stCl [(cI, .int), (cJ, .long), (cZ, .boolean)] st_nw [(s0, .inr (0, [.ref t0, .ref y0, .ref f0, .ref n0, .int (iI (bI H))])), (t0, .inr (1, [.int (iI steps), .int (iI choices), .int (iI bars), .ref hs, .ref hc, .ref hf, .ref hg, .ref hb, .ref he, .ref hm])), (hs, .inl (cI, aI 12 fsz))] sz)) (va_Qi (fun (r : Int32) (u : Prop × Int × (Int → Int)) => (12 ≤ steps ∧ r = iI (-3000000) ∧ u = (H, steps, fsz)) ∨ (steps < 12 ∧ r = iI ((steps + 1) - 1) ∧ u = (False, (steps + 1), (uZ fsz steps 0)))) (zPost (dC, dI) stCl [(cI, .int), (cJ, .long), (cZ, .boolean)] [(s0, .inr (0, [.ref t0, .ref y0, .ref f0, .ref n0, .int (iI (bI H))])), (t0, .inr (1, [.int (iI steps), .int (iI choices), .int (iI bars), .ref hs, .ref hc, .ref hf, .ref hg, .ref hb, .ref he, .ref hm])), (hs, .inl (cI, aI 12 fsz))] sz (fun u : Prop × Int × (Int → Int) => [(s0, .inr (0, [.ref t0, .ref y0, .ref f0, .ref n0, .int (iI (bI u.1))])), (t0, .inr (1, [.int (iI (u.2.1)), .int (iI choices), .int (iI bars), .ref hs, .ref hc, .ref hf, .ref hg, .ref hb, .ref he, .ref hm])), (hs, .inl (cI, aI 12 (u.2.2)))])) (va_A [(s0, .inr (0, [.ref t0, .ref y0, .ref f0, .ref n0, .int (iI (bI H))])), (t0, .inr (1, [.int (iI steps), .int (iI choices), .int (iI bars), .ref hs, .ref hc, .ref hf, .ref hg, .ref hb, .ref he, .ref hm])), (hs, .inl (cI, aI 12 fsz))] sz)) 0 0 (va_A [(s0, .inr (0, [.ref t0, .ref y0, .ref f0, .ref n0, .int (iI (bI H))])), (t0, .inr (1, [.int (iI steps), .int (iI choices), .int (iI bars), .ref hs, .ref hc, .ref hf, .ref hg, .ref hb, .ref he, .ref hm])), (hs, .inl (cI, aI 12 fsz))] sz) := by
  refine met_i (by decide) rfl (Nat.le_of_ble_eq_true rfl) ?_
  intro p e s m below meth c A Q C hmn hret
  refine g_aload_n C 0 std_S_step_0 rfl ?_
  refine g_get C (st_sub sti_S) 0 rfl rfl 0 (by decide) (List.mem_cons_of_mem _ kw_1_189) rfl rfl std_S_step_1 ?_
  refine g_get C (st_sub sti_T) 1 rfl rfl 0 (by decide) (List.mem_cons_of_mem _ kw_1_24) rfl rfl std_S_step_4 ?_
  refine g_bipush C std_S_step_7 (by decide) ?_
  refine g_icmp_lt (tgt := 15) C std_S_step_9 (by decide) ⟨by omega, by omega⟩ ⟨by omega, by omega⟩ (fun c1 => ?_) (fun c1 => ?_)
  · refine g_aload_n C 0 std_S_step_15 rfl ?_
    refine g_iconst C std_S_step_16 ?_
    refine g_put C (ws' := [(s0, .inr (0, [.ref t0, .ref y0, .ref f0, .ref n0, .int (iI 0)])), (t0, .inr (1, [.int (iI steps), .int (iI choices), .int (iI bars), .ref hs, .ref hc, .ref hf, .ref hg, .ref hb, .ref he, .ref hm])), (hs, .inl (cI, aI 12 fsz))]) (st_sub sti_S) stt_S sto_S stn_S 0 rfl rfl 4 (by decide) (List.mem_cons_of_mem _ kw_1_193) rfl rfl (by decide) (by decide) (Nat.le_of_ble_eq_true rfl) std_S_step_17 rfl ?_
    refine g_aload_n C 0 std_S_step_20 rfl ?_
    refine g_get C (st_sub sti_S) 0 rfl rfl 0 (by decide) (List.mem_cons_of_mem _ kw_1_189) rfl rfl std_S_step_21 ?_
    refine g_V_i (wc := [(t0, .inr (1, [.int (iI steps), .int (iI choices), .int (iI bars), .ref hs, .ref hc, .ref hf, .ref hg, .ref hb, .ref he, .ref hm])), (hs, .inl (cI, aI 12 fsz))]) (wr := [(s0, .inr (0, [.ref t0, .ref y0, .ref f0, .ref n0, .int (iI 0)]))]) (rest := []) C (c_addStep l dC dI cI cJ cZ t0 hs hc hf hg hb he hm steps choices bars fsz (by omega)) (st_cV C kw_1_213 kw_1_210 kw_1_2 kw_1_211 kw_1_212 sth_T_addStep ⟨Nat.le_of_ble_eq_true rfl, Nat.le_of_ble_eq_true rfl⟩) 0 rfl rfl rfl rfl (Nat.le_of_ble_eq_true rfl) std_S_step_24 ⟨Nat.le_of_ble_eq_true rfl, Nat.le_of_ble_eq_true rfl⟩ [1, 2] [0] rfl rfl rfl rfl (by decide) (fun r2 u3 h4 => ?_)
    subst h4
    refine g_ws (ws' := [(s0, .inr (0, [.ref t0, .ref y0, .ref f0, .ref n0, .int (iI 0)])), (t0, .inr (1, [.int (iI (steps + 1)), .int (iI choices), .int (iI bars), .ref hs, .ref hc, .ref hf, .ref hg, .ref hb, .ref he, .ref hm])), (hs, .inl (cI, aI 12 (uZ fsz steps 0)))]) rfl ?_
    refine g_wide (k := 0) (n := 0) (Nat.le_of_ble_eq_true rfl) (Nat.le_of_ble_eq_true rfl) ?_
    refine g_ws (ws' := [(s0, .inr (0, [.ref t0, .ref y0, .ref f0, .ref n0, .int (iI (bI False))])), (t0, .inr (1, [.int (iI (steps + 1)), .int (iI choices), .int (iI bars), .ref hs, .ref hc, .ref hf, .ref hg, .ref hb, .ref he, .ref hm])), (hs, .inl (cI, aI 12 (uZ fsz steps 0)))]) (by rw [show bI False = 0 from bI_f id]) ?_
    exact hret _ _ _ (False, (steps + 1), (uZ fsz steps 0)) (Or.inr (⟨by omega, rfl, rfl⟩)) std_S_step_27
  · refine g_ldc C (z := (-3000000)) (List.mem_cons_of_mem _ kw_1_209) (by decide) std_S_step_12 ?_
    exact hret _ _ _ (H, steps, fsz) (Or.inl ⟨by omega, rfl, rfl⟩) std_S_step_14

abbrev sty_S_choice : MethodName := ⟨"StateTables", "choice", "(IIII)I"⟩
abbrev stc_S_choice : ByteArray := prog_1_method_3_code
theorem sth_S_choice : (sty_S_choice).cls ≠ "java/lang/invoke/MethodHandle" ∧ (sty_S_choice).cls ≠ "java/lang/invoke/VarHandle" ∧ (parseMethodDescriptor (sty_S_choice).desc).map (fun d => d.parameters.length) = some 4 := by decide +kernel
theorem std_S_choice_0 : decode stc_S_choice 0 = .ok (.aload_n 0, 1) := by decide +kernel
theorem std_S_choice_1 : decode stc_S_choice 1 = .ok (.getfield 12, 3) := by decide +kernel
theorem std_S_choice_4 : decode stc_S_choice 4 = .ok (.iload_n 1, 1) := by decide +kernel
theorem std_S_choice_5 : decode stc_S_choice 5 = .ok (.invokevirtual 54, 3) := by decide +kernel
theorem std_S_choice_8 : decode stc_S_choice 8 = .ok (.ifCond .eq 25, 3) := by decide +kernel
theorem std_S_choice_33 : decode stc_S_choice 33 = .ok (.ldc 64, 2) := by decide +kernel
theorem std_S_choice_35 : decode stc_S_choice 35 = .ok (.ireturn, 1) := by decide +kernel
theorem std_S_choice_11 : decode stc_S_choice 11 = .ok (.iload_n 2, 1) := by decide +kernel
theorem std_S_choice_12 : decode stc_S_choice 12 = .ok (.invokestatic 58, 3) := by decide +kernel
theorem kw_1_224 : Cond.code sty_S_isCost stc_S_isCost 1 (some .boolean) ∈ stGW := st_t1 (List.mem_of_getElem? (i := 224) (by decide +kernel)) (by decide +kernel)
theorem kw_1_222 : Cond.methodLink "StateTables" 58 (sty_S_isCost) ∈ stGW := st_t1 (List.mem_of_getElem? (i := 222) (by decide +kernel)) (by decide +kernel)
theorem kw_1_223 : Cond.static (sty_S_isCost) ∈ stGW := st_t1 (List.mem_of_getElem? (i := 223) (by decide +kernel)) (by decide +kernel)
theorem std_S_choice_15 : decode stc_S_choice 15 = .ok (.ifCond .eq 18, 3) := by decide +kernel
theorem std_S_choice_18 : decode stc_S_choice 18 = .ok (.iload_n 3, 1) := by decide +kernel
theorem std_S_choice_19 : decode stc_S_choice 19 = .ok (.invokestatic 61, 3) := by decide +kernel
theorem kw_1_227 : Cond.code sty_S_isUse stc_S_isUse 1 (some .boolean) ∈ stGW := st_t1 (List.mem_of_getElem? (i := 227) (by decide +kernel)) (by decide +kernel)
theorem kw_1_225 : Cond.methodLink "StateTables" 61 (sty_S_isUse) ∈ stGW := st_t1 (List.mem_of_getElem? (i := 225) (by decide +kernel)) (by decide +kernel)
theorem kw_1_226 : Cond.static (sty_S_isUse) ∈ stGW := st_t1 (List.mem_of_getElem? (i := 226) (by decide +kernel)) (by decide +kernel)
theorem std_S_choice_22 : decode stc_S_choice 22 = .ok (.ifCond .eq 11, 3) := by decide +kernel
theorem std_S_choice_25 : decode stc_S_choice 25 = .ok (.iload 4, 2) := by decide +kernel
theorem std_S_choice_27 : decode stc_S_choice 27 = .ok (.invokestatic 61, 3) := by decide +kernel
theorem std_S_choice_30 : decode stc_S_choice 30 = .ok (.ifCond .ne 6, 3) := by decide +kernel
theorem std_S_choice_36 : decode stc_S_choice 36 = .ok (.aload_n 0, 1) := by decide +kernel
theorem std_S_choice_37 : decode stc_S_choice 37 = .ok (.getfield 12, 3) := by decide +kernel
theorem std_S_choice_40 : decode stc_S_choice 40 = .ok (.getfield 65, 3) := by decide +kernel
theorem kw_1_34 : Cond.fieldLink "StateTables" 65 "StateTables$Told" "sizes" "[I" ∈ stGW := st_t1 (List.mem_of_getElem? (i := 34) (by decide +kernel)) (by decide +kernel)
theorem std_S_choice_43 : decode stc_S_choice 43 = .ok (.iload_n 1, 1) := by decide +kernel
theorem std_S_choice_44 : decode stc_S_choice 44 = .ok (.iaload, 1) := by decide +kernel
theorem std_S_choice_45 : decode stc_S_choice 45 = .ok (.bipush 6, 2) := by decide +kernel
theorem std_S_choice_47 : decode stc_S_choice 47 = .ok (.if_icmp .lt 6, 3) := by decide +kernel
theorem std_S_choice_53 : decode stc_S_choice 53 = .ok (.aload_n 0, 1) := by decide +kernel
theorem std_S_choice_54 : decode stc_S_choice 54 = .ok (.iconst 0, 1) := by decide +kernel
theorem std_S_choice_55 : decode stc_S_choice 55 = .ok (.putfield 41, 3) := by decide +kernel
theorem std_S_choice_58 : decode stc_S_choice 58 = .ok (.aload_n 0, 1) := by decide +kernel
theorem std_S_choice_59 : decode stc_S_choice 59 = .ok (.getfield 12, 3) := by decide +kernel
theorem std_S_choice_62 : decode stc_S_choice 62 = .ok (.iload_n 1, 1) := by decide +kernel
theorem std_S_choice_63 : decode stc_S_choice 63 = .ok (.iload_n 2, 1) := by decide +kernel
theorem std_S_choice_64 : decode stc_S_choice 64 = .ok (.iload_n 3, 1) := by decide +kernel
theorem std_S_choice_65 : decode stc_S_choice 65 = .ok (.iload 4, 2) := by decide +kernel
theorem std_S_choice_67 : decode stc_S_choice 67 = .ok (.invokevirtual 69, 3) := by decide +kernel
theorem kw_1_232 : Cond.code sty_T_addChoice stc_T_addChoice 7 (some .int) ∈ stGW := st_t1 (List.mem_of_getElem? (i := 232) (by decide +kernel)) (by decide +kernel)
theorem kw_1_229 : Cond.methodLink "StateTables" 69 (sty_T_addChoice) ∈ stGW := st_t1 (List.mem_of_getElem? (i := 229) (by decide +kernel)) (by decide +kernel)
theorem kw_1_230 : Cond.instanceMethod (sty_T_addChoice) ∈ stGW := st_t1 (List.mem_of_getElem? (i := 230) (by decide +kernel)) (by decide +kernel)
theorem kw_1_231 : Cond.selects "StateTables$Told" (sty_T_addChoice) (sty_T_addChoice) ∈ stGW := st_t1 (List.mem_of_getElem? (i := 231) (by decide +kernel)) (by decide +kernel)
theorem std_S_choice_70 : decode stc_S_choice 70 = .ok (.ireturn, 1) := by decide +kernel
theorem std_S_choice_50 : decode stc_S_choice 50 = .ok (.ldc 49, 2) := by decide +kernel
theorem std_S_choice_52 : decode stc_S_choice 52 = .ok (.ireturn, 1) := by decide +kernel
set_option maxHeartbeats 4000000 in
set_option maxRecDepth 100000 in
theorem c_choice (l : Launch) (dC : Nat → ClassId) (dI : Nat → Nat → Nat) (cI cJ cZ : ClassId) (s0 : Nat) (n0 : Nat) (H : Prop) (t0 : Nat) (hs : Nat) (hc : Nat) (hf : Nat) (hg : Nat) (hb : Nat) (he : Nat) (hm : Nat) (steps : Int) (choices : Int) (bars : Int) (y0 : Nat) (f0 : Nat) (fsz : Int → Int) (fco : Int → Int) (ffu : Int → Int) (fsu : Int → Int) (a : Int) (x : Int) (y : Int) (z : Int) (kst : 0 ≤ steps ∧ steps ≤ 12) (ksz : ∀ j, 0 ≤ j → j < 12 → 0 ≤ fsz j ∧ fsz j ≤ 6) (ka : rI a) (kx : rI x) (ky : rI y) (kz : rI z) : ∀ sz, Met l sty_S_choice (Cond.code sty_S_choice stc_S_choice 5 (some .int) :: stGW) ({ frames := 2, cells := 0, slots := 0, locals := 47 } : Room) (va_Pc [.ref s0, .int (iI a), .int (iI x), .int (iI y), .int (iI z)] (zPre (dC, dI) stCl [(cI, .int), (cJ, .long), (cZ, .boolean)] st_nw [(s0, .inr (0, [.ref t0, .ref y0, .ref f0, .ref n0, .int (iI (bI H))])), (t0, .inr (1, [.int (iI steps), .int (iI choices), .int (iI bars), .ref hs, .ref hc, .ref hf, .ref hg, .ref hb, .ref he, .ref hm])), (hs, .inl (cI, aI 12 fsz)), (hc, .inl (cI, aI 72 fco)), (hf, .inl (cI, aI 72 ffu)), (hg, .inl (cI, aI 72 fsu))] sz)) (va_Qi (fun (r : Int32) (u : Prop × Int × (Int → Int) × (Int → Int) × (Int → Int) × (Int → Int)) => (¬ (((0 ≤ a ∧ a < steps) ∧ (-1000 ≤ x ∧ x ≤ 1000)) ∧ (0 ≤ y ∧ y ≤ 20) ∧ 0 ≤ z ∧ z ≤ 20) ∧ r = iI (-2000000) ∧ u = (H, choices, fsz, fco, ffu, fsu)) ∨ (((((0 ≤ a ∧ a < steps) ∧ (-1000 ≤ x ∧ x ≤ 1000)) ∧ (0 ≤ y ∧ y ≤ 20) ∧ 0 ≤ z ∧ z ≤ 20) ∧ 6 ≤ fsz a) ∧ r = iI (-3000000) ∧ u = (H, choices, fsz, fco, ffu, fsu)) ∨ (((((0 ≤ a ∧ a < steps) ∧ (-1000 ≤ x ∧ x ≤ 1000)) ∧ (0 ≤ y ∧ y ≤ 20) ∧ 0 ≤ z ∧ z ≤ 20) ∧ fsz a < 6) ∧ r = iI (fsz a) ∧ u = (False, (choices + 1), (uZ fsz a ((fsz a) + 1)), (uZ fco ((a * 6) + (fsz a)) x), (uZ ffu ((a * 6) + (fsz a)) y), (uZ fsu ((a * 6) + (fsz a)) z)))) (zPost (dC, dI) stCl [(cI, .int), (cJ, .long), (cZ, .boolean)] [(s0, .inr (0, [.ref t0, .ref y0, .ref f0, .ref n0, .int (iI (bI H))])), (t0, .inr (1, [.int (iI steps), .int (iI choices), .int (iI bars), .ref hs, .ref hc, .ref hf, .ref hg, .ref hb, .ref he, .ref hm])), (hs, .inl (cI, aI 12 fsz)), (hc, .inl (cI, aI 72 fco)), (hf, .inl (cI, aI 72 ffu)), (hg, .inl (cI, aI 72 fsu))] sz (fun u : Prop × Int × (Int → Int) × (Int → Int) × (Int → Int) × (Int → Int) => [(s0, .inr (0, [.ref t0, .ref y0, .ref f0, .ref n0, .int (iI (bI u.1))])), (t0, .inr (1, [.int (iI steps), .int (iI (u.2.1)), .int (iI bars), .ref hs, .ref hc, .ref hf, .ref hg, .ref hb, .ref he, .ref hm])), (hs, .inl (cI, aI 12 (u.2.2.1))), (hc, .inl (cI, aI 72 (u.2.2.2.1))), (hf, .inl (cI, aI 72 (u.2.2.2.2.1))), (hg, .inl (cI, aI 72 (u.2.2.2.2.2)))])) (va_A [(s0, .inr (0, [.ref t0, .ref y0, .ref f0, .ref n0, .int (iI (bI H))])), (t0, .inr (1, [.int (iI steps), .int (iI choices), .int (iI bars), .ref hs, .ref hc, .ref hf, .ref hg, .ref hb, .ref he, .ref hm])), (hs, .inl (cI, aI 12 fsz)), (hc, .inl (cI, aI 72 fco)), (hf, .inl (cI, aI 72 ffu)), (hg, .inl (cI, aI 72 fsu))] sz)) 0 0 (va_A [(s0, .inr (0, [.ref t0, .ref y0, .ref f0, .ref n0, .int (iI (bI H))])), (t0, .inr (1, [.int (iI steps), .int (iI choices), .int (iI bars), .ref hs, .ref hc, .ref hf, .ref hg, .ref hb, .ref he, .ref hm])), (hs, .inl (cI, aI 12 fsz)), (hc, .inl (cI, aI 72 fco)), (hf, .inl (cI, aI 72 ffu)), (hg, .inl (cI, aI 72 fsu))] sz) := by
  refine met_i (by decide) rfl (Nat.le_of_ble_eq_true rfl) ?_
  intro p e s m below meth c A Q C hmn hret
  refine g_aload_n C 0 std_S_choice_0 rfl ?_
  refine g_get C (st_sub sti_S) 0 rfl rfl 0 (by decide) (List.mem_cons_of_mem _ kw_1_189) rfl rfl std_S_choice_1 ?_
  refine g_iload_n C 1 std_S_choice_4 rfl ?_
  refine g_V_i (wc := [(t0, .inr (1, [.int (iI steps), .int (iI choices), .int (iI bars), .ref hs, .ref hc, .ref hf, .ref hg, .ref hb, .ref he, .ref hm]))]) (wr := [(s0, .inr (0, [.ref t0, .ref y0, .ref f0, .ref n0, .int (iI (bI H))])), (hs, .inl (cI, aI 12 fsz)), (hc, .inl (cI, aI 72 fco)), (hf, .inl (cI, aI 72 ffu)), (hg, .inl (cI, aI 72 fsu))]) (rest := []) C (c_hasStep l dC dI cI cJ cZ t0 hs hc hf hg hb he hm steps choices bars a (kst) (by omega)) (st_cV C kw_1_221 kw_1_218 kw_1_2 kw_1_219 kw_1_220 sth_T_hasStep ⟨Nat.le_of_ble_eq_true rfl, Nat.le_of_ble_eq_true rfl⟩) 0 rfl rfl rfl rfl (Nat.le_of_ble_eq_true rfl) std_S_choice_5 ⟨Nat.le_of_ble_eq_true rfl, Nat.le_of_ble_eq_true rfl⟩ [1] [0, 2, 3, 4, 5] rfl rfl rfl rfl (by decide) (fun r1 u2 h3 => ?_)
  subst h3
  refine g_ws (ws' := [(s0, .inr (0, [.ref t0, .ref y0, .ref f0, .ref n0, .int (iI (bI H))])), (hs, .inl (cI, aI 12 fsz)), (hc, .inl (cI, aI 72 fco)), (hf, .inl (cI, aI 72 ffu)), (hg, .inl (cI, aI 72 fsu)), (t0, .inr (1, [.int (iI steps), .int (iI choices), .int (iI bars), .ref hs, .ref hc, .ref hf, .ref hg, .ref hb, .ref he, .ref hm]))]) rfl ?_
  refine g_ifeq_b (tgt := 33) C std_S_choice_8 (by decide) (fun c4 => ?_) (fun c4 => ?_)
  · refine g_ldc C (z := (-2000000)) (List.mem_cons_of_mem _ kw_1_228) (by decide) std_S_choice_33 ?_
    refine g_sub (ws' := [(s0, .inr (0, [.ref t0, .ref y0, .ref f0, .ref n0, .int (iI (bI H))])), (t0, .inr (1, [.int (iI steps), .int (iI choices), .int (iI bars), .ref hs, .ref hc, .ref hf, .ref hg, .ref hb, .ref he, .ref hm])), (hs, .inl (cI, aI 12 fsz)), (hc, .inl (cI, aI 72 fco)), (hf, .inl (cI, aI 72 ffu)), (hg, .inl (cI, aI 72 fsu))]) [0, 5, 1, 2, 3, 4] rfl rfl ?_
    refine g_wide (k := 0) (n := 0) (Nat.le_of_ble_eq_true rfl) (Nat.le_of_ble_eq_true rfl) ?_
    exact hret _ _ _ (H, choices, fsz, fco, ffu, fsu) (Or.inl ⟨by omega, rfl, rfl⟩) std_S_choice_35
  · refine g_iload_n C 2 std_S_choice_11 rfl ?_
    refine g_S_i (wc := []) (wr := [(s0, .inr (0, [.ref t0, .ref y0, .ref f0, .ref n0, .int (iI (bI H))])), (hs, .inl (cI, aI 12 fsz)), (hc, .inl (cI, aI 72 fco)), (hf, .inl (cI, aI 72 ffu)), (hg, .inl (cI, aI 72 fsu)), (t0, .inr (1, [.int (iI steps), .int (iI choices), .int (iI bars), .ref hs, .ref hc, .ref hf, .ref hg, .ref hb, .ref he, .ref hm]))]) (rest := []) C (c_isCost l dC dI cI cJ cZ x (by omega)) (st_cS C kw_1_224 kw_1_222 kw_1_1 kw_1_223 sth_S_isCost ⟨Nat.le_of_ble_eq_true rfl, Nat.le_of_ble_eq_true rfl⟩) rfl rfl (Nat.le_of_ble_eq_true rfl) std_S_choice_12 ⟨Nat.le_of_ble_eq_true rfl, Nat.le_of_ble_eq_true rfl⟩ [] [0, 1, 2, 3, 4, 5] rfl rfl rfl rfl (by decide) (fun r5 u6 h7 => ?_)
    subst h7
    refine g_ws (ws' := [(s0, .inr (0, [.ref t0, .ref y0, .ref f0, .ref n0, .int (iI (bI H))])), (hs, .inl (cI, aI 12 fsz)), (hc, .inl (cI, aI 72 fco)), (hf, .inl (cI, aI 72 ffu)), (hg, .inl (cI, aI 72 fsu)), (t0, .inr (1, [.int (iI steps), .int (iI choices), .int (iI bars), .ref hs, .ref hc, .ref hf, .ref hg, .ref hb, .ref he, .ref hm]))]) rfl ?_
    refine g_ifeq_b (tgt := 33) C std_S_choice_15 (by decide) (fun c8 => ?_) (fun c8 => ?_)
    · refine g_ldc C (z := (-2000000)) (List.mem_cons_of_mem _ kw_1_228) (by decide) std_S_choice_33 ?_
      refine g_sub (ws' := [(s0, .inr (0, [.ref t0, .ref y0, .ref f0, .ref n0, .int (iI (bI H))])), (t0, .inr (1, [.int (iI steps), .int (iI choices), .int (iI bars), .ref hs, .ref hc, .ref hf, .ref hg, .ref hb, .ref he, .ref hm])), (hs, .inl (cI, aI 12 fsz)), (hc, .inl (cI, aI 72 fco)), (hf, .inl (cI, aI 72 ffu)), (hg, .inl (cI, aI 72 fsu))]) [0, 5, 1, 2, 3, 4] rfl rfl ?_
      refine g_wide (k := 0) (n := 0) (Nat.le_of_ble_eq_true rfl) (Nat.le_of_ble_eq_true rfl) ?_
      exact hret _ _ _ (H, choices, fsz, fco, ffu, fsu) (Or.inl ⟨by omega, rfl, rfl⟩) std_S_choice_35
    · refine g_iload_n C 3 std_S_choice_18 rfl ?_
      refine g_S_i (wc := []) (wr := [(s0, .inr (0, [.ref t0, .ref y0, .ref f0, .ref n0, .int (iI (bI H))])), (hs, .inl (cI, aI 12 fsz)), (hc, .inl (cI, aI 72 fco)), (hf, .inl (cI, aI 72 ffu)), (hg, .inl (cI, aI 72 fsu)), (t0, .inr (1, [.int (iI steps), .int (iI choices), .int (iI bars), .ref hs, .ref hc, .ref hf, .ref hg, .ref hb, .ref he, .ref hm]))]) (rest := []) C (c_isUse l dC dI cI cJ cZ y (by omega)) (st_cS C kw_1_227 kw_1_225 kw_1_1 kw_1_226 sth_S_isUse ⟨Nat.le_of_ble_eq_true rfl, Nat.le_of_ble_eq_true rfl⟩) rfl rfl (Nat.le_of_ble_eq_true rfl) std_S_choice_19 ⟨Nat.le_of_ble_eq_true rfl, Nat.le_of_ble_eq_true rfl⟩ [] [0, 1, 2, 3, 4, 5] rfl rfl rfl rfl (by decide) (fun r9 u10 h11 => ?_)
      subst h11
      refine g_ws (ws' := [(s0, .inr (0, [.ref t0, .ref y0, .ref f0, .ref n0, .int (iI (bI H))])), (hs, .inl (cI, aI 12 fsz)), (hc, .inl (cI, aI 72 fco)), (hf, .inl (cI, aI 72 ffu)), (hg, .inl (cI, aI 72 fsu)), (t0, .inr (1, [.int (iI steps), .int (iI choices), .int (iI bars), .ref hs, .ref hc, .ref hf, .ref hg, .ref hb, .ref he, .ref hm]))]) rfl ?_
      refine g_ifeq_b (tgt := 33) C std_S_choice_22 (by decide) (fun c12 => ?_) (fun c12 => ?_)
      · refine g_ldc C (z := (-2000000)) (List.mem_cons_of_mem _ kw_1_228) (by decide) std_S_choice_33 ?_
        refine g_sub (ws' := [(s0, .inr (0, [.ref t0, .ref y0, .ref f0, .ref n0, .int (iI (bI H))])), (t0, .inr (1, [.int (iI steps), .int (iI choices), .int (iI bars), .ref hs, .ref hc, .ref hf, .ref hg, .ref hb, .ref he, .ref hm])), (hs, .inl (cI, aI 12 fsz)), (hc, .inl (cI, aI 72 fco)), (hf, .inl (cI, aI 72 ffu)), (hg, .inl (cI, aI 72 fsu))]) [0, 5, 1, 2, 3, 4] rfl rfl ?_
        refine g_wide (k := 0) (n := 0) (Nat.le_of_ble_eq_true rfl) (Nat.le_of_ble_eq_true rfl) ?_
        exact hret _ _ _ (H, choices, fsz, fco, ffu, fsu) (Or.inl ⟨by omega, rfl, rfl⟩) std_S_choice_35
      · refine g_iload C 4 std_S_choice_25 rfl ?_
        refine g_S_i (wc := []) (wr := [(s0, .inr (0, [.ref t0, .ref y0, .ref f0, .ref n0, .int (iI (bI H))])), (hs, .inl (cI, aI 12 fsz)), (hc, .inl (cI, aI 72 fco)), (hf, .inl (cI, aI 72 ffu)), (hg, .inl (cI, aI 72 fsu)), (t0, .inr (1, [.int (iI steps), .int (iI choices), .int (iI bars), .ref hs, .ref hc, .ref hf, .ref hg, .ref hb, .ref he, .ref hm]))]) (rest := []) C (c_isUse l dC dI cI cJ cZ z (by omega)) (st_cS C kw_1_227 kw_1_225 kw_1_1 kw_1_226 sth_S_isUse ⟨Nat.le_of_ble_eq_true rfl, Nat.le_of_ble_eq_true rfl⟩) rfl rfl (Nat.le_of_ble_eq_true rfl) std_S_choice_27 ⟨Nat.le_of_ble_eq_true rfl, Nat.le_of_ble_eq_true rfl⟩ [] [0, 1, 2, 3, 4, 5] rfl rfl rfl rfl (by decide) (fun r13 u14 h15 => ?_)
        subst h15
        refine g_ws (ws' := [(s0, .inr (0, [.ref t0, .ref y0, .ref f0, .ref n0, .int (iI (bI H))])), (hs, .inl (cI, aI 12 fsz)), (hc, .inl (cI, aI 72 fco)), (hf, .inl (cI, aI 72 ffu)), (hg, .inl (cI, aI 72 fsu)), (t0, .inr (1, [.int (iI steps), .int (iI choices), .int (iI bars), .ref hs, .ref hc, .ref hf, .ref hg, .ref hb, .ref he, .ref hm]))]) rfl ?_
        refine g_ifne_b (tgt := 36) C std_S_choice_30 (by decide) (fun c16 => ?_) (fun c16 => ?_)
        · have hqa := ksz a (by omega) (by omega)
          refine g_aload_n C 0 std_S_choice_36 rfl ?_
          refine g_get C (st_sub sti_S) 0 rfl rfl 0 (by decide) (List.mem_cons_of_mem _ kw_1_189) rfl rfl std_S_choice_37 ?_
          refine g_get C (st_sub sti_T) 5 rfl rfl 3 (by decide) (List.mem_cons_of_mem _ kw_1_34) rfl rfl std_S_choice_40 ?_
          refine g_iload_n C 1 std_S_choice_43 rfl ?_
          refine g_iald C 1 0 rfl rfl (by omega) (by omega) (by omega) std_S_choice_44 ?_
          refine g_bipush C std_S_choice_45 (by decide) ?_
          refine g_icmp_lt (tgt := 53) C std_S_choice_47 (by decide) ⟨by omega, by omega⟩ ⟨by omega, by omega⟩ (fun c17 => ?_) (fun c17 => ?_)
          · refine g_aload_n C 0 std_S_choice_53 rfl ?_
            refine g_iconst C std_S_choice_54 ?_
            refine g_put C (ws' := [(s0, .inr (0, [.ref t0, .ref y0, .ref f0, .ref n0, .int (iI 0)])), (hs, .inl (cI, aI 12 fsz)), (hc, .inl (cI, aI 72 fco)), (hf, .inl (cI, aI 72 ffu)), (hg, .inl (cI, aI 72 fsu)), (t0, .inr (1, [.int (iI steps), .int (iI choices), .int (iI bars), .ref hs, .ref hc, .ref hf, .ref hg, .ref hb, .ref he, .ref hm]))]) (st_sub sti_S) stt_S sto_S stn_S 0 rfl rfl 4 (by decide) (List.mem_cons_of_mem _ kw_1_193) rfl rfl (by decide) (by decide) (Nat.le_of_ble_eq_true rfl) std_S_choice_55 rfl ?_
            refine g_aload_n C 0 std_S_choice_58 rfl ?_
            refine g_get C (st_sub sti_S) 0 rfl rfl 0 (by decide) (List.mem_cons_of_mem _ kw_1_189) rfl rfl std_S_choice_59 ?_
            refine g_iload_n C 1 std_S_choice_62 rfl ?_
            refine g_iload_n C 2 std_S_choice_63 rfl ?_
            refine g_iload_n C 3 std_S_choice_64 rfl ?_
            refine g_iload C 4 std_S_choice_65 rfl ?_
            refine g_V_i (wc := [(t0, .inr (1, [.int (iI steps), .int (iI choices), .int (iI bars), .ref hs, .ref hc, .ref hf, .ref hg, .ref hb, .ref he, .ref hm])), (hs, .inl (cI, aI 12 fsz)), (hc, .inl (cI, aI 72 fco)), (hf, .inl (cI, aI 72 ffu)), (hg, .inl (cI, aI 72 fsu))]) (wr := [(s0, .inr (0, [.ref t0, .ref y0, .ref f0, .ref n0, .int (iI 0)]))]) (rest := []) C (c_addChoice l dC dI cI cJ cZ t0 hs hc hf hg hb he hm steps choices bars fsz fco ffu fsu a x y z (by omega) (by omega)) (st_cV C kw_1_232 kw_1_229 kw_1_2 kw_1_230 kw_1_231 sth_T_addChoice ⟨Nat.le_of_ble_eq_true rfl, Nat.le_of_ble_eq_true rfl⟩) 0 rfl rfl rfl rfl (Nat.le_of_ble_eq_true rfl) std_S_choice_67 ⟨Nat.le_of_ble_eq_true rfl, Nat.le_of_ble_eq_true rfl⟩ [5, 1, 2, 3, 4] [0] rfl rfl rfl rfl (by decide) (fun r18 u19 h20 => ?_)
            subst h20
            refine g_ws (ws' := [(s0, .inr (0, [.ref t0, .ref y0, .ref f0, .ref n0, .int (iI 0)])), (t0, .inr (1, [.int (iI steps), .int (iI (choices + 1)), .int (iI bars), .ref hs, .ref hc, .ref hf, .ref hg, .ref hb, .ref he, .ref hm])), (hs, .inl (cI, aI 12 (uZ fsz a ((fsz a) + 1)))), (hc, .inl (cI, aI 72 (uZ fco ((a * 6) + (fsz a)) x))), (hf, .inl (cI, aI 72 (uZ ffu ((a * 6) + (fsz a)) y))), (hg, .inl (cI, aI 72 (uZ fsu ((a * 6) + (fsz a)) z)))]) rfl ?_
            refine g_wide (k := 0) (n := 0) (Nat.le_of_ble_eq_true rfl) (Nat.le_of_ble_eq_true rfl) ?_
            refine g_ws (ws' := [(s0, .inr (0, [.ref t0, .ref y0, .ref f0, .ref n0, .int (iI (bI False))])), (t0, .inr (1, [.int (iI steps), .int (iI (choices + 1)), .int (iI bars), .ref hs, .ref hc, .ref hf, .ref hg, .ref hb, .ref he, .ref hm])), (hs, .inl (cI, aI 12 (uZ fsz a ((fsz a) + 1)))), (hc, .inl (cI, aI 72 (uZ fco ((a * 6) + (fsz a)) x))), (hf, .inl (cI, aI 72 (uZ ffu ((a * 6) + (fsz a)) y))), (hg, .inl (cI, aI 72 (uZ fsu ((a * 6) + (fsz a)) z)))]) (by rw [show bI False = 0 from bI_f id]) ?_
            exact hret _ _ _ (False, (choices + 1), (uZ fsz a ((fsz a) + 1)), (uZ fco ((a * 6) + (fsz a)) x), (uZ ffu ((a * 6) + (fsz a)) y), (uZ fsu ((a * 6) + (fsz a)) z)) (Or.inr (Or.inr (⟨by omega, rfl, rfl⟩))) std_S_choice_70
          · refine g_ldc C (z := (-3000000)) (List.mem_cons_of_mem _ kw_1_209) (by decide) std_S_choice_50 ?_
            refine g_sub (ws' := [(s0, .inr (0, [.ref t0, .ref y0, .ref f0, .ref n0, .int (iI (bI H))])), (t0, .inr (1, [.int (iI steps), .int (iI choices), .int (iI bars), .ref hs, .ref hc, .ref hf, .ref hg, .ref hb, .ref he, .ref hm])), (hs, .inl (cI, aI 12 fsz)), (hc, .inl (cI, aI 72 fco)), (hf, .inl (cI, aI 72 ffu)), (hg, .inl (cI, aI 72 fsu))]) [0, 5, 1, 2, 3, 4] rfl rfl ?_
            refine g_wide (k := 0) (n := 0) (Nat.le_of_ble_eq_true rfl) (Nat.le_of_ble_eq_true rfl) ?_
            exact hret _ _ _ (H, choices, fsz, fco, ffu, fsu) (Or.inr (Or.inl ⟨by omega, rfl, rfl⟩)) std_S_choice_52
        · refine g_ldc C (z := (-2000000)) (List.mem_cons_of_mem _ kw_1_228) (by decide) std_S_choice_33 ?_
          refine g_sub (ws' := [(s0, .inr (0, [.ref t0, .ref y0, .ref f0, .ref n0, .int (iI (bI H))])), (t0, .inr (1, [.int (iI steps), .int (iI choices), .int (iI bars), .ref hs, .ref hc, .ref hf, .ref hg, .ref hb, .ref he, .ref hm])), (hs, .inl (cI, aI 12 fsz)), (hc, .inl (cI, aI 72 fco)), (hf, .inl (cI, aI 72 ffu)), (hg, .inl (cI, aI 72 fsu))]) [0, 5, 1, 2, 3, 4] rfl rfl ?_
          refine g_wide (k := 0) (n := 0) (Nat.le_of_ble_eq_true rfl) (Nat.le_of_ble_eq_true rfl) ?_
          exact hret _ _ _ (H, choices, fsz, fco, ffu, fsu) (Or.inl ⟨by omega, rfl, rfl⟩) std_S_choice_35

abbrev sty_S_cost : MethodName := ⟨"StateTables", "cost", "(III)I"⟩
abbrev stc_S_cost : ByteArray := prog_1_method_4_code
theorem sth_S_cost : (sty_S_cost).cls ≠ "java/lang/invoke/MethodHandle" ∧ (sty_S_cost).cls ≠ "java/lang/invoke/VarHandle" ∧ (parseMethodDescriptor (sty_S_cost).desc).map (fun d => d.parameters.length) = some 3 := by decide +kernel
theorem std_S_cost_0 : decode stc_S_cost 0 = .ok (.aload_n 0, 1) := by decide +kernel
theorem std_S_cost_1 : decode stc_S_cost 1 = .ok (.getfield 12, 3) := by decide +kernel
theorem std_S_cost_4 : decode stc_S_cost 4 = .ok (.iload_n 1, 1) := by decide +kernel
theorem std_S_cost_5 : decode stc_S_cost 5 = .ok (.iload_n 2, 1) := by decide +kernel
theorem std_S_cost_6 : decode stc_S_cost 6 = .ok (.invokevirtual 73, 3) := by decide +kernel
theorem std_S_cost_9 : decode stc_S_cost 9 = .ok (.ifCond .eq 10, 3) := by decide +kernel
theorem std_S_cost_19 : decode stc_S_cost 19 = .ok (.ldc 64, 2) := by decide +kernel
theorem std_S_cost_21 : decode stc_S_cost 21 = .ok (.ireturn, 1) := by decide +kernel
theorem std_S_cost_12 : decode stc_S_cost 12 = .ok (.iload_n 3, 1) := by decide +kernel
theorem std_S_cost_13 : decode stc_S_cost 13 = .ok (.invokestatic 58, 3) := by decide +kernel
theorem std_S_cost_16 : decode stc_S_cost 16 = .ok (.ifCond .ne 6, 3) := by decide +kernel
theorem std_S_cost_22 : decode stc_S_cost 22 = .ok (.aload_n 0, 1) := by decide +kernel
theorem std_S_cost_23 : decode stc_S_cost 23 = .ok (.iconst 0, 1) := by decide +kernel
theorem std_S_cost_24 : decode stc_S_cost 24 = .ok (.putfield 41, 3) := by decide +kernel
theorem std_S_cost_27 : decode stc_S_cost 27 = .ok (.aload_n 0, 1) := by decide +kernel
theorem std_S_cost_28 : decode stc_S_cost 28 = .ok (.getfield 12, 3) := by decide +kernel
theorem std_S_cost_31 : decode stc_S_cost 31 = .ok (.iload_n 1, 1) := by decide +kernel
theorem std_S_cost_32 : decode stc_S_cost 32 = .ok (.iload_n 2, 1) := by decide +kernel
theorem std_S_cost_33 : decode stc_S_cost 33 = .ok (.iload_n 3, 1) := by decide +kernel
theorem std_S_cost_34 : decode stc_S_cost 34 = .ok (.invokevirtual 77, 3) := by decide +kernel
theorem kw_2_8 : Cond.code sty_T_changeCost stc_T_changeCost 6 (some .int) ∈ stGW := st_t2 (List.mem_of_getElem? (i := 8) (by decide +kernel)) (by decide +kernel)
theorem kw_2_5 : Cond.methodLink "StateTables" 77 (sty_T_changeCost) ∈ stGW := st_t2 (List.mem_of_getElem? (i := 5) (by decide +kernel)) (by decide +kernel)
theorem kw_2_6 : Cond.instanceMethod (sty_T_changeCost) ∈ stGW := st_t2 (List.mem_of_getElem? (i := 6) (by decide +kernel)) (by decide +kernel)
theorem kw_2_7 : Cond.selects "StateTables$Told" (sty_T_changeCost) (sty_T_changeCost) ∈ stGW := st_t2 (List.mem_of_getElem? (i := 7) (by decide +kernel)) (by decide +kernel)
theorem std_S_cost_37 : decode stc_S_cost 37 = .ok (.ireturn, 1) := by decide +kernel
set_option maxHeartbeats 4000000 in
set_option maxRecDepth 100000 in
theorem c_cost (l : Launch) (dC : Nat → ClassId) (dI : Nat → Nat → Nat) (cI cJ cZ : ClassId) (s0 : Nat) (n0 : Nat) (H : Prop) (t0 : Nat) (hs : Nat) (hc : Nat) (hf : Nat) (hg : Nat) (hb : Nat) (he : Nat) (hm : Nat) (steps : Int) (choices : Int) (bars : Int) (y0 : Nat) (f0 : Nat) (fsz : Int → Int) (fco : Int → Int) (a : Int) (b : Int) (x : Int) (kst : 0 ≤ steps ∧ steps ≤ 12) (ksz : ∀ j, 0 ≤ j → j < 12 → 0 ≤ fsz j ∧ fsz j ≤ 6) (ka : rI a) (kb : rI b) (kx : rI x) : ∀ sz, Met l sty_S_cost (Cond.code sty_S_cost stc_S_cost 4 (some .int) :: stGW) ({ frames := 2, cells := 0, slots := 0, locals := 46 } : Room) (va_Pc [.ref s0, .int (iI a), .int (iI b), .int (iI x)] (zPre (dC, dI) stCl [(cI, .int), (cJ, .long), (cZ, .boolean)] st_nw [(s0, .inr (0, [.ref t0, .ref y0, .ref f0, .ref n0, .int (iI (bI H))])), (t0, .inr (1, [.int (iI steps), .int (iI choices), .int (iI bars), .ref hs, .ref hc, .ref hf, .ref hg, .ref hb, .ref he, .ref hm])), (hs, .inl (cI, aI 12 fsz)), (hc, .inl (cI, aI 72 fco))] sz)) (va_Qi (fun (r : Int32) (u : Prop × (Int → Int)) => (¬ (((0 ≤ a ∧ a < steps) ∧ 0 ≤ b ∧ b < fsz a) ∧ -1000 ≤ x ∧ x ≤ 1000) ∧ r = iI (-2000000) ∧ u = (H, fco)) ∨ ((((0 ≤ a ∧ a < steps) ∧ 0 ≤ b ∧ b < fsz a) ∧ -1000 ≤ x ∧ x ≤ 1000) ∧ r = iI (fco ((a * 6) + b)) ∧ u = (False, (uZ fco ((a * 6) + b) x)))) (zPost (dC, dI) stCl [(cI, .int), (cJ, .long), (cZ, .boolean)] [(s0, .inr (0, [.ref t0, .ref y0, .ref f0, .ref n0, .int (iI (bI H))])), (t0, .inr (1, [.int (iI steps), .int (iI choices), .int (iI bars), .ref hs, .ref hc, .ref hf, .ref hg, .ref hb, .ref he, .ref hm])), (hs, .inl (cI, aI 12 fsz)), (hc, .inl (cI, aI 72 fco))] sz (fun u : Prop × (Int → Int) => [(s0, .inr (0, [.ref t0, .ref y0, .ref f0, .ref n0, .int (iI (bI u.1))])), (t0, .inr (1, [.int (iI steps), .int (iI choices), .int (iI bars), .ref hs, .ref hc, .ref hf, .ref hg, .ref hb, .ref he, .ref hm])), (hs, .inl (cI, aI 12 fsz)), (hc, .inl (cI, aI 72 (u.2)))])) (va_A [(s0, .inr (0, [.ref t0, .ref y0, .ref f0, .ref n0, .int (iI (bI H))])), (t0, .inr (1, [.int (iI steps), .int (iI choices), .int (iI bars), .ref hs, .ref hc, .ref hf, .ref hg, .ref hb, .ref he, .ref hm])), (hs, .inl (cI, aI 12 fsz)), (hc, .inl (cI, aI 72 fco))] sz)) 0 0 (va_A [(s0, .inr (0, [.ref t0, .ref y0, .ref f0, .ref n0, .int (iI (bI H))])), (t0, .inr (1, [.int (iI steps), .int (iI choices), .int (iI bars), .ref hs, .ref hc, .ref hf, .ref hg, .ref hb, .ref he, .ref hm])), (hs, .inl (cI, aI 12 fsz)), (hc, .inl (cI, aI 72 fco))] sz) := by
  refine met_i (by decide) rfl (Nat.le_of_ble_eq_true rfl) ?_
  intro p e s m below meth c A Q C hmn hret
  refine g_aload_n C 0 std_S_cost_0 rfl ?_
  refine g_get C (st_sub sti_S) 0 rfl rfl 0 (by decide) (List.mem_cons_of_mem _ kw_1_189) rfl rfl std_S_cost_1 ?_
  refine g_iload_n C 1 std_S_cost_4 rfl ?_
  refine g_iload_n C 2 std_S_cost_5 rfl ?_
  refine g_V_i (wc := [(t0, .inr (1, [.int (iI steps), .int (iI choices), .int (iI bars), .ref hs, .ref hc, .ref hf, .ref hg, .ref hb, .ref he, .ref hm])), (hs, .inl (cI, aI 12 fsz))]) (wr := [(s0, .inr (0, [.ref t0, .ref y0, .ref f0, .ref n0, .int (iI (bI H))])), (hc, .inl (cI, aI 72 fco))]) (rest := []) C (c_hasChoice l dC dI cI cJ cZ t0 hs hc hf hg hb he hm steps choices bars fsz a b (kst) (ksz) (by omega) (by omega)) (st_cV C kw_2_3 kw_2_0 kw_1_2 kw_2_1 kw_2_2 sth_T_hasChoice ⟨Nat.le_of_ble_eq_true rfl, Nat.le_of_ble_eq_true rfl⟩) 0 rfl rfl rfl rfl (Nat.le_of_ble_eq_true rfl) std_S_cost_6 ⟨Nat.le_of_ble_eq_true rfl, Nat.le_of_ble_eq_true rfl⟩ [1, 2] [0, 3] rfl rfl rfl rfl (by decide) (fun r1 u2 h3 => ?_)
  subst h3
  refine g_ws (ws' := [(s0, .inr (0, [.ref t0, .ref y0, .ref f0, .ref n0, .int (iI (bI H))])), (hc, .inl (cI, aI 72 fco)), (t0, .inr (1, [.int (iI steps), .int (iI choices), .int (iI bars), .ref hs, .ref hc, .ref hf, .ref hg, .ref hb, .ref he, .ref hm])), (hs, .inl (cI, aI 12 fsz))]) rfl ?_
  refine g_ifeq_b (tgt := 19) C std_S_cost_9 (by decide) (fun c4 => ?_) (fun c4 => ?_)
  · refine g_ldc C (z := (-2000000)) (List.mem_cons_of_mem _ kw_1_228) (by decide) std_S_cost_19 ?_
    refine g_sub (ws' := [(s0, .inr (0, [.ref t0, .ref y0, .ref f0, .ref n0, .int (iI (bI H))])), (t0, .inr (1, [.int (iI steps), .int (iI choices), .int (iI bars), .ref hs, .ref hc, .ref hf, .ref hg, .ref hb, .ref he, .ref hm])), (hs, .inl (cI, aI 12 fsz)), (hc, .inl (cI, aI 72 fco))]) [0, 2, 3, 1] rfl rfl ?_
    refine g_wide (k := 0) (n := 0) (Nat.le_of_ble_eq_true rfl) (Nat.le_of_ble_eq_true rfl) ?_
    exact hret _ _ _ (H, fco) (Or.inl ⟨by omega, rfl, rfl⟩) std_S_cost_21
  · refine g_iload_n C 3 std_S_cost_12 rfl ?_
    refine g_S_i (wc := []) (wr := [(s0, .inr (0, [.ref t0, .ref y0, .ref f0, .ref n0, .int (iI (bI H))])), (hc, .inl (cI, aI 72 fco)), (t0, .inr (1, [.int (iI steps), .int (iI choices), .int (iI bars), .ref hs, .ref hc, .ref hf, .ref hg, .ref hb, .ref he, .ref hm])), (hs, .inl (cI, aI 12 fsz))]) (rest := []) C (c_isCost l dC dI cI cJ cZ x (by omega)) (st_cS C kw_1_224 kw_1_222 kw_1_1 kw_1_223 sth_S_isCost ⟨Nat.le_of_ble_eq_true rfl, Nat.le_of_ble_eq_true rfl⟩) rfl rfl (Nat.le_of_ble_eq_true rfl) std_S_cost_13 ⟨Nat.le_of_ble_eq_true rfl, Nat.le_of_ble_eq_true rfl⟩ [] [0, 1, 2, 3] rfl rfl rfl rfl (by decide) (fun r5 u6 h7 => ?_)
    subst h7
    refine g_ws (ws' := [(s0, .inr (0, [.ref t0, .ref y0, .ref f0, .ref n0, .int (iI (bI H))])), (hc, .inl (cI, aI 72 fco)), (t0, .inr (1, [.int (iI steps), .int (iI choices), .int (iI bars), .ref hs, .ref hc, .ref hf, .ref hg, .ref hb, .ref he, .ref hm])), (hs, .inl (cI, aI 12 fsz))]) rfl ?_
    refine g_ifne_b (tgt := 22) C std_S_cost_16 (by decide) (fun c8 => ?_) (fun c8 => ?_)
    · have hqa := ksz a (by omega) (by omega)
      refine g_aload_n C 0 std_S_cost_22 rfl ?_
      refine g_iconst C std_S_cost_23 ?_
      refine g_put C (ws' := [(s0, .inr (0, [.ref t0, .ref y0, .ref f0, .ref n0, .int (iI 0)])), (hc, .inl (cI, aI 72 fco)), (t0, .inr (1, [.int (iI steps), .int (iI choices), .int (iI bars), .ref hs, .ref hc, .ref hf, .ref hg, .ref hb, .ref he, .ref hm])), (hs, .inl (cI, aI 12 fsz))]) (st_sub sti_S) stt_S sto_S stn_S 0 rfl rfl 4 (by decide) (List.mem_cons_of_mem _ kw_1_193) rfl rfl (by decide) (by decide) (Nat.le_of_ble_eq_true rfl) std_S_cost_24 rfl ?_
      refine g_aload_n C 0 std_S_cost_27 rfl ?_
      refine g_get C (st_sub sti_S) 0 rfl rfl 0 (by decide) (List.mem_cons_of_mem _ kw_1_189) rfl rfl std_S_cost_28 ?_
      refine g_iload_n C 1 std_S_cost_31 rfl ?_
      refine g_iload_n C 2 std_S_cost_32 rfl ?_
      refine g_iload_n C 3 std_S_cost_33 rfl ?_
      refine g_V_i (wc := [(t0, .inr (1, [.int (iI steps), .int (iI choices), .int (iI bars), .ref hs, .ref hc, .ref hf, .ref hg, .ref hb, .ref he, .ref hm])), (hc, .inl (cI, aI 72 fco))]) (wr := [(s0, .inr (0, [.ref t0, .ref y0, .ref f0, .ref n0, .int (iI 0)])), (hs, .inl (cI, aI 12 fsz))]) (rest := []) C (c_changeCost l dC dI cI cJ cZ t0 hs hc hf hg hb he hm steps choices bars fco a b x (by omega) (by omega)) (st_cV C kw_2_8 kw_2_5 kw_1_2 kw_2_6 kw_2_7 sth_T_changeCost ⟨Nat.le_of_ble_eq_true rfl, Nat.le_of_ble_eq_true rfl⟩) 0 rfl rfl rfl rfl (Nat.le_of_ble_eq_true rfl) std_S_cost_34 ⟨Nat.le_of_ble_eq_true rfl, Nat.le_of_ble_eq_true rfl⟩ [2, 1] [0, 3] rfl rfl rfl rfl (by decide) (fun r9 u10 h11 => ?_)
      subst h11
      refine g_ws (ws' := [(s0, .inr (0, [.ref t0, .ref y0, .ref f0, .ref n0, .int (iI 0)])), (hs, .inl (cI, aI 12 fsz)), (t0, .inr (1, [.int (iI steps), .int (iI choices), .int (iI bars), .ref hs, .ref hc, .ref hf, .ref hg, .ref hb, .ref he, .ref hm])), (hc, .inl (cI, aI 72 (uZ fco ((a * 6) + b) x)))]) rfl ?_
      refine g_sub (ws' := [(s0, .inr (0, [.ref t0, .ref y0, .ref f0, .ref n0, .int (iI 0)])), (t0, .inr (1, [.int (iI steps), .int (iI choices), .int (iI bars), .ref hs, .ref hc, .ref hf, .ref hg, .ref hb, .ref he, .ref hm])), (hs, .inl (cI, aI 12 fsz)), (hc, .inl (cI, aI 72 (uZ fco ((a * 6) + b) x)))]) [0, 2, 1, 3] rfl rfl ?_
      refine g_wide (k := 0) (n := 0) (Nat.le_of_ble_eq_true rfl) (Nat.le_of_ble_eq_true rfl) ?_
      refine g_ws (ws' := [(s0, .inr (0, [.ref t0, .ref y0, .ref f0, .ref n0, .int (iI (bI False))])), (t0, .inr (1, [.int (iI steps), .int (iI choices), .int (iI bars), .ref hs, .ref hc, .ref hf, .ref hg, .ref hb, .ref he, .ref hm])), (hs, .inl (cI, aI 12 fsz)), (hc, .inl (cI, aI 72 (uZ fco ((a * 6) + b) x)))]) (by rw [show bI False = 0 from bI_f id]) ?_
      exact hret _ _ _ (False, (uZ fco ((a * 6) + b) x)) (Or.inr (⟨by omega, rfl, rfl⟩)) std_S_cost_37
    · refine g_ldc C (z := (-2000000)) (List.mem_cons_of_mem _ kw_1_228) (by decide) std_S_cost_19 ?_
      refine g_sub (ws' := [(s0, .inr (0, [.ref t0, .ref y0, .ref f0, .ref n0, .int (iI (bI H))])), (t0, .inr (1, [.int (iI steps), .int (iI choices), .int (iI bars), .ref hs, .ref hc, .ref hf, .ref hg, .ref hb, .ref he, .ref hm])), (hs, .inl (cI, aI 12 fsz)), (hc, .inl (cI, aI 72 fco))]) [0, 2, 3, 1] rfl rfl ?_
      refine g_wide (k := 0) (n := 0) (Nat.le_of_ble_eq_true rfl) (Nat.le_of_ble_eq_true rfl) ?_
      exact hret _ _ _ (H, fco) (Or.inl ⟨by omega, rfl, rfl⟩) std_S_cost_21

abbrev sty_S_resource : MethodName := ⟨"StateTables", "resource", "(III)I"⟩
abbrev stc_S_resource : ByteArray := prog_1_method_5_code
theorem sth_S_resource : (sty_S_resource).cls ≠ "java/lang/invoke/MethodHandle" ∧ (sty_S_resource).cls ≠ "java/lang/invoke/VarHandle" ∧ (parseMethodDescriptor (sty_S_resource).desc).map (fun d => d.parameters.length) = some 3 := by decide +kernel
theorem std_S_resource_0 : decode stc_S_resource 0 = .ok (.iload_n 1, 1) := by decide +kernel
theorem std_S_resource_1 : decode stc_S_resource 1 = .ok (.ifCond .lt 23, 3) := by decide +kernel
theorem std_S_resource_24 : decode stc_S_resource 24 = .ok (.ldc 64, 2) := by decide +kernel
theorem std_S_resource_26 : decode stc_S_resource 26 = .ok (.ireturn, 1) := by decide +kernel
theorem std_S_resource_4 : decode stc_S_resource 4 = .ok (.iload_n 1, 1) := by decide +kernel
theorem std_S_resource_5 : decode stc_S_resource 5 = .ok (.iconst 1, 1) := by decide +kernel
theorem std_S_resource_6 : decode stc_S_resource 6 = .ok (.if_icmp .gt 18, 3) := by decide +kernel
theorem std_S_resource_9 : decode stc_S_resource 9 = .ok (.iload_n 2, 1) := by decide +kernel
theorem std_S_resource_10 : decode stc_S_resource 10 = .ok (.ifCond .lt 14, 3) := by decide +kernel
theorem std_S_resource_13 : decode stc_S_resource 13 = .ok (.iload_n 2, 1) := by decide +kernel
theorem std_S_resource_14 : decode stc_S_resource 14 = .ok (.iload_n 3, 1) := by decide +kernel
theorem std_S_resource_15 : decode stc_S_resource 15 = .ok (.if_icmp .gt 9, 3) := by decide +kernel
theorem std_S_resource_18 : decode stc_S_resource 18 = .ok (.iload_n 3, 1) := by decide +kernel
theorem std_S_resource_19 : decode stc_S_resource 19 = .ok (.bipush 40, 2) := by decide +kernel
theorem std_S_resource_21 : decode stc_S_resource 21 = .ok (.if_icmp .le 6, 3) := by decide +kernel
theorem std_S_resource_27 : decode stc_S_resource 27 = .ok (.aload_n 0, 1) := by decide +kernel
theorem std_S_resource_28 : decode stc_S_resource 28 = .ok (.iconst 0, 1) := by decide +kernel
theorem std_S_resource_29 : decode stc_S_resource 29 = .ok (.putfield 41, 3) := by decide +kernel
theorem std_S_resource_32 : decode stc_S_resource 32 = .ok (.aload_n 0, 1) := by decide +kernel
theorem std_S_resource_33 : decode stc_S_resource 33 = .ok (.getfield 12, 3) := by decide +kernel
theorem std_S_resource_36 : decode stc_S_resource 36 = .ok (.iload_n 1, 1) := by decide +kernel
theorem std_S_resource_37 : decode stc_S_resource 37 = .ok (.iload_n 2, 1) := by decide +kernel
theorem std_S_resource_38 : decode stc_S_resource 38 = .ok (.iload_n 3, 1) := by decide +kernel
theorem std_S_resource_39 : decode stc_S_resource 39 = .ok (.invokevirtual 81, 3) := by decide +kernel
theorem kw_2_16 : Cond.code sty_T_changeLimits stc_T_changeLimits 5 (some .int) ∈ stGW := st_t2 (List.mem_of_getElem? (i := 16) (by decide +kernel)) (by decide +kernel)
theorem kw_2_13 : Cond.methodLink "StateTables" 81 (sty_T_changeLimits) ∈ stGW := st_t2 (List.mem_of_getElem? (i := 13) (by decide +kernel)) (by decide +kernel)
theorem kw_2_14 : Cond.instanceMethod (sty_T_changeLimits) ∈ stGW := st_t2 (List.mem_of_getElem? (i := 14) (by decide +kernel)) (by decide +kernel)
theorem kw_2_15 : Cond.selects "StateTables$Told" (sty_T_changeLimits) (sty_T_changeLimits) ∈ stGW := st_t2 (List.mem_of_getElem? (i := 15) (by decide +kernel)) (by decide +kernel)
theorem std_S_resource_42 : decode stc_S_resource 42 = .ok (.ireturn, 1) := by decide +kernel
set_option maxHeartbeats 4000000 in
set_option maxRecDepth 100000 in
theorem c_resource (l : Launch) (dC : Nat → ClassId) (dI : Nat → Nat → Nat) (cI cJ cZ : ClassId) (s0 : Nat) (n0 : Nat) (H : Prop) (t0 : Nat) (hs : Nat) (hc : Nat) (hf : Nat) (hg : Nat) (hb : Nat) (he : Nat) (hm : Nat) (steps : Int) (choices : Int) (bars : Int) (y0 : Nat) (f0 : Nat) (fle : Int → Int) (fmo : Int → Int) (a : Int) (x : Int) (y : Int) (ka : rI a) (kx : rI x) (ky : rI y) : ∀ sz, Met l sty_S_resource (Cond.code sty_S_resource stc_S_resource 4 (some .int) :: stGW) ({ frames := 1, cells := 0, slots := 0, locals := 24 } : Room) (va_Pc [.ref s0, .int (iI a), .int (iI x), .int (iI y)] (zPre (dC, dI) stCl [(cI, .int), (cJ, .long), (cZ, .boolean)] st_nw [(s0, .inr (0, [.ref t0, .ref y0, .ref f0, .ref n0, .int (iI (bI H))])), (t0, .inr (1, [.int (iI steps), .int (iI choices), .int (iI bars), .ref hs, .ref hc, .ref hf, .ref hg, .ref hb, .ref he, .ref hm])), (he, .inl (cI, aI 2 fle)), (hm, .inl (cI, aI 2 fmo))] sz)) (va_Qi (fun (r : Int32) (u : Prop × (Int → Int) × (Int → Int)) => (¬ ((0 ≤ a ∧ a ≤ 1) ∧ (0 ≤ x ∧ x ≤ y) ∧ y ≤ 40) ∧ r = iI (-2000000) ∧ u = (H, fle, fmo)) ∨ (((0 ≤ a ∧ a ≤ 1) ∧ (0 ≤ x ∧ x ≤ y) ∧ y ≤ 40) ∧ r = iI ((100 * (fle a)) + (fmo a)) ∧ u = (False, (uZ fle a x), (uZ fmo a y)))) (zPost (dC, dI) stCl [(cI, .int), (cJ, .long), (cZ, .boolean)] [(s0, .inr (0, [.ref t0, .ref y0, .ref f0, .ref n0, .int (iI (bI H))])), (t0, .inr (1, [.int (iI steps), .int (iI choices), .int (iI bars), .ref hs, .ref hc, .ref hf, .ref hg, .ref hb, .ref he, .ref hm])), (he, .inl (cI, aI 2 fle)), (hm, .inl (cI, aI 2 fmo))] sz (fun u : Prop × (Int → Int) × (Int → Int) => [(s0, .inr (0, [.ref t0, .ref y0, .ref f0, .ref n0, .int (iI (bI u.1))])), (t0, .inr (1, [.int (iI steps), .int (iI choices), .int (iI bars), .ref hs, .ref hc, .ref hf, .ref hg, .ref hb, .ref he, .ref hm])), (he, .inl (cI, aI 2 (u.2.1))), (hm, .inl (cI, aI 2 (u.2.2)))])) (va_A [(s0, .inr (0, [.ref t0, .ref y0, .ref f0, .ref n0, .int (iI (bI H))])), (t0, .inr (1, [.int (iI steps), .int (iI choices), .int (iI bars), .ref hs, .ref hc, .ref hf, .ref hg, .ref hb, .ref he, .ref hm])), (he, .inl (cI, aI 2 fle)), (hm, .inl (cI, aI 2 fmo))] sz)) 0 0 (va_A [(s0, .inr (0, [.ref t0, .ref y0, .ref f0, .ref n0, .int (iI (bI H))])), (t0, .inr (1, [.int (iI steps), .int (iI choices), .int (iI bars), .ref hs, .ref hc, .ref hf, .ref hg, .ref hb, .ref he, .ref hm])), (he, .inl (cI, aI 2 fle)), (hm, .inl (cI, aI 2 fmo))] sz) := by
  refine met_i (by decide) rfl (Nat.le_of_ble_eq_true rfl) ?_
  intro p e s m below meth c A Q C hmn hret
  refine g_iload_n C 1 std_S_resource_0 rfl ?_
  refine g_if_lt (tgt := 24) C std_S_resource_1 (by decide) ⟨by omega, by omega⟩ (fun c1 => ?_) (fun c1 => ?_)
  · refine g_ldc C (z := (-2000000)) (List.mem_cons_of_mem _ kw_1_228) (by decide) std_S_resource_24 ?_
    exact hret _ _ _ (H, fle, fmo) (Or.inl ⟨by omega, rfl, rfl⟩) std_S_resource_26
  · refine g_iload_n C 1 std_S_resource_4 rfl ?_
    refine g_iconst C std_S_resource_5 ?_
    refine g_icmp_gt (tgt := 24) C std_S_resource_6 (by decide) ⟨by omega, by omega⟩ ⟨by omega, by omega⟩ (fun c2 => ?_) (fun c2 => ?_)
    · refine g_ldc C (z := (-2000000)) (List.mem_cons_of_mem _ kw_1_228) (by decide) std_S_resource_24 ?_
      exact hret _ _ _ (H, fle, fmo) (Or.inl ⟨by omega, rfl, rfl⟩) std_S_resource_26
    · refine g_iload_n C 2 std_S_resource_9 rfl ?_
      refine g_if_lt (tgt := 24) C std_S_resource_10 (by decide) ⟨by omega, by omega⟩ (fun c3 => ?_) (fun c3 => ?_)
      · refine g_ldc C (z := (-2000000)) (List.mem_cons_of_mem _ kw_1_228) (by decide) std_S_resource_24 ?_
        exact hret _ _ _ (H, fle, fmo) (Or.inl ⟨by omega, rfl, rfl⟩) std_S_resource_26
      · refine g_iload_n C 2 std_S_resource_13 rfl ?_
        refine g_iload_n C 3 std_S_resource_14 rfl ?_
        refine g_icmp_gt (tgt := 24) C std_S_resource_15 (by decide) ⟨by omega, by omega⟩ ⟨by omega, by omega⟩ (fun c4 => ?_) (fun c4 => ?_)
        · refine g_ldc C (z := (-2000000)) (List.mem_cons_of_mem _ kw_1_228) (by decide) std_S_resource_24 ?_
          exact hret _ _ _ (H, fle, fmo) (Or.inl ⟨by omega, rfl, rfl⟩) std_S_resource_26
        · refine g_iload_n C 3 std_S_resource_18 rfl ?_
          refine g_bipush C std_S_resource_19 (by decide) ?_
          refine g_icmp_le (tgt := 27) C std_S_resource_21 (by decide) ⟨by omega, by omega⟩ ⟨by omega, by omega⟩ (fun c5 => ?_) (fun c5 => ?_)
          · refine g_aload_n C 0 std_S_resource_27 rfl ?_
            refine g_iconst C std_S_resource_28 ?_
            refine g_put C (ws' := [(s0, .inr (0, [.ref t0, .ref y0, .ref f0, .ref n0, .int (iI 0)])), (t0, .inr (1, [.int (iI steps), .int (iI choices), .int (iI bars), .ref hs, .ref hc, .ref hf, .ref hg, .ref hb, .ref he, .ref hm])), (he, .inl (cI, aI 2 fle)), (hm, .inl (cI, aI 2 fmo))]) (st_sub sti_S) stt_S sto_S stn_S 0 rfl rfl 4 (by decide) (List.mem_cons_of_mem _ kw_1_193) rfl rfl (by decide) (by decide) (Nat.le_of_ble_eq_true rfl) std_S_resource_29 rfl ?_
            refine g_aload_n C 0 std_S_resource_32 rfl ?_
            refine g_get C (st_sub sti_S) 0 rfl rfl 0 (by decide) (List.mem_cons_of_mem _ kw_1_189) rfl rfl std_S_resource_33 ?_
            refine g_iload_n C 1 std_S_resource_36 rfl ?_
            refine g_iload_n C 2 std_S_resource_37 rfl ?_
            refine g_iload_n C 3 std_S_resource_38 rfl ?_
            refine g_V_i (wc := [(t0, .inr (1, [.int (iI steps), .int (iI choices), .int (iI bars), .ref hs, .ref hc, .ref hf, .ref hg, .ref hb, .ref he, .ref hm])), (he, .inl (cI, aI 2 fle)), (hm, .inl (cI, aI 2 fmo))]) (wr := [(s0, .inr (0, [.ref t0, .ref y0, .ref f0, .ref n0, .int (iI 0)]))]) (rest := []) C (c_changeLimits l dC dI cI cJ cZ t0 hs hc hf hg hb he hm steps choices bars fle fmo a x y (by omega)) (st_cV C kw_2_16 kw_2_13 kw_1_2 kw_2_14 kw_2_15 sth_T_changeLimits ⟨Nat.le_of_ble_eq_true rfl, Nat.le_of_ble_eq_true rfl⟩) 0 rfl rfl rfl rfl (Nat.le_of_ble_eq_true rfl) std_S_resource_39 ⟨Nat.le_of_ble_eq_true rfl, Nat.le_of_ble_eq_true rfl⟩ [1, 2, 3] [0] rfl rfl rfl rfl (by decide) (fun r6 u7 h8 => ?_)
            subst h8
            refine g_ws (ws' := [(s0, .inr (0, [.ref t0, .ref y0, .ref f0, .ref n0, .int (iI 0)])), (t0, .inr (1, [.int (iI steps), .int (iI choices), .int (iI bars), .ref hs, .ref hc, .ref hf, .ref hg, .ref hb, .ref he, .ref hm])), (he, .inl (cI, aI 2 (uZ fle a x))), (hm, .inl (cI, aI 2 (uZ fmo a y)))]) rfl ?_
            refine g_wide (k := 0) (n := 0) (Nat.le_of_ble_eq_true rfl) (Nat.le_of_ble_eq_true rfl) ?_
            refine g_ws (ws' := [(s0, .inr (0, [.ref t0, .ref y0, .ref f0, .ref n0, .int (iI (bI False))])), (t0, .inr (1, [.int (iI steps), .int (iI choices), .int (iI bars), .ref hs, .ref hc, .ref hf, .ref hg, .ref hb, .ref he, .ref hm])), (he, .inl (cI, aI 2 (uZ fle a x))), (hm, .inl (cI, aI 2 (uZ fmo a y)))]) (by rw [show bI False = 0 from bI_f id]) ?_
            exact hret _ _ _ (False, (uZ fle a x), (uZ fmo a y)) (Or.inr (⟨by omega, rfl, rfl⟩)) std_S_resource_42
          · refine g_ldc C (z := (-2000000)) (List.mem_cons_of_mem _ kw_1_228) (by decide) std_S_resource_24 ?_
            exact hret _ _ _ (H, fle, fmo) (Or.inl ⟨by omega, rfl, rfl⟩) std_S_resource_26

abbrev sty_S_bar : MethodName := ⟨"StateTables", "bar", "(IIIZ)I"⟩
abbrev stc_S_bar : ByteArray := prog_1_method_6_code
theorem sth_S_bar : (sty_S_bar).cls ≠ "java/lang/invoke/MethodHandle" ∧ (sty_S_bar).cls ≠ "java/lang/invoke/VarHandle" ∧ (parseMethodDescriptor (sty_S_bar).desc).map (fun d => d.parameters.length) = some 4 := by decide +kernel
theorem std_S_bar_0 : decode stc_S_bar 0 = .ok (.aload_n 0, 1) := by decide +kernel
theorem std_S_bar_1 : decode stc_S_bar 1 = .ok (.getfield 12, 3) := by decide +kernel
theorem std_S_bar_4 : decode stc_S_bar 4 = .ok (.iload_n 1, 1) := by decide +kernel
theorem std_S_bar_5 : decode stc_S_bar 5 = .ok (.iload_n 2, 1) := by decide +kernel
theorem std_S_bar_6 : decode stc_S_bar 6 = .ok (.invokevirtual 73, 3) := by decide +kernel
theorem std_S_bar_9 : decode stc_S_bar 9 = .ok (.ifCond .eq 17, 3) := by decide +kernel
theorem std_S_bar_26 : decode stc_S_bar 26 = .ok (.ldc 64, 2) := by decide +kernel
theorem std_S_bar_28 : decode stc_S_bar 28 = .ok (.ireturn, 1) := by decide +kernel
theorem std_S_bar_12 : decode stc_S_bar 12 = .ok (.aload_n 0, 1) := by decide +kernel
theorem std_S_bar_13 : decode stc_S_bar 13 = .ok (.getfield 12, 3) := by decide +kernel
theorem std_S_bar_16 : decode stc_S_bar 16 = .ok (.iload_n 1, 1) := by decide +kernel
theorem std_S_bar_17 : decode stc_S_bar 17 = .ok (.iconst 1, 1) := by decide +kernel
theorem std_S_bar_18 : decode stc_S_bar 18 = .ok (.iadd, 1) := by decide +kernel
theorem std_S_bar_19 : decode stc_S_bar 19 = .ok (.iload_n 3, 1) := by decide +kernel
theorem std_S_bar_20 : decode stc_S_bar 20 = .ok (.invokevirtual 73, 3) := by decide +kernel
theorem std_S_bar_23 : decode stc_S_bar 23 = .ok (.ifCond .ne 6, 3) := by decide +kernel
theorem std_S_bar_29 : decode stc_S_bar 29 = .ok (.aload_n 0, 1) := by decide +kernel
theorem std_S_bar_30 : decode stc_S_bar 30 = .ok (.iconst 0, 1) := by decide +kernel
theorem std_S_bar_31 : decode stc_S_bar 31 = .ok (.putfield 41, 3) := by decide +kernel
theorem std_S_bar_34 : decode stc_S_bar 34 = .ok (.aload_n 0, 1) := by decide +kernel
theorem std_S_bar_35 : decode stc_S_bar 35 = .ok (.getfield 12, 3) := by decide +kernel
theorem std_S_bar_38 : decode stc_S_bar 38 = .ok (.iload_n 1, 1) := by decide +kernel
theorem std_S_bar_39 : decode stc_S_bar 39 = .ok (.iload_n 2, 1) := by decide +kernel
theorem std_S_bar_40 : decode stc_S_bar 40 = .ok (.iload_n 3, 1) := by decide +kernel
theorem std_S_bar_41 : decode stc_S_bar 41 = .ok (.iload 4, 2) := by decide +kernel
theorem std_S_bar_43 : decode stc_S_bar 43 = .ok (.invokevirtual 84, 3) := by decide +kernel
theorem kw_2_24 : Cond.code sty_T_changeBar stc_T_changeBar 8 (some .int) ∈ stGW := st_t2 (List.mem_of_getElem? (i := 24) (by decide +kernel)) (by decide +kernel)
theorem kw_2_21 : Cond.methodLink "StateTables" 84 (sty_T_changeBar) ∈ stGW := st_t2 (List.mem_of_getElem? (i := 21) (by decide +kernel)) (by decide +kernel)
theorem kw_2_22 : Cond.instanceMethod (sty_T_changeBar) ∈ stGW := st_t2 (List.mem_of_getElem? (i := 22) (by decide +kernel)) (by decide +kernel)
theorem kw_2_23 : Cond.selects "StateTables$Told" (sty_T_changeBar) (sty_T_changeBar) ∈ stGW := st_t2 (List.mem_of_getElem? (i := 23) (by decide +kernel)) (by decide +kernel)
theorem std_S_bar_46 : decode stc_S_bar 46 = .ok (.ireturn, 1) := by decide +kernel
set_option maxHeartbeats 4000000 in
set_option maxRecDepth 100000 in
theorem c_bar (l : Launch) (dC : Nat → ClassId) (dI : Nat → Nat → Nat) (cI cJ cZ : ClassId) (s0 : Nat) (n0 : Nat) (H : Prop) (t0 : Nat) (hs : Nat) (hc : Nat) (hf : Nat) (hg : Nat) (hb : Nat) (he : Nat) (hm : Nat) (steps : Int) (choices : Int) (bars : Int) (y0 : Nat) (f0 : Nat) (fsz : Int → Int) (fbb : Int → Int) (a : Int) (x : Int) (b : Int) (v : Prop) (kst : 0 ≤ steps ∧ steps ≤ 12) (ksz : ∀ j, 0 ≤ j → j < 12 → 0 ≤ fsz j ∧ fsz j ≤ 6) (ka : rI a) (kx : rI x) (kb : rI b) (kbb : ∀ j, 0 ≤ j → j < 72 → 0 ≤ fbb j ∧ fbb j < 64) : ∀ sz, Met l sty_S_bar (Cond.code sty_S_bar stc_S_bar 5 (some .int) :: stGW) ({ frames := 2, cells := 0, slots := 0, locals := 48 } : Room) (va_Pc [.ref s0, .int (iI a), .int (iI x), .int (iI b), .int (iI (bI v))] (zPre (dC, dI) stCl [(cI, .int), (cJ, .long), (cZ, .boolean)] st_nw [(s0, .inr (0, [.ref t0, .ref y0, .ref f0, .ref n0, .int (iI (bI H))])), (t0, .inr (1, [.int (iI steps), .int (iI choices), .int (iI bars), .ref hs, .ref hc, .ref hf, .ref hg, .ref hb, .ref he, .ref hm])), (hs, .inl (cI, aI 12 fsz)), (hb, .inl (cI, aI 72 fbb))] sz)) (va_Qi (fun (r : Int32) (u : Prop × Int × (Int → Int)) => (¬ (((0 ≤ a ∧ a < steps) ∧ 0 ≤ x ∧ x < fsz a) ∧ ((0 ≤ a + 1 ∧ a + 1 < steps) ∧ 0 ≤ b ∧ b < fsz (a + 1))) ∧ r = iI (-2000000) ∧ u = (H, bars, fbb)) ∨ ((((0 ≤ a ∧ a < steps) ∧ 0 ≤ x ∧ x < fsz a) ∧ ((0 ≤ a + 1 ∧ a + 1 < steps) ∧ 0 ≤ b ∧ b < fsz (a + 1))) ∧ r = iI ((((fbb (((a + 1) * 6) + b)) / (2 ^ (x).toNat)) % 2)) ∧ u = (False, (bars + ((bI v) - (((fbb (((a + 1) * 6) + b)) / (2 ^ (x).toNat)) % 2))), (uZ fbb (((a + 1) * 6) + b) ((fbb (((a + 1) * 6) + b)) + (((bI v) - (((fbb (((a + 1) * 6) + b)) / (2 ^ (x).toNat)) % 2)) * (2 ^ (x).toNat))))))) (zPost (dC, dI) stCl [(cI, .int), (cJ, .long), (cZ, .boolean)] [(s0, .inr (0, [.ref t0, .ref y0, .ref f0, .ref n0, .int (iI (bI H))])), (t0, .inr (1, [.int (iI steps), .int (iI choices), .int (iI bars), .ref hs, .ref hc, .ref hf, .ref hg, .ref hb, .ref he, .ref hm])), (hs, .inl (cI, aI 12 fsz)), (hb, .inl (cI, aI 72 fbb))] sz (fun u : Prop × Int × (Int → Int) => [(s0, .inr (0, [.ref t0, .ref y0, .ref f0, .ref n0, .int (iI (bI u.1))])), (t0, .inr (1, [.int (iI steps), .int (iI choices), .int (iI (u.2.1)), .ref hs, .ref hc, .ref hf, .ref hg, .ref hb, .ref he, .ref hm])), (hs, .inl (cI, aI 12 fsz)), (hb, .inl (cI, aI 72 (u.2.2)))])) (va_A [(s0, .inr (0, [.ref t0, .ref y0, .ref f0, .ref n0, .int (iI (bI H))])), (t0, .inr (1, [.int (iI steps), .int (iI choices), .int (iI bars), .ref hs, .ref hc, .ref hf, .ref hg, .ref hb, .ref he, .ref hm])), (hs, .inl (cI, aI 12 fsz)), (hb, .inl (cI, aI 72 fbb))] sz)) 0 0 (va_A [(s0, .inr (0, [.ref t0, .ref y0, .ref f0, .ref n0, .int (iI (bI H))])), (t0, .inr (1, [.int (iI steps), .int (iI choices), .int (iI bars), .ref hs, .ref hc, .ref hf, .ref hg, .ref hb, .ref he, .ref hm])), (hs, .inl (cI, aI 12 fsz)), (hb, .inl (cI, aI 72 fbb))] sz) := by
  refine met_i (by decide) rfl (Nat.le_of_ble_eq_true rfl) ?_
  intro p e s m below meth c A Q C hmn hret
  refine g_aload_n C 0 std_S_bar_0 rfl ?_
  refine g_get C (st_sub sti_S) 0 rfl rfl 0 (by decide) (List.mem_cons_of_mem _ kw_1_189) rfl rfl std_S_bar_1 ?_
  refine g_iload_n C 1 std_S_bar_4 rfl ?_
  refine g_iload_n C 2 std_S_bar_5 rfl ?_
  refine g_V_i (wc := [(t0, .inr (1, [.int (iI steps), .int (iI choices), .int (iI bars), .ref hs, .ref hc, .ref hf, .ref hg, .ref hb, .ref he, .ref hm])), (hs, .inl (cI, aI 12 fsz))]) (wr := [(s0, .inr (0, [.ref t0, .ref y0, .ref f0, .ref n0, .int (iI (bI H))])), (hb, .inl (cI, aI 72 fbb))]) (rest := []) C (c_hasChoice l dC dI cI cJ cZ t0 hs hc hf hg hb he hm steps choices bars fsz a x (kst) (ksz) (by omega) (by omega)) (st_cV C kw_2_3 kw_2_0 kw_1_2 kw_2_1 kw_2_2 sth_T_hasChoice ⟨Nat.le_of_ble_eq_true rfl, Nat.le_of_ble_eq_true rfl⟩) 0 rfl rfl rfl rfl (Nat.le_of_ble_eq_true rfl) std_S_bar_6 ⟨Nat.le_of_ble_eq_true rfl, Nat.le_of_ble_eq_true rfl⟩ [1, 2] [0, 3] rfl rfl rfl rfl (by decide) (fun r1 u2 h3 => ?_)
  subst h3
  refine g_ws (ws' := [(s0, .inr (0, [.ref t0, .ref y0, .ref f0, .ref n0, .int (iI (bI H))])), (hb, .inl (cI, aI 72 fbb)), (t0, .inr (1, [.int (iI steps), .int (iI choices), .int (iI bars), .ref hs, .ref hc, .ref hf, .ref hg, .ref hb, .ref he, .ref hm])), (hs, .inl (cI, aI 12 fsz))]) rfl ?_
  refine g_ifeq_b (tgt := 26) C std_S_bar_9 (by decide) (fun c4 => ?_) (fun c4 => ?_)
  · refine g_ldc C (z := (-2000000)) (List.mem_cons_of_mem _ kw_1_228) (by decide) std_S_bar_26 ?_
    refine g_sub (ws' := [(s0, .inr (0, [.ref t0, .ref y0, .ref f0, .ref n0, .int (iI (bI H))])), (t0, .inr (1, [.int (iI steps), .int (iI choices), .int (iI bars), .ref hs, .ref hc, .ref hf, .ref hg, .ref hb, .ref he, .ref hm])), (hs, .inl (cI, aI 12 fsz)), (hb, .inl (cI, aI 72 fbb))]) [0, 2, 3, 1] rfl rfl ?_
    refine g_wide (k := 0) (n := 0) (Nat.le_of_ble_eq_true rfl) (Nat.le_of_ble_eq_true rfl) ?_
    exact hret _ _ _ (H, bars, fbb) (Or.inl ⟨by omega, rfl, rfl⟩) std_S_bar_28
  · refine g_aload_n C 0 std_S_bar_12 rfl ?_
    refine g_get C (st_sub sti_S) 0 rfl rfl 0 (by decide) (List.mem_cons_of_mem _ kw_1_189) rfl rfl std_S_bar_13 ?_
    refine g_iload_n C 1 std_S_bar_16 rfl ?_
    refine g_iconst C std_S_bar_17 ?_
    refine g_iadd C std_S_bar_18 ?_
    refine g_iload_n C 3 std_S_bar_19 rfl ?_
    refine g_V_i (wc := [(t0, .inr (1, [.int (iI steps), .int (iI choices), .int (iI bars), .ref hs, .ref hc, .ref hf, .ref hg, .ref hb, .ref he, .ref hm])), (hs, .inl (cI, aI 12 fsz))]) (wr := [(s0, .inr (0, [.ref t0, .ref y0, .ref f0, .ref n0, .int (iI (bI H))])), (hb, .inl (cI, aI 72 fbb))]) (rest := []) C (c_hasChoice l dC dI cI cJ cZ t0 hs hc hf hg hb he hm steps choices bars fsz (a + 1) b (kst) (ksz) (by omega) (by omega)) (st_cV C kw_2_3 kw_2_0 kw_1_2 kw_2_1 kw_2_2 sth_T_hasChoice ⟨Nat.le_of_ble_eq_true rfl, Nat.le_of_ble_eq_true rfl⟩) 0 rfl rfl rfl rfl (Nat.le_of_ble_eq_true rfl) std_S_bar_20 ⟨Nat.le_of_ble_eq_true rfl, Nat.le_of_ble_eq_true rfl⟩ [2, 3] [0, 1] rfl rfl rfl rfl (by decide) (fun r5 u6 h7 => ?_)
    subst h7
    refine g_ws (ws' := [(s0, .inr (0, [.ref t0, .ref y0, .ref f0, .ref n0, .int (iI (bI H))])), (hb, .inl (cI, aI 72 fbb)), (t0, .inr (1, [.int (iI steps), .int (iI choices), .int (iI bars), .ref hs, .ref hc, .ref hf, .ref hg, .ref hb, .ref he, .ref hm])), (hs, .inl (cI, aI 12 fsz))]) rfl ?_
    refine g_ifne_b (tgt := 29) C std_S_bar_23 (by decide) (fun c8 => ?_) (fun c8 => ?_)
    · have hqa := ksz a (by omega) (by omega)
      have hqb := ksz (a + 1) (by omega) (by omega)
      refine g_aload_n C 0 std_S_bar_29 rfl ?_
      refine g_iconst C std_S_bar_30 ?_
      refine g_put C (ws' := [(s0, .inr (0, [.ref t0, .ref y0, .ref f0, .ref n0, .int (iI 0)])), (hb, .inl (cI, aI 72 fbb)), (t0, .inr (1, [.int (iI steps), .int (iI choices), .int (iI bars), .ref hs, .ref hc, .ref hf, .ref hg, .ref hb, .ref he, .ref hm])), (hs, .inl (cI, aI 12 fsz))]) (st_sub sti_S) stt_S sto_S stn_S 0 rfl rfl 4 (by decide) (List.mem_cons_of_mem _ kw_1_193) rfl rfl (by decide) (by decide) (Nat.le_of_ble_eq_true rfl) std_S_bar_31 rfl ?_
      refine g_aload_n C 0 std_S_bar_34 rfl ?_
      refine g_get C (st_sub sti_S) 0 rfl rfl 0 (by decide) (List.mem_cons_of_mem _ kw_1_189) rfl rfl std_S_bar_35 ?_
      refine g_iload_n C 1 std_S_bar_38 rfl ?_
      refine g_iload_n C 2 std_S_bar_39 rfl ?_
      refine g_iload_n C 3 std_S_bar_40 rfl ?_
      refine g_iload C 4 std_S_bar_41 rfl ?_
      refine g_V_i (wc := [(t0, .inr (1, [.int (iI steps), .int (iI choices), .int (iI bars), .ref hs, .ref hc, .ref hf, .ref hg, .ref hb, .ref he, .ref hm])), (hb, .inl (cI, aI 72 fbb))]) (wr := [(s0, .inr (0, [.ref t0, .ref y0, .ref f0, .ref n0, .int (iI 0)])), (hs, .inl (cI, aI 12 fsz))]) (rest := []) C (c_changeBar l dC dI cI cJ cZ t0 hs hc hf hg hb he hm steps choices bars fbb a x b v (by omega) (by omega) (by omega) (kbb _ (by omega) (by omega))) (st_cV C kw_2_24 kw_2_21 kw_1_2 kw_2_22 kw_2_23 sth_T_changeBar ⟨Nat.le_of_ble_eq_true rfl, Nat.le_of_ble_eq_true rfl⟩) 0 rfl rfl rfl rfl (Nat.le_of_ble_eq_true rfl) std_S_bar_43 ⟨Nat.le_of_ble_eq_true rfl, Nat.le_of_ble_eq_true rfl⟩ [2, 1] [0, 3] rfl rfl rfl rfl (by decide) (fun r9 u10 h11 => ?_)
      subst h11
      refine g_ws (ws' := [(s0, .inr (0, [.ref t0, .ref y0, .ref f0, .ref n0, .int (iI 0)])), (hs, .inl (cI, aI 12 fsz)), (t0, .inr (1, [.int (iI steps), .int (iI choices), .int (iI (bars + ((bI v) - (((fbb (((a + 1) * 6) + b)) / (2 ^ (x).toNat)) % 2)))), .ref hs, .ref hc, .ref hf, .ref hg, .ref hb, .ref he, .ref hm])), (hb, .inl (cI, aI 72 (uZ fbb (((a + 1) * 6) + b) ((fbb (((a + 1) * 6) + b)) + (((bI v) - (((fbb (((a + 1) * 6) + b)) / (2 ^ (x).toNat)) % 2)) * (2 ^ (x).toNat))))))]) rfl ?_
      refine g_sub (ws' := [(s0, .inr (0, [.ref t0, .ref y0, .ref f0, .ref n0, .int (iI 0)])), (t0, .inr (1, [.int (iI steps), .int (iI choices), .int (iI (bars + ((bI v) - (((fbb (((a + 1) * 6) + b)) / (2 ^ (x).toNat)) % 2)))), .ref hs, .ref hc, .ref hf, .ref hg, .ref hb, .ref he, .ref hm])), (hs, .inl (cI, aI 12 fsz)), (hb, .inl (cI, aI 72 (uZ fbb (((a + 1) * 6) + b) ((fbb (((a + 1) * 6) + b)) + (((bI v) - (((fbb (((a + 1) * 6) + b)) / (2 ^ (x).toNat)) % 2)) * (2 ^ (x).toNat))))))]) [0, 2, 1, 3] rfl rfl ?_
      refine g_wide (k := 0) (n := 0) (Nat.le_of_ble_eq_true rfl) (Nat.le_of_ble_eq_true rfl) ?_
      refine g_ws (ws' := [(s0, .inr (0, [.ref t0, .ref y0, .ref f0, .ref n0, .int (iI (bI False))])), (t0, .inr (1, [.int (iI steps), .int (iI choices), .int (iI (bars + ((bI v) - (((fbb (((a + 1) * 6) + b)) / (2 ^ (x).toNat)) % 2)))), .ref hs, .ref hc, .ref hf, .ref hg, .ref hb, .ref he, .ref hm])), (hs, .inl (cI, aI 12 fsz)), (hb, .inl (cI, aI 72 (uZ fbb (((a + 1) * 6) + b) ((fbb (((a + 1) * 6) + b)) + (((bI v) - (((fbb (((a + 1) * 6) + b)) / (2 ^ (x).toNat)) % 2)) * (2 ^ (x).toNat))))))]) (by rw [show bI False = 0 from bI_f id]) ?_
      exact hret _ _ _ (False, (bars + ((bI v) - (((fbb (((a + 1) * 6) + b)) / (2 ^ (x).toNat)) % 2))), (uZ fbb (((a + 1) * 6) + b) ((fbb (((a + 1) * 6) + b)) + (((bI v) - (((fbb (((a + 1) * 6) + b)) / (2 ^ (x).toNat)) % 2)) * (2 ^ (x).toNat))))) (Or.inr (⟨by omega, rfl, rfl⟩)) std_S_bar_46
    · refine g_ldc C (z := (-2000000)) (List.mem_cons_of_mem _ kw_1_228) (by decide) std_S_bar_26 ?_
      refine g_sub (ws' := [(s0, .inr (0, [.ref t0, .ref y0, .ref f0, .ref n0, .int (iI (bI H))])), (t0, .inr (1, [.int (iI steps), .int (iI choices), .int (iI bars), .ref hs, .ref hc, .ref hf, .ref hg, .ref hb, .ref he, .ref hm])), (hs, .inl (cI, aI 12 fsz)), (hb, .inl (cI, aI 72 fbb))]) [0, 2, 3, 1] rfl rfl ?_
      refine g_wide (k := 0) (n := 0) (Nat.le_of_ble_eq_true rfl) (Nat.le_of_ble_eq_true rfl) ?_
      exact hret _ _ _ (H, bars, fbb) (Or.inl ⟨by omega, rfl, rfl⟩) std_S_bar_28

