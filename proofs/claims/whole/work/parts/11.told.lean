/-! Told -/
abbrev sty_T_hasStep : MethodName := ⟨"StateTables$Told", "hasStep", "(I)Z"⟩
abbrev stc_T_hasStep : ByteArray := prog_5_method_2_code
theorem sth_T_hasStep : (sty_T_hasStep).cls ≠ "java/lang/invoke/MethodHandle" ∧ (sty_T_hasStep).cls ≠ "java/lang/invoke/VarHandle" ∧ (parseMethodDescriptor (sty_T_hasStep).desc).map (fun d => d.parameters.length) = some 1 := by decide +kernel
theorem std_T_hasStep_0 : decode stc_T_hasStep 0 = .ok (.iload_n 1, 1) := by decide +kernel
theorem std_T_hasStep_1 : decode stc_T_hasStep 1 = .ok (.ifCond .lt 15, 3) := by decide +kernel
theorem std_T_hasStep_16 : decode stc_T_hasStep 16 = .ok (.iconst 0, 1) := by decide +kernel
theorem std_T_hasStep_17 : decode stc_T_hasStep 17 = .ok (.ireturn, 1) := by decide +kernel
theorem std_T_hasStep_4 : decode stc_T_hasStep 4 = .ok (.iload_n 1, 1) := by decide +kernel
theorem std_T_hasStep_5 : decode stc_T_hasStep 5 = .ok (.aload_n 0, 1) := by decide +kernel
theorem std_T_hasStep_6 : decode stc_T_hasStep 6 = .ok (.getfield 33, 3) := by decide +kernel
theorem kw_1_25 : Cond.fieldLink "StateTables$Told" 33 "StateTables$Told" "steps" "I" ∈ stGW := st_t1 (List.mem_of_getElem? (i := 25) (by decide +kernel)) (by decide +kernel)
theorem std_T_hasStep_9 : decode stc_T_hasStep 9 = .ok (.if_icmp .ge 7, 3) := by decide +kernel
theorem std_T_hasStep_12 : decode stc_T_hasStep 12 = .ok (.iconst 1, 1) := by decide +kernel
theorem std_T_hasStep_13 : decode stc_T_hasStep 13 = .ok (.goto 4, 3) := by decide +kernel
set_option maxHeartbeats 4000000 in
set_option maxRecDepth 100000 in
theorem c_hasStep (l : Launch) (dC : Nat → ClassId) (dI : Nat → Nat → Nat) (cI cJ cZ : ClassId) (t0 : Nat) (hs : Nat) (hc : Nat) (hf : Nat) (hg : Nat) (hb : Nat) (he : Nat) (hm : Nat) (steps : Int) (choices : Int) (bars : Int) (a : Int) (kst : 0 ≤ steps ∧ steps ≤ 12) (ka : rI a) : ∀ sz, Met l sty_T_hasStep (Cond.code sty_T_hasStep stc_T_hasStep 2 (some .boolean) :: stGW) ({ frames := 0, cells := 0, slots := 0, locals := 0 } : Room) (va_Pc [.ref t0, .int (iI a)] (zPre (dC, dI) stCl [(cI, .int), (cJ, .long), (cZ, .boolean)] st_nw [(t0, .inr (1, [.int (iI steps), .int (iI choices), .int (iI bars), .ref hs, .ref hc, .ref hf, .ref hg, .ref hb, .ref he, .ref hm]))] sz)) (va_Qi (fun (r : Int32) (_ : Unit) => r = iI (bI (0 ≤ a ∧ a < steps))) (zPost (dC, dI) stCl [(cI, .int), (cJ, .long), (cZ, .boolean)] [(t0, .inr (1, [.int (iI steps), .int (iI choices), .int (iI bars), .ref hs, .ref hc, .ref hf, .ref hg, .ref hb, .ref he, .ref hm]))] sz (fun _ : Unit => [(t0, .inr (1, [.int (iI steps), .int (iI choices), .int (iI bars), .ref hs, .ref hc, .ref hf, .ref hg, .ref hb, .ref he, .ref hm]))])) (va_A [(t0, .inr (1, [.int (iI steps), .int (iI choices), .int (iI bars), .ref hs, .ref hc, .ref hf, .ref hg, .ref hb, .ref he, .ref hm]))] sz)) 0 0 (va_A [(t0, .inr (1, [.int (iI steps), .int (iI choices), .int (iI bars), .ref hs, .ref hc, .ref hf, .ref hg, .ref hb, .ref he, .ref hm]))] sz) := by
  refine met_z (by decide) rfl (Nat.le_of_ble_eq_true rfl) ?_
  intro p e s m below meth c A Q C hmn hret
  refine g_iload_n C 1 std_T_hasStep_0 rfl ?_
  refine g_if_lt (tgt := 16) C std_T_hasStep_1 (by decide) ⟨by omega, by omega⟩ (fun c1 => ?_) (fun c1 => ?_)
  · refine g_iconst C std_T_hasStep_16 ?_
    exact hret _ _ _ () (by rw [bI_f (by omega)]) (by decide) std_T_hasStep_17
  · refine g_iload_n C 1 std_T_hasStep_4 rfl ?_
    refine g_aload_n C 0 std_T_hasStep_5 rfl ?_
    refine g_get C (st_sub sti_T) 0 rfl rfl 0 (by decide) (List.mem_cons_of_mem _ kw_1_25) rfl rfl std_T_hasStep_6 ?_
    refine g_icmp_ge (tgt := 16) C std_T_hasStep_9 (by decide) ⟨by omega, by omega⟩ ⟨by omega, by omega⟩ (fun c2 => ?_) (fun c2 => ?_)
    · refine g_iconst C std_T_hasStep_16 ?_
      exact hret _ _ _ () (by rw [bI_f (by omega)]) (by decide) std_T_hasStep_17
    · refine g_iconst C std_T_hasStep_12 ?_
      refine g_goto (tgt := 17) C std_T_hasStep_13 (by decide) ?_
      exact hret _ _ _ () (by rw [bI_t (by omega)]) (by decide) std_T_hasStep_17

abbrev sty_T_hasChoice : MethodName := ⟨"StateTables$Told", "hasChoice", "(II)Z"⟩
abbrev stc_T_hasChoice : ByteArray := prog_5_method_3_code
theorem sth_T_hasChoice : (sty_T_hasChoice).cls ≠ "java/lang/invoke/MethodHandle" ∧ (sty_T_hasChoice).cls ≠ "java/lang/invoke/VarHandle" ∧ (parseMethodDescriptor (sty_T_hasChoice).desc).map (fun d => d.parameters.length) = some 2 := by decide +kernel
theorem std_T_hasChoice_0 : decode stc_T_hasChoice 0 = .ok (.aload_n 0, 1) := by decide +kernel
theorem std_T_hasChoice_1 : decode stc_T_hasChoice 1 = .ok (.iload_n 1, 1) := by decide +kernel
theorem std_T_hasChoice_2 : decode stc_T_hasChoice 2 = .ok (.invokevirtual 37, 3) := by decide +kernel
theorem kw_1_221 : Cond.code sty_T_hasStep stc_T_hasStep 2 (some .boolean) ∈ stGW := st_t1 (List.mem_of_getElem? (i := 221) (by decide +kernel)) (by decide +kernel)
theorem kw_1_2 : Cond.initialized "StateTables$Told" ∈ stGW := st_t1 (List.mem_of_getElem? (i := 2) (by decide +kernel)) (by decide +kernel)
theorem kw_2_4 : Cond.methodLink "StateTables$Told" 37 (sty_T_hasStep) ∈ stGW := st_t2 (List.mem_of_getElem? (i := 4) (by decide +kernel)) (by decide +kernel)
theorem kw_1_219 : Cond.instanceMethod (sty_T_hasStep) ∈ stGW := st_t1 (List.mem_of_getElem? (i := 219) (by decide +kernel)) (by decide +kernel)
theorem kw_1_220 : Cond.selects "StateTables$Told" (sty_T_hasStep) (sty_T_hasStep) ∈ stGW := st_t1 (List.mem_of_getElem? (i := 220) (by decide +kernel)) (by decide +kernel)
theorem std_T_hasChoice_5 : decode stc_T_hasChoice 5 = .ok (.ifCond .eq 21, 3) := by decide +kernel
theorem std_T_hasChoice_26 : decode stc_T_hasChoice 26 = .ok (.iconst 0, 1) := by decide +kernel
theorem std_T_hasChoice_27 : decode stc_T_hasChoice 27 = .ok (.ireturn, 1) := by decide +kernel
theorem std_T_hasChoice_8 : decode stc_T_hasChoice 8 = .ok (.iload_n 2, 1) := by decide +kernel
theorem std_T_hasChoice_9 : decode stc_T_hasChoice 9 = .ok (.ifCond .lt 17, 3) := by decide +kernel
theorem std_T_hasChoice_12 : decode stc_T_hasChoice 12 = .ok (.iload_n 2, 1) := by decide +kernel
theorem std_T_hasChoice_13 : decode stc_T_hasChoice 13 = .ok (.aload_n 0, 1) := by decide +kernel
theorem std_T_hasChoice_14 : decode stc_T_hasChoice 14 = .ok (.getfield 9, 3) := by decide +kernel
theorem kw_1_33 : Cond.fieldLink "StateTables$Told" 9 "StateTables$Told" "sizes" "[I" ∈ stGW := st_t1 (List.mem_of_getElem? (i := 33) (by decide +kernel)) (by decide +kernel)
theorem std_T_hasChoice_17 : decode stc_T_hasChoice 17 = .ok (.iload_n 1, 1) := by decide +kernel
theorem std_T_hasChoice_18 : decode stc_T_hasChoice 18 = .ok (.iaload, 1) := by decide +kernel
theorem std_T_hasChoice_19 : decode stc_T_hasChoice 19 = .ok (.if_icmp .ge 7, 3) := by decide +kernel
theorem std_T_hasChoice_22 : decode stc_T_hasChoice 22 = .ok (.iconst 1, 1) := by decide +kernel
theorem std_T_hasChoice_23 : decode stc_T_hasChoice 23 = .ok (.goto 4, 3) := by decide +kernel
set_option maxHeartbeats 4000000 in
set_option maxRecDepth 100000 in
theorem c_hasChoice (l : Launch) (dC : Nat → ClassId) (dI : Nat → Nat → Nat) (cI cJ cZ : ClassId) (t0 : Nat) (hs : Nat) (hc : Nat) (hf : Nat) (hg : Nat) (hb : Nat) (he : Nat) (hm : Nat) (steps : Int) (choices : Int) (bars : Int) (fsz : Int → Int) (a : Int) (b : Int) (kst : 0 ≤ steps ∧ steps ≤ 12) (ksz : ∀ j, 0 ≤ j → j < 12 → 0 ≤ fsz j ∧ fsz j ≤ 6) (ka : rI a) (kb : rI b) : ∀ sz, Met l sty_T_hasChoice (Cond.code sty_T_hasChoice stc_T_hasChoice 3 (some .boolean) :: stGW) ({ frames := 1, cells := 0, slots := 0, locals := 21 } : Room) (va_Pc [.ref t0, .int (iI a), .int (iI b)] (zPre (dC, dI) stCl [(cI, .int), (cJ, .long), (cZ, .boolean)] st_nw [(t0, .inr (1, [.int (iI steps), .int (iI choices), .int (iI bars), .ref hs, .ref hc, .ref hf, .ref hg, .ref hb, .ref he, .ref hm])), (hs, .inl (cI, aI 12 fsz))] sz)) (va_Qi (fun (r : Int32) (_ : Unit) => r = iI (bI ((0 ≤ a ∧ a < steps) ∧ 0 ≤ b ∧ b < fsz a))) (zPost (dC, dI) stCl [(cI, .int), (cJ, .long), (cZ, .boolean)] [(t0, .inr (1, [.int (iI steps), .int (iI choices), .int (iI bars), .ref hs, .ref hc, .ref hf, .ref hg, .ref hb, .ref he, .ref hm])), (hs, .inl (cI, aI 12 fsz))] sz (fun _ : Unit => [(t0, .inr (1, [.int (iI steps), .int (iI choices), .int (iI bars), .ref hs, .ref hc, .ref hf, .ref hg, .ref hb, .ref he, .ref hm])), (hs, .inl (cI, aI 12 fsz))])) (va_A [(t0, .inr (1, [.int (iI steps), .int (iI choices), .int (iI bars), .ref hs, .ref hc, .ref hf, .ref hg, .ref hb, .ref he, .ref hm])), (hs, .inl (cI, aI 12 fsz))] sz)) 0 0 (va_A [(t0, .inr (1, [.int (iI steps), .int (iI choices), .int (iI bars), .ref hs, .ref hc, .ref hf, .ref hg, .ref hb, .ref he, .ref hm])), (hs, .inl (cI, aI 12 fsz))] sz) := by
  refine met_z (by decide) rfl (Nat.le_of_ble_eq_true rfl) ?_
  intro p e s m below meth c A Q C hmn hret
  refine g_aload_n C 0 std_T_hasChoice_0 rfl ?_
  refine g_iload_n C 1 std_T_hasChoice_1 rfl ?_
  refine g_V_i (wc := [(t0, .inr (1, [.int (iI steps), .int (iI choices), .int (iI bars), .ref hs, .ref hc, .ref hf, .ref hg, .ref hb, .ref he, .ref hm]))]) (wr := [(hs, .inl (cI, aI 12 fsz))]) (rest := []) C (c_hasStep l dC dI cI cJ cZ t0 hs hc hf hg hb he hm steps choices bars a (by omega) (by omega)) (st_cV C kw_1_221 kw_2_4 kw_1_2 kw_1_219 kw_1_220 sth_T_hasStep ⟨Nat.le_of_ble_eq_true rfl, Nat.le_of_ble_eq_true rfl⟩) 0 rfl rfl rfl rfl (Nat.le_of_ble_eq_true rfl) std_T_hasChoice_2 ⟨Nat.le_of_ble_eq_true rfl, Nat.le_of_ble_eq_true rfl⟩ [0] [1] rfl rfl rfl rfl (by decide) (fun r1 u2 h3 => ?_)
  subst h3
  refine g_ws (ws' := [(hs, .inl (cI, aI 12 fsz)), (t0, .inr (1, [.int (iI steps), .int (iI choices), .int (iI bars), .ref hs, .ref hc, .ref hf, .ref hg, .ref hb, .ref he, .ref hm]))]) rfl ?_
  refine g_ifeq_b (tgt := 26) C std_T_hasChoice_5 (by decide) (fun c4 => ?_) (fun c4 => ?_)
  · refine g_iconst C std_T_hasChoice_26 ?_
    refine g_sub (ws' := [(t0, .inr (1, [.int (iI steps), .int (iI choices), .int (iI bars), .ref hs, .ref hc, .ref hf, .ref hg, .ref hb, .ref he, .ref hm])), (hs, .inl (cI, aI 12 fsz))]) [1, 0] rfl rfl ?_
    refine g_wide (k := 0) (n := 0) (Nat.le_of_ble_eq_true rfl) (Nat.le_of_ble_eq_true rfl) ?_
    exact hret _ _ _ () (by rw [bI_f (by omega)]) (by decide) std_T_hasChoice_27
  · refine g_iload_n C 2 std_T_hasChoice_8 rfl ?_
    refine g_if_lt (tgt := 26) C std_T_hasChoice_9 (by decide) ⟨by omega, by omega⟩ (fun c5 => ?_) (fun c5 => ?_)
    · refine g_iconst C std_T_hasChoice_26 ?_
      refine g_sub (ws' := [(t0, .inr (1, [.int (iI steps), .int (iI choices), .int (iI bars), .ref hs, .ref hc, .ref hf, .ref hg, .ref hb, .ref he, .ref hm])), (hs, .inl (cI, aI 12 fsz))]) [1, 0] rfl rfl ?_
      refine g_wide (k := 0) (n := 0) (Nat.le_of_ble_eq_true rfl) (Nat.le_of_ble_eq_true rfl) ?_
      exact hret _ _ _ () (by rw [bI_f (by omega)]) (by decide) std_T_hasChoice_27
    · refine g_iload_n C 2 std_T_hasChoice_12 rfl ?_
      refine g_aload_n C 0 std_T_hasChoice_13 rfl ?_
      refine g_get C (st_sub sti_T) 1 rfl rfl 3 (by decide) (List.mem_cons_of_mem _ kw_1_33) rfl rfl std_T_hasChoice_14 ?_
      refine g_iload_n C 1 std_T_hasChoice_17 rfl ?_
      refine g_iald C 0 0 rfl rfl (by omega) (by omega) (by omega) std_T_hasChoice_18 ?_
      have hq := ksz a (by omega) (by omega)
      refine g_icmp_ge (tgt := 26) C std_T_hasChoice_19 (by decide) ⟨by omega, by omega⟩ ⟨by omega, by omega⟩ (fun c6 => ?_) (fun c6 => ?_)
      · refine g_iconst C std_T_hasChoice_26 ?_
        refine g_sub (ws' := [(t0, .inr (1, [.int (iI steps), .int (iI choices), .int (iI bars), .ref hs, .ref hc, .ref hf, .ref hg, .ref hb, .ref he, .ref hm])), (hs, .inl (cI, aI 12 fsz))]) [1, 0] rfl rfl ?_
        refine g_wide (k := 0) (n := 0) (Nat.le_of_ble_eq_true rfl) (Nat.le_of_ble_eq_true rfl) ?_
        exact hret _ _ _ () (by rw [bI_f (by omega)]) (by decide) std_T_hasChoice_27
      · refine g_iconst C std_T_hasChoice_22 ?_
        refine g_goto (tgt := 27) C std_T_hasChoice_23 (by decide) ?_
        refine g_sub (ws' := [(t0, .inr (1, [.int (iI steps), .int (iI choices), .int (iI bars), .ref hs, .ref hc, .ref hf, .ref hg, .ref hb, .ref he, .ref hm])), (hs, .inl (cI, aI 12 fsz))]) [1, 0] rfl rfl ?_
        refine g_wide (k := 0) (n := 0) (Nat.le_of_ble_eq_true rfl) (Nat.le_of_ble_eq_true rfl) ?_
        exact hret _ _ _ () (by rw [bI_t (by omega)]) (by decide) std_T_hasChoice_27

abbrev sty_T_isWithinMost : MethodName := ⟨"StateTables$Told", "isWithinMost", "(II)Z"⟩
abbrev stc_T_isWithinMost : ByteArray := prog_5_method_9_code
theorem sth_T_isWithinMost : (sty_T_isWithinMost).cls ≠ "java/lang/invoke/MethodHandle" ∧ (sty_T_isWithinMost).cls ≠ "java/lang/invoke/VarHandle" ∧ (parseMethodDescriptor (sty_T_isWithinMost).desc).map (fun d => d.parameters.length) = some 2 := by decide +kernel
theorem std_T_isWithinMost_0 : decode stc_T_isWithinMost 0 = .ok (.iload_n 1, 1) := by decide +kernel
theorem std_T_isWithinMost_1 : decode stc_T_isWithinMost 1 = .ok (.aload_n 0, 1) := by decide +kernel
theorem std_T_isWithinMost_2 : decode stc_T_isWithinMost 2 = .ok (.getfield 30, 3) := by decide +kernel
theorem kw_1_53 : Cond.fieldLink "StateTables$Told" 30 "StateTables$Told" "most" "[I" ∈ stGW := st_t1 (List.mem_of_getElem? (i := 53) (by decide +kernel)) (by decide +kernel)
theorem std_T_isWithinMost_5 : decode stc_T_isWithinMost 5 = .ok (.iconst 0, 1) := by decide +kernel
theorem std_T_isWithinMost_6 : decode stc_T_isWithinMost 6 = .ok (.iaload, 1) := by decide +kernel
theorem std_T_isWithinMost_7 : decode stc_T_isWithinMost 7 = .ok (.if_icmp .gt 17, 3) := by decide +kernel
theorem std_T_isWithinMost_24 : decode stc_T_isWithinMost 24 = .ok (.iconst 0, 1) := by decide +kernel
theorem std_T_isWithinMost_25 : decode stc_T_isWithinMost 25 = .ok (.ireturn, 1) := by decide +kernel
theorem std_T_isWithinMost_10 : decode stc_T_isWithinMost 10 = .ok (.iload_n 2, 1) := by decide +kernel
theorem std_T_isWithinMost_11 : decode stc_T_isWithinMost 11 = .ok (.aload_n 0, 1) := by decide +kernel
theorem std_T_isWithinMost_12 : decode stc_T_isWithinMost 12 = .ok (.getfield 30, 3) := by decide +kernel
theorem std_T_isWithinMost_15 : decode stc_T_isWithinMost 15 = .ok (.iconst 1, 1) := by decide +kernel
theorem std_T_isWithinMost_16 : decode stc_T_isWithinMost 16 = .ok (.iaload, 1) := by decide +kernel
theorem std_T_isWithinMost_17 : decode stc_T_isWithinMost 17 = .ok (.if_icmp .gt 7, 3) := by decide +kernel
theorem std_T_isWithinMost_20 : decode stc_T_isWithinMost 20 = .ok (.iconst 1, 1) := by decide +kernel
theorem std_T_isWithinMost_21 : decode stc_T_isWithinMost 21 = .ok (.goto 4, 3) := by decide +kernel
set_option maxHeartbeats 4000000 in
set_option maxRecDepth 100000 in
theorem c_isWithinMost (l : Launch) (dC : Nat → ClassId) (dI : Nat → Nat → Nat) (cI cJ cZ : ClassId) (t0 : Nat) (hs : Nat) (hc : Nat) (hf : Nat) (hg : Nat) (hb : Nat) (he : Nat) (hm : Nat) (steps : Int) (choices : Int) (bars : Int) (fmo : Int → Int) (a : Int) (b : Int) (kmo : ∀ j, 0 ≤ j → j < 2 → 0 ≤ fmo j ∧ fmo j ≤ 40) (ka : rI a) (kb : rI b) : ∀ sz, Met l sty_T_isWithinMost (Cond.code sty_T_isWithinMost stc_T_isWithinMost 3 (some .boolean) :: stGW) ({ frames := 0, cells := 0, slots := 0, locals := 0 } : Room) (va_Pc [.ref t0, .int (iI a), .int (iI b)] (zPre (dC, dI) stCl [(cI, .int), (cJ, .long), (cZ, .boolean)] st_nw [(t0, .inr (1, [.int (iI steps), .int (iI choices), .int (iI bars), .ref hs, .ref hc, .ref hf, .ref hg, .ref hb, .ref he, .ref hm])), (hm, .inl (cI, aI 2 fmo))] sz)) (va_Qi (fun (r : Int32) (_ : Unit) => r = iI (bI (a ≤ fmo 0 ∧ b ≤ fmo 1))) (zPost (dC, dI) stCl [(cI, .int), (cJ, .long), (cZ, .boolean)] [(t0, .inr (1, [.int (iI steps), .int (iI choices), .int (iI bars), .ref hs, .ref hc, .ref hf, .ref hg, .ref hb, .ref he, .ref hm])), (hm, .inl (cI, aI 2 fmo))] sz (fun _ : Unit => [(t0, .inr (1, [.int (iI steps), .int (iI choices), .int (iI bars), .ref hs, .ref hc, .ref hf, .ref hg, .ref hb, .ref he, .ref hm])), (hm, .inl (cI, aI 2 fmo))])) (va_A [(t0, .inr (1, [.int (iI steps), .int (iI choices), .int (iI bars), .ref hs, .ref hc, .ref hf, .ref hg, .ref hb, .ref he, .ref hm])), (hm, .inl (cI, aI 2 fmo))] sz)) 0 0 (va_A [(t0, .inr (1, [.int (iI steps), .int (iI choices), .int (iI bars), .ref hs, .ref hc, .ref hf, .ref hg, .ref hb, .ref he, .ref hm])), (hm, .inl (cI, aI 2 fmo))] sz) := by
  refine met_z (by decide) rfl (Nat.le_of_ble_eq_true rfl) ?_
  intro p e s m below meth c A Q C hmn hret
  have hq0 := kmo 0 (by omega) (by omega)
  have hq1 := kmo 1 (by omega) (by omega)
  refine g_iload_n C 1 std_T_isWithinMost_0 rfl ?_
  refine g_aload_n C 0 std_T_isWithinMost_1 rfl ?_
  refine g_get C (st_sub sti_T) 0 rfl rfl 9 (by decide) (List.mem_cons_of_mem _ kw_1_53) rfl rfl std_T_isWithinMost_2 ?_
  refine g_iconst C std_T_isWithinMost_5 ?_
  refine g_iald C 1 0 rfl rfl (by omega) (by omega) (by omega) std_T_isWithinMost_6 ?_
  refine g_icmp_gt (tgt := 24) C std_T_isWithinMost_7 (by decide) ⟨by omega, by omega⟩ ⟨by omega, by omega⟩ (fun c1 => ?_) (fun c1 => ?_)
  · refine g_iconst C std_T_isWithinMost_24 ?_
    exact hret _ _ _ () (by rw [bI_f (by omega)]) (by decide) std_T_isWithinMost_25
  · refine g_iload_n C 2 std_T_isWithinMost_10 rfl ?_
    refine g_aload_n C 0 std_T_isWithinMost_11 rfl ?_
    refine g_get C (st_sub sti_T) 0 rfl rfl 9 (by decide) (List.mem_cons_of_mem _ kw_1_53) rfl rfl std_T_isWithinMost_12 ?_
    refine g_iconst C std_T_isWithinMost_15 ?_
    refine g_iald C 1 0 rfl rfl (by omega) (by omega) (by omega) std_T_isWithinMost_16 ?_
    refine g_icmp_gt (tgt := 24) C std_T_isWithinMost_17 (by decide) ⟨by omega, by omega⟩ ⟨by omega, by omega⟩ (fun c2 => ?_) (fun c2 => ?_)
    · refine g_iconst C std_T_isWithinMost_24 ?_
      exact hret _ _ _ () (by rw [bI_f (by omega)]) (by decide) std_T_isWithinMost_25
    · refine g_iconst C std_T_isWithinMost_20 ?_
      refine g_goto (tgt := 25) C std_T_isWithinMost_21 (by decide) ?_
      exact hret _ _ _ () (by rw [bI_t (by omega)]) (by decide) std_T_isWithinMost_25

abbrev sty_T_isEnough : MethodName := ⟨"StateTables$Told", "isEnough", "(II)Z"⟩
abbrev stc_T_isEnough : ByteArray := prog_5_method_10_code
theorem sth_T_isEnough : (sty_T_isEnough).cls ≠ "java/lang/invoke/MethodHandle" ∧ (sty_T_isEnough).cls ≠ "java/lang/invoke/VarHandle" ∧ (parseMethodDescriptor (sty_T_isEnough).desc).map (fun d => d.parameters.length) = some 2 := by decide +kernel
theorem std_T_isEnough_0 : decode stc_T_isEnough 0 = .ok (.iload_n 1, 1) := by decide +kernel
theorem std_T_isEnough_1 : decode stc_T_isEnough 1 = .ok (.aload_n 0, 1) := by decide +kernel
theorem std_T_isEnough_2 : decode stc_T_isEnough 2 = .ok (.getfield 27, 3) := by decide +kernel
theorem kw_1_51 : Cond.fieldLink "StateTables$Told" 27 "StateTables$Told" "least" "[I" ∈ stGW := st_t1 (List.mem_of_getElem? (i := 51) (by decide +kernel)) (by decide +kernel)
theorem std_T_isEnough_5 : decode stc_T_isEnough 5 = .ok (.iconst 0, 1) := by decide +kernel
theorem std_T_isEnough_6 : decode stc_T_isEnough 6 = .ok (.iaload, 1) := by decide +kernel
theorem std_T_isEnough_7 : decode stc_T_isEnough 7 = .ok (.if_icmp .lt 17, 3) := by decide +kernel
theorem std_T_isEnough_24 : decode stc_T_isEnough 24 = .ok (.iconst 0, 1) := by decide +kernel
theorem std_T_isEnough_25 : decode stc_T_isEnough 25 = .ok (.ireturn, 1) := by decide +kernel
theorem std_T_isEnough_10 : decode stc_T_isEnough 10 = .ok (.iload_n 2, 1) := by decide +kernel
theorem std_T_isEnough_11 : decode stc_T_isEnough 11 = .ok (.aload_n 0, 1) := by decide +kernel
theorem std_T_isEnough_12 : decode stc_T_isEnough 12 = .ok (.getfield 27, 3) := by decide +kernel
theorem std_T_isEnough_15 : decode stc_T_isEnough 15 = .ok (.iconst 1, 1) := by decide +kernel
theorem std_T_isEnough_16 : decode stc_T_isEnough 16 = .ok (.iaload, 1) := by decide +kernel
theorem std_T_isEnough_17 : decode stc_T_isEnough 17 = .ok (.if_icmp .lt 7, 3) := by decide +kernel
theorem std_T_isEnough_20 : decode stc_T_isEnough 20 = .ok (.iconst 1, 1) := by decide +kernel
theorem std_T_isEnough_21 : decode stc_T_isEnough 21 = .ok (.goto 4, 3) := by decide +kernel
set_option maxHeartbeats 4000000 in
set_option maxRecDepth 100000 in
theorem c_isEnough (l : Launch) (dC : Nat → ClassId) (dI : Nat → Nat → Nat) (cI cJ cZ : ClassId) (t0 : Nat) (hs : Nat) (hc : Nat) (hf : Nat) (hg : Nat) (hb : Nat) (he : Nat) (hm : Nat) (steps : Int) (choices : Int) (bars : Int) (fle : Int → Int) (a : Int) (b : Int) (kle : ∀ j, 0 ≤ j → j < 2 → 0 ≤ fle j ∧ fle j ≤ 40) (ka : rI a) (kb : rI b) : ∀ sz, Met l sty_T_isEnough (Cond.code sty_T_isEnough stc_T_isEnough 3 (some .boolean) :: stGW) ({ frames := 0, cells := 0, slots := 0, locals := 0 } : Room) (va_Pc [.ref t0, .int (iI a), .int (iI b)] (zPre (dC, dI) stCl [(cI, .int), (cJ, .long), (cZ, .boolean)] st_nw [(t0, .inr (1, [.int (iI steps), .int (iI choices), .int (iI bars), .ref hs, .ref hc, .ref hf, .ref hg, .ref hb, .ref he, .ref hm])), (he, .inl (cI, aI 2 fle))] sz)) (va_Qi (fun (r : Int32) (_ : Unit) => r = iI (bI (fle 0 ≤ a ∧ fle 1 ≤ b))) (zPost (dC, dI) stCl [(cI, .int), (cJ, .long), (cZ, .boolean)] [(t0, .inr (1, [.int (iI steps), .int (iI choices), .int (iI bars), .ref hs, .ref hc, .ref hf, .ref hg, .ref hb, .ref he, .ref hm])), (he, .inl (cI, aI 2 fle))] sz (fun _ : Unit => [(t0, .inr (1, [.int (iI steps), .int (iI choices), .int (iI bars), .ref hs, .ref hc, .ref hf, .ref hg, .ref hb, .ref he, .ref hm])), (he, .inl (cI, aI 2 fle))])) (va_A [(t0, .inr (1, [.int (iI steps), .int (iI choices), .int (iI bars), .ref hs, .ref hc, .ref hf, .ref hg, .ref hb, .ref he, .ref hm])), (he, .inl (cI, aI 2 fle))] sz)) 0 0 (va_A [(t0, .inr (1, [.int (iI steps), .int (iI choices), .int (iI bars), .ref hs, .ref hc, .ref hf, .ref hg, .ref hb, .ref he, .ref hm])), (he, .inl (cI, aI 2 fle))] sz) := by
  refine met_z (by decide) rfl (Nat.le_of_ble_eq_true rfl) ?_
  intro p e s m below meth c A Q C hmn hret
  have hq0 := kle 0 (by omega) (by omega)
  have hq1 := kle 1 (by omega) (by omega)
  refine g_iload_n C 1 std_T_isEnough_0 rfl ?_
  refine g_aload_n C 0 std_T_isEnough_1 rfl ?_
  refine g_get C (st_sub sti_T) 0 rfl rfl 8 (by decide) (List.mem_cons_of_mem _ kw_1_51) rfl rfl std_T_isEnough_2 ?_
  refine g_iconst C std_T_isEnough_5 ?_
  refine g_iald C 1 0 rfl rfl (by omega) (by omega) (by omega) std_T_isEnough_6 ?_
  refine g_icmp_lt (tgt := 24) C std_T_isEnough_7 (by decide) ⟨by omega, by omega⟩ ⟨by omega, by omega⟩ (fun c1 => ?_) (fun c1 => ?_)
  · refine g_iconst C std_T_isEnough_24 ?_
    exact hret _ _ _ () (by rw [bI_f (by omega)]) (by decide) std_T_isEnough_25
  · refine g_iload_n C 2 std_T_isEnough_10 rfl ?_
    refine g_aload_n C 0 std_T_isEnough_11 rfl ?_
    refine g_get C (st_sub sti_T) 0 rfl rfl 8 (by decide) (List.mem_cons_of_mem _ kw_1_51) rfl rfl std_T_isEnough_12 ?_
    refine g_iconst C std_T_isEnough_15 ?_
    refine g_iald C 1 0 rfl rfl (by omega) (by omega) (by omega) std_T_isEnough_16 ?_
    refine g_icmp_lt (tgt := 24) C std_T_isEnough_17 (by decide) ⟨by omega, by omega⟩ ⟨by omega, by omega⟩ (fun c2 => ?_) (fun c2 => ?_)
    · refine g_iconst C std_T_isEnough_24 ?_
      exact hret _ _ _ () (by rw [bI_f (by omega)]) (by decide) std_T_isEnough_25
    · refine g_iconst C std_T_isEnough_20 ?_
      refine g_goto (tgt := 25) C std_T_isEnough_21 (by decide) ?_
      exact hret _ _ _ () (by rw [bI_t (by omega)]) (by decide) std_T_isEnough_25

abbrev sty_T_addStep : MethodName := ⟨"StateTables$Told", "addStep", "()I"⟩
abbrev stc_T_addStep : ByteArray := prog_5_method_4_code
theorem sth_T_addStep : (sty_T_addStep).cls ≠ "java/lang/invoke/MethodHandle" ∧ (sty_T_addStep).cls ≠ "java/lang/invoke/VarHandle" ∧ (parseMethodDescriptor (sty_T_addStep).desc).map (fun d => d.parameters.length) = some 0 := by decide +kernel
theorem std_T_addStep_0 : decode stc_T_addStep 0 = .ok (.aload_n 0, 1) := by decide +kernel
theorem std_T_addStep_1 : decode stc_T_addStep 1 = .ok (.getfield 9, 3) := by decide +kernel
theorem std_T_addStep_4 : decode stc_T_addStep 4 = .ok (.aload_n 0, 1) := by decide +kernel
theorem std_T_addStep_5 : decode stc_T_addStep 5 = .ok (.getfield 33, 3) := by decide +kernel
theorem std_T_addStep_8 : decode stc_T_addStep 8 = .ok (.iconst 0, 1) := by decide +kernel
theorem std_T_addStep_9 : decode stc_T_addStep 9 = .ok (.iastore, 1) := by decide +kernel
theorem std_T_addStep_10 : decode stc_T_addStep 10 = .ok (.aload_n 0, 1) := by decide +kernel
theorem std_T_addStep_11 : decode stc_T_addStep 11 = .ok (.dup, 1) := by decide +kernel
theorem std_T_addStep_12 : decode stc_T_addStep 12 = .ok (.getfield 33, 3) := by decide +kernel
theorem std_T_addStep_15 : decode stc_T_addStep 15 = .ok (.iconst 1, 1) := by decide +kernel
theorem std_T_addStep_16 : decode stc_T_addStep 16 = .ok (.iadd, 1) := by decide +kernel
theorem std_T_addStep_17 : decode stc_T_addStep 17 = .ok (.putfield 33, 3) := by decide +kernel
theorem std_T_addStep_20 : decode stc_T_addStep 20 = .ok (.aload_n 0, 1) := by decide +kernel
theorem std_T_addStep_21 : decode stc_T_addStep 21 = .ok (.getfield 33, 3) := by decide +kernel
theorem std_T_addStep_24 : decode stc_T_addStep 24 = .ok (.iconst 1, 1) := by decide +kernel
theorem std_T_addStep_25 : decode stc_T_addStep 25 = .ok (.isub, 1) := by decide +kernel
theorem std_T_addStep_26 : decode stc_T_addStep 26 = .ok (.ireturn, 1) := by decide +kernel
set_option maxHeartbeats 4000000 in
set_option maxRecDepth 100000 in
theorem c_addStep (l : Launch) (dC : Nat → ClassId) (dI : Nat → Nat → Nat) (cI cJ cZ : ClassId) (t0 : Nat) (hs : Nat) (hc : Nat) (hf : Nat) (hg : Nat) (hb : Nat) (he : Nat) (hm : Nat) (steps : Int) (choices : Int) (bars : Int) (fsz : Int → Int) (kst : 0 ≤ steps ∧ steps < 12) : ∀ sz, Met l sty_T_addStep (Cond.code sty_T_addStep stc_T_addStep 1 (some .int) :: stGW) ({ frames := 0, cells := 0, slots := 0, locals := 0 } : Room) (va_Pc [.ref t0] (zPre (dC, dI) stCl [(cI, .int), (cJ, .long), (cZ, .boolean)] st_nw [(t0, .inr (1, [.int (iI steps), .int (iI choices), .int (iI bars), .ref hs, .ref hc, .ref hf, .ref hg, .ref hb, .ref he, .ref hm])), (hs, .inl (cI, aI 12 fsz))] sz)) (va_Qi (fun (r : Int32) (_ : Unit) => r = iI ((steps + 1) - 1)) (zPost (dC, dI) stCl [(cI, .int), (cJ, .long), (cZ, .boolean)] [(t0, .inr (1, [.int (iI steps), .int (iI choices), .int (iI bars), .ref hs, .ref hc, .ref hf, .ref hg, .ref hb, .ref he, .ref hm])), (hs, .inl (cI, aI 12 fsz))] sz (fun _ : Unit => [(t0, .inr (1, [.int (iI (steps + 1)), .int (iI choices), .int (iI bars), .ref hs, .ref hc, .ref hf, .ref hg, .ref hb, .ref he, .ref hm])), (hs, .inl (cI, aI 12 (uZ fsz steps 0)))])) (va_A [(t0, .inr (1, [.int (iI steps), .int (iI choices), .int (iI bars), .ref hs, .ref hc, .ref hf, .ref hg, .ref hb, .ref he, .ref hm])), (hs, .inl (cI, aI 12 fsz))] sz)) 0 0 (va_A [(t0, .inr (1, [.int (iI steps), .int (iI choices), .int (iI bars), .ref hs, .ref hc, .ref hf, .ref hg, .ref hb, .ref he, .ref hm])), (hs, .inl (cI, aI 12 fsz))] sz) := by
  refine met_i (by decide) rfl (Nat.le_of_ble_eq_true rfl) ?_
  intro p e s m below meth c A Q C hmn hret
  refine g_aload_n C 0 std_T_addStep_0 rfl ?_
  refine g_get C (st_sub sti_T) 0 rfl rfl 3 (by decide) (List.mem_cons_of_mem _ kw_1_33) rfl rfl std_T_addStep_1 ?_
  refine g_aload_n C 0 std_T_addStep_4 rfl ?_
  refine g_get C (st_sub sti_T) 0 rfl rfl 0 (by decide) (List.mem_cons_of_mem _ kw_1_25) rfl rfl std_T_addStep_5 ?_
  refine g_iconst C std_T_addStep_8 ?_
  refine g_iast C (ws' := [(t0, .inr (1, [.int (iI steps), .int (iI choices), .int (iI bars), .ref hs, .ref hc, .ref hf, .ref hg, .ref hb, .ref he, .ref hm])), (hs, .inl (cI, aI 12 (uZ fsz steps 0)))]) 1 0 rfl rfl (by omega) (by omega) (by omega) std_T_addStep_9 rfl ?_
  refine g_aload_n C 0 std_T_addStep_10 rfl ?_
  refine g_dup C std_T_addStep_11 rfl ?_
  refine g_get C (st_sub sti_T) 0 rfl rfl 0 (by decide) (List.mem_cons_of_mem _ kw_1_25) rfl rfl std_T_addStep_12 ?_
  refine g_iconst C std_T_addStep_15 ?_
  refine g_iadd C std_T_addStep_16 ?_
  refine g_put C (ws' := [(t0, .inr (1, [.int (iI (steps + 1)), .int (iI choices), .int (iI bars), .ref hs, .ref hc, .ref hf, .ref hg, .ref hb, .ref he, .ref hm])), (hs, .inl (cI, aI 12 (uZ fsz steps 0)))]) (st_sub sti_T) stt_T sto_T stn_T 0 rfl rfl 0 (by decide) (List.mem_cons_of_mem _ kw_1_25) rfl rfl rfl rfl (Nat.le_of_ble_eq_true rfl) std_T_addStep_17 rfl ?_
  refine g_aload_n C 0 std_T_addStep_20 rfl ?_
  refine g_get C (st_sub sti_T) 0 rfl rfl 0 (by decide) (List.mem_cons_of_mem _ kw_1_25) rfl rfl std_T_addStep_21 ?_
  refine g_iconst C std_T_addStep_24 ?_
  refine g_isub C std_T_addStep_25 ?_
  exact hret _ _ _ () (rfl) std_T_addStep_26

abbrev sty_T_addChoice : MethodName := ⟨"StateTables$Told", "addChoice", "(IIII)I"⟩
abbrev stc_T_addChoice : ByteArray := prog_5_method_5_code
theorem sth_T_addChoice : (sty_T_addChoice).cls ≠ "java/lang/invoke/MethodHandle" ∧ (sty_T_addChoice).cls ≠ "java/lang/invoke/VarHandle" ∧ (parseMethodDescriptor (sty_T_addChoice).desc).map (fun d => d.parameters.length) = some 4 := by decide +kernel
theorem std_T_addChoice_0 : decode stc_T_addChoice 0 = .ok (.aload_n 0, 1) := by decide +kernel
theorem std_T_addChoice_1 : decode stc_T_addChoice 1 = .ok (.getfield 9, 3) := by decide +kernel
theorem std_T_addChoice_4 : decode stc_T_addChoice 4 = .ok (.iload_n 1, 1) := by decide +kernel
theorem std_T_addChoice_5 : decode stc_T_addChoice 5 = .ok (.iaload, 1) := by decide +kernel
theorem std_T_addChoice_6 : decode stc_T_addChoice 6 = .ok (.istore 5, 2) := by decide +kernel
theorem std_T_addChoice_8 : decode stc_T_addChoice 8 = .ok (.iload_n 1, 1) := by decide +kernel
theorem std_T_addChoice_9 : decode stc_T_addChoice 9 = .ok (.iload 5, 2) := by decide +kernel
theorem std_T_addChoice_11 : decode stc_T_addChoice 11 = .ok (.invokestatic 41, 3) := by decide +kernel
theorem kw_1_235 : Cond.code sty_S_placeOf stc_S_placeOf 2 (some .int) ∈ stGW := st_t1 (List.mem_of_getElem? (i := 235) (by decide +kernel)) (by decide +kernel)
theorem kw_1_1 : Cond.initialized "StateTables" ∈ stGW := st_t1 (List.mem_of_getElem? (i := 1) (by decide +kernel)) (by decide +kernel)
theorem kw_1_234 : Cond.static (sty_S_placeOf) ∈ stGW := st_t1 (List.mem_of_getElem? (i := 234) (by decide +kernel)) (by decide +kernel)
theorem std_T_addChoice_14 : decode stc_T_addChoice 14 = .ok (.istore 6, 2) := by decide +kernel
theorem std_T_addChoice_16 : decode stc_T_addChoice 16 = .ok (.aload_n 0, 1) := by decide +kernel
theorem std_T_addChoice_17 : decode stc_T_addChoice 17 = .ok (.getfield 15, 3) := by decide +kernel
theorem kw_1_38 : Cond.fieldLink "StateTables$Told" 15 "StateTables$Told" "costs" "[I" ∈ stGW := st_t1 (List.mem_of_getElem? (i := 38) (by decide +kernel)) (by decide +kernel)
theorem std_T_addChoice_20 : decode stc_T_addChoice 20 = .ok (.iload 6, 2) := by decide +kernel
theorem std_T_addChoice_22 : decode stc_T_addChoice 22 = .ok (.iload_n 2, 1) := by decide +kernel
theorem std_T_addChoice_23 : decode stc_T_addChoice 23 = .ok (.iastore, 1) := by decide +kernel
theorem std_T_addChoice_24 : decode stc_T_addChoice 24 = .ok (.aload_n 0, 1) := by decide +kernel
theorem std_T_addChoice_25 : decode stc_T_addChoice 25 = .ok (.getfield 18, 3) := by decide +kernel
theorem kw_1_42 : Cond.fieldLink "StateTables$Told" 18 "StateTables$Told" "firstUses" "[I" ∈ stGW := st_t1 (List.mem_of_getElem? (i := 42) (by decide +kernel)) (by decide +kernel)
theorem std_T_addChoice_28 : decode stc_T_addChoice 28 = .ok (.iload 6, 2) := by decide +kernel
theorem std_T_addChoice_30 : decode stc_T_addChoice 30 = .ok (.iload_n 3, 1) := by decide +kernel
theorem std_T_addChoice_31 : decode stc_T_addChoice 31 = .ok (.iastore, 1) := by decide +kernel
theorem std_T_addChoice_32 : decode stc_T_addChoice 32 = .ok (.aload_n 0, 1) := by decide +kernel
theorem std_T_addChoice_33 : decode stc_T_addChoice 33 = .ok (.getfield 21, 3) := by decide +kernel
theorem kw_1_45 : Cond.fieldLink "StateTables$Told" 21 "StateTables$Told" "secondUses" "[I" ∈ stGW := st_t1 (List.mem_of_getElem? (i := 45) (by decide +kernel)) (by decide +kernel)
theorem std_T_addChoice_36 : decode stc_T_addChoice 36 = .ok (.iload 6, 2) := by decide +kernel
theorem std_T_addChoice_38 : decode stc_T_addChoice 38 = .ok (.iload 4, 2) := by decide +kernel
theorem std_T_addChoice_40 : decode stc_T_addChoice 40 = .ok (.iastore, 1) := by decide +kernel
theorem std_T_addChoice_41 : decode stc_T_addChoice 41 = .ok (.aload_n 0, 1) := by decide +kernel
theorem std_T_addChoice_42 : decode stc_T_addChoice 42 = .ok (.getfield 9, 3) := by decide +kernel
theorem std_T_addChoice_45 : decode stc_T_addChoice 45 = .ok (.iload_n 1, 1) := by decide +kernel
theorem std_T_addChoice_46 : decode stc_T_addChoice 46 = .ok (.dup2, 1) := by decide +kernel
theorem std_T_addChoice_47 : decode stc_T_addChoice 47 = .ok (.iaload, 1) := by decide +kernel
theorem std_T_addChoice_48 : decode stc_T_addChoice 48 = .ok (.iconst 1, 1) := by decide +kernel
theorem std_T_addChoice_49 : decode stc_T_addChoice 49 = .ok (.iadd, 1) := by decide +kernel
theorem std_T_addChoice_50 : decode stc_T_addChoice 50 = .ok (.iastore, 1) := by decide +kernel
theorem std_T_addChoice_51 : decode stc_T_addChoice 51 = .ok (.aload_n 0, 1) := by decide +kernel
theorem std_T_addChoice_52 : decode stc_T_addChoice 52 = .ok (.dup, 1) := by decide +kernel
theorem std_T_addChoice_53 : decode stc_T_addChoice 53 = .ok (.getfield 45, 3) := by decide +kernel
theorem kw_1_29 : Cond.fieldLink "StateTables$Told" 45 "StateTables$Told" "choices" "I" ∈ stGW := st_t1 (List.mem_of_getElem? (i := 29) (by decide +kernel)) (by decide +kernel)
theorem std_T_addChoice_56 : decode stc_T_addChoice 56 = .ok (.iconst 1, 1) := by decide +kernel
theorem std_T_addChoice_57 : decode stc_T_addChoice 57 = .ok (.iadd, 1) := by decide +kernel
theorem std_T_addChoice_58 : decode stc_T_addChoice 58 = .ok (.putfield 45, 3) := by decide +kernel
theorem std_T_addChoice_61 : decode stc_T_addChoice 61 = .ok (.iload 5, 2) := by decide +kernel
theorem std_T_addChoice_63 : decode stc_T_addChoice 63 = .ok (.ireturn, 1) := by decide +kernel
set_option maxHeartbeats 4000000 in
set_option maxRecDepth 100000 in
theorem c_addChoice (l : Launch) (dC : Nat → ClassId) (dI : Nat → Nat → Nat) (cI cJ cZ : ClassId) (t0 : Nat) (hs : Nat) (hc : Nat) (hf : Nat) (hg : Nat) (hb : Nat) (he : Nat) (hm : Nat) (steps : Int) (choices : Int) (bars : Int) (fsz : Int → Int) (fco : Int → Int) (ffu : Int → Int) (fsu : Int → Int) (a : Int) (x : Int) (y : Int) (z : Int) (ka : 0 ≤ a ∧ a < 12) (ksa : 0 ≤ fsz a ∧ fsz a < 6) : ∀ sz, Met l sty_T_addChoice (Cond.code sty_T_addChoice stc_T_addChoice 7 (some .int) :: stGW) ({ frames := 1, cells := 0, slots := 0, locals := 21 } : Room) (va_Pc [.ref t0, .int (iI a), .int (iI x), .int (iI y), .int (iI z)] (zPre (dC, dI) stCl [(cI, .int), (cJ, .long), (cZ, .boolean)] st_nw [(t0, .inr (1, [.int (iI steps), .int (iI choices), .int (iI bars), .ref hs, .ref hc, .ref hf, .ref hg, .ref hb, .ref he, .ref hm])), (hs, .inl (cI, aI 12 fsz)), (hc, .inl (cI, aI 72 fco)), (hf, .inl (cI, aI 72 ffu)), (hg, .inl (cI, aI 72 fsu))] sz)) (va_Qi (fun (r : Int32) (_ : Unit) => r = iI (fsz a)) (zPost (dC, dI) stCl [(cI, .int), (cJ, .long), (cZ, .boolean)] [(t0, .inr (1, [.int (iI steps), .int (iI choices), .int (iI bars), .ref hs, .ref hc, .ref hf, .ref hg, .ref hb, .ref he, .ref hm])), (hs, .inl (cI, aI 12 fsz)), (hc, .inl (cI, aI 72 fco)), (hf, .inl (cI, aI 72 ffu)), (hg, .inl (cI, aI 72 fsu))] sz (fun _ : Unit => [(t0, .inr (1, [.int (iI steps), .int (iI (choices + 1)), .int (iI bars), .ref hs, .ref hc, .ref hf, .ref hg, .ref hb, .ref he, .ref hm])), (hs, .inl (cI, aI 12 (uZ fsz a ((fsz a) + 1)))), (hc, .inl (cI, aI 72 (uZ fco ((a * 6) + (fsz a)) x))), (hf, .inl (cI, aI 72 (uZ ffu ((a * 6) + (fsz a)) y))), (hg, .inl (cI, aI 72 (uZ fsu ((a * 6) + (fsz a)) z)))])) (va_A [(t0, .inr (1, [.int (iI steps), .int (iI choices), .int (iI bars), .ref hs, .ref hc, .ref hf, .ref hg, .ref hb, .ref he, .ref hm])), (hs, .inl (cI, aI 12 fsz)), (hc, .inl (cI, aI 72 fco)), (hf, .inl (cI, aI 72 ffu)), (hg, .inl (cI, aI 72 fsu))] sz)) 0 0 (va_A [(t0, .inr (1, [.int (iI steps), .int (iI choices), .int (iI bars), .ref hs, .ref hc, .ref hf, .ref hg, .ref hb, .ref he, .ref hm])), (hs, .inl (cI, aI 12 fsz)), (hc, .inl (cI, aI 72 fco)), (hf, .inl (cI, aI 72 ffu)), (hg, .inl (cI, aI 72 fsu))] sz) := by
  refine met_i (by decide) rfl (Nat.le_of_ble_eq_true rfl) ?_
  intro p e s m below meth c A Q C hmn hret
  refine g_aload_n C 0 std_T_addChoice_0 rfl ?_
  refine g_get C (st_sub sti_T) 0 rfl rfl 3 (by decide) (List.mem_cons_of_mem _ kw_1_33) rfl rfl std_T_addChoice_1 ?_
  refine g_iload_n C 1 std_T_addChoice_4 rfl ?_
  refine g_iald C 1 0 rfl rfl (by omega) (by omega) (by omega) std_T_addChoice_5 ?_
  refine g_istore C (lv' := [(5, .int (iI (fsz a))), (0, .ref t0), (1, .int (iI a)), (2, .int (iI x)), (3, .int (iI y)), (4, .int (iI z))]) std_T_addChoice_6 (by decide) rfl ?_
  refine g_iload_n C 2 std_T_addChoice_8 rfl ?_
  refine g_iload C 0 std_T_addChoice_9 rfl ?_
  refine g_SN_i (wc := []) (wr := [(t0, .inr (1, [.int (iI steps), .int (iI choices), .int (iI bars), .ref hs, .ref hc, .ref hf, .ref hg, .ref hb, .ref he, .ref hm])), (hs, .inl (cI, aI 12 fsz)), (hc, .inl (cI, aI 72 fco)), (hf, .inl (cI, aI 72 ffu)), (hg, .inl (cI, aI 72 fsu))]) (rest := []) C (c_placeOf l dC dI cI cJ cZ a (fsz a) ) (st_cSN C kw_1_235 (List.mem_of_getElem? (i := 1) rfl) kw_1_1 kw_1_234 sth_S_placeOf ⟨Nat.le_of_ble_eq_true rfl, Nat.le_of_ble_eq_true rfl⟩) rfl rfl (Nat.le_of_ble_eq_true rfl) std_T_addChoice_11 ⟨Nat.le_of_ble_eq_true rfl, Nat.le_of_ble_eq_true rfl⟩ [] [0, 1, 2, 3, 4] rfl rfl rfl rfl (by decide) (fun r1 u2 h3 => ?_)
  subst h3
  refine g_ws (ws' := [(t0, .inr (1, [.int (iI steps), .int (iI choices), .int (iI bars), .ref hs, .ref hc, .ref hf, .ref hg, .ref hb, .ref he, .ref hm])), (hs, .inl (cI, aI 12 fsz)), (hc, .inl (cI, aI 72 fco)), (hf, .inl (cI, aI 72 ffu)), (hg, .inl (cI, aI 72 fsu))]) rfl ?_
  refine g_istore C (lv' := [(6, .int (iI ((a * 6) + (fsz a)))), (5, .int (iI (fsz a))), (0, .ref t0), (1, .int (iI a)), (2, .int (iI x)), (3, .int (iI y)), (4, .int (iI z))]) std_T_addChoice_14 (by decide) rfl ?_
  refine g_aload_n C 2 std_T_addChoice_16 rfl ?_
  refine g_get C (st_sub sti_T) 0 rfl rfl 4 (by decide) (List.mem_cons_of_mem _ kw_1_38) rfl rfl std_T_addChoice_17 ?_
  refine g_iload C 0 std_T_addChoice_20 rfl ?_
  refine g_iload_n C 4 std_T_addChoice_22 rfl ?_
  refine g_iast C (ws' := [(t0, .inr (1, [.int (iI steps), .int (iI choices), .int (iI bars), .ref hs, .ref hc, .ref hf, .ref hg, .ref hb, .ref he, .ref hm])), (hs, .inl (cI, aI 12 fsz)), (hc, .inl (cI, aI 72 (uZ fco ((a * 6) + (fsz a)) x))), (hf, .inl (cI, aI 72 ffu)), (hg, .inl (cI, aI 72 fsu))]) 2 0 rfl rfl (by omega) (by omega) (by omega) std_T_addChoice_23 rfl ?_
  refine g_aload_n C 2 std_T_addChoice_24 rfl ?_
  refine g_get C (st_sub sti_T) 0 rfl rfl 5 (by decide) (List.mem_cons_of_mem _ kw_1_42) rfl rfl std_T_addChoice_25 ?_
  refine g_iload C 0 std_T_addChoice_28 rfl ?_
  refine g_iload_n C 5 std_T_addChoice_30 rfl ?_
  refine g_iast C (ws' := [(t0, .inr (1, [.int (iI steps), .int (iI choices), .int (iI bars), .ref hs, .ref hc, .ref hf, .ref hg, .ref hb, .ref he, .ref hm])), (hs, .inl (cI, aI 12 fsz)), (hc, .inl (cI, aI 72 (uZ fco ((a * 6) + (fsz a)) x))), (hf, .inl (cI, aI 72 (uZ ffu ((a * 6) + (fsz a)) y))), (hg, .inl (cI, aI 72 fsu))]) 3 0 rfl rfl (by omega) (by omega) (by omega) std_T_addChoice_31 rfl ?_
  refine g_aload_n C 2 std_T_addChoice_32 rfl ?_
  refine g_get C (st_sub sti_T) 0 rfl rfl 6 (by decide) (List.mem_cons_of_mem _ kw_1_45) rfl rfl std_T_addChoice_33 ?_
  refine g_iload C 0 std_T_addChoice_36 rfl ?_
  refine g_iload C 6 std_T_addChoice_38 rfl ?_
  refine g_iast C (ws' := [(t0, .inr (1, [.int (iI steps), .int (iI choices), .int (iI bars), .ref hs, .ref hc, .ref hf, .ref hg, .ref hb, .ref he, .ref hm])), (hs, .inl (cI, aI 12 fsz)), (hc, .inl (cI, aI 72 (uZ fco ((a * 6) + (fsz a)) x))), (hf, .inl (cI, aI 72 (uZ ffu ((a * 6) + (fsz a)) y))), (hg, .inl (cI, aI 72 (uZ fsu ((a * 6) + (fsz a)) z)))]) 4 0 rfl rfl (by omega) (by omega) (by omega) std_T_addChoice_40 rfl ?_
  refine g_aload_n C 2 std_T_addChoice_41 rfl ?_
  refine g_get C (st_sub sti_T) 0 rfl rfl 3 (by decide) (List.mem_cons_of_mem _ kw_1_33) rfl rfl std_T_addChoice_42 ?_
  refine g_iload_n C 3 std_T_addChoice_45 rfl ?_
  refine g_dup2 C std_T_addChoice_46 rfl rfl ?_
  refine g_iald C 1 0 rfl rfl (by omega) (by omega) (by omega) std_T_addChoice_47 ?_
  refine g_iconst C std_T_addChoice_48 ?_
  refine g_iadd C std_T_addChoice_49 ?_
  refine g_iast C (ws' := [(t0, .inr (1, [.int (iI steps), .int (iI choices), .int (iI bars), .ref hs, .ref hc, .ref hf, .ref hg, .ref hb, .ref he, .ref hm])), (hs, .inl (cI, aI 12 (uZ fsz a ((fsz a) + 1)))), (hc, .inl (cI, aI 72 (uZ fco ((a * 6) + (fsz a)) x))), (hf, .inl (cI, aI 72 (uZ ffu ((a * 6) + (fsz a)) y))), (hg, .inl (cI, aI 72 (uZ fsu ((a * 6) + (fsz a)) z)))]) 1 0 rfl rfl (by omega) (by omega) (by omega) std_T_addChoice_50 rfl ?_
  refine g_aload_n C 2 std_T_addChoice_51 rfl ?_
  refine g_dup C std_T_addChoice_52 rfl ?_
  refine g_get C (st_sub sti_T) 0 rfl rfl 1 (by decide) (List.mem_cons_of_mem _ kw_1_29) rfl rfl std_T_addChoice_53 ?_
  refine g_iconst C std_T_addChoice_56 ?_
  refine g_iadd C std_T_addChoice_57 ?_
  refine g_put C (ws' := [(t0, .inr (1, [.int (iI steps), .int (iI (choices + 1)), .int (iI bars), .ref hs, .ref hc, .ref hf, .ref hg, .ref hb, .ref he, .ref hm])), (hs, .inl (cI, aI 12 (uZ fsz a ((fsz a) + 1)))), (hc, .inl (cI, aI 72 (uZ fco ((a * 6) + (fsz a)) x))), (hf, .inl (cI, aI 72 (uZ ffu ((a * 6) + (fsz a)) y))), (hg, .inl (cI, aI 72 (uZ fsu ((a * 6) + (fsz a)) z)))]) (st_sub sti_T) stt_T sto_T stn_T 0 rfl rfl 1 (by decide) (List.mem_cons_of_mem _ kw_1_29) rfl rfl rfl rfl (Nat.le_of_ble_eq_true rfl) std_T_addChoice_58 rfl ?_
  refine g_iload C 1 std_T_addChoice_61 rfl ?_
  refine g_wide (k := 0) (n := 0) (Nat.le_of_ble_eq_true rfl) (Nat.le_of_ble_eq_true rfl) ?_
  exact hret _ _ _ () (rfl) std_T_addChoice_63

abbrev sty_T_changeCost : MethodName := ⟨"StateTables$Told", "changeCost", "(III)I"⟩
abbrev stc_T_changeCost : ByteArray := prog_5_method_6_code
theorem sth_T_changeCost : (sty_T_changeCost).cls ≠ "java/lang/invoke/MethodHandle" ∧ (sty_T_changeCost).cls ≠ "java/lang/invoke/VarHandle" ∧ (parseMethodDescriptor (sty_T_changeCost).desc).map (fun d => d.parameters.length) = some 3 := by decide +kernel
theorem std_T_changeCost_0 : decode stc_T_changeCost 0 = .ok (.iload_n 1, 1) := by decide +kernel
theorem std_T_changeCost_1 : decode stc_T_changeCost 1 = .ok (.iload_n 2, 1) := by decide +kernel
theorem std_T_changeCost_2 : decode stc_T_changeCost 2 = .ok (.invokestatic 41, 3) := by decide +kernel
theorem std_T_changeCost_5 : decode stc_T_changeCost 5 = .ok (.istore 4, 2) := by decide +kernel
theorem std_T_changeCost_7 : decode stc_T_changeCost 7 = .ok (.aload_n 0, 1) := by decide +kernel
theorem std_T_changeCost_8 : decode stc_T_changeCost 8 = .ok (.getfield 15, 3) := by decide +kernel
theorem std_T_changeCost_11 : decode stc_T_changeCost 11 = .ok (.iload 4, 2) := by decide +kernel
theorem std_T_changeCost_13 : decode stc_T_changeCost 13 = .ok (.iaload, 1) := by decide +kernel
theorem std_T_changeCost_14 : decode stc_T_changeCost 14 = .ok (.istore 5, 2) := by decide +kernel
theorem std_T_changeCost_16 : decode stc_T_changeCost 16 = .ok (.aload_n 0, 1) := by decide +kernel
theorem std_T_changeCost_17 : decode stc_T_changeCost 17 = .ok (.getfield 15, 3) := by decide +kernel
theorem std_T_changeCost_20 : decode stc_T_changeCost 20 = .ok (.iload 4, 2) := by decide +kernel
theorem std_T_changeCost_22 : decode stc_T_changeCost 22 = .ok (.iload_n 3, 1) := by decide +kernel
theorem std_T_changeCost_23 : decode stc_T_changeCost 23 = .ok (.iastore, 1) := by decide +kernel
theorem std_T_changeCost_24 : decode stc_T_changeCost 24 = .ok (.iload 5, 2) := by decide +kernel
theorem std_T_changeCost_26 : decode stc_T_changeCost 26 = .ok (.ireturn, 1) := by decide +kernel
set_option maxHeartbeats 4000000 in
set_option maxRecDepth 100000 in
theorem c_changeCost (l : Launch) (dC : Nat → ClassId) (dI : Nat → Nat → Nat) (cI cJ cZ : ClassId) (t0 : Nat) (hs : Nat) (hc : Nat) (hf : Nat) (hg : Nat) (hb : Nat) (he : Nat) (hm : Nat) (steps : Int) (choices : Int) (bars : Int) (fco : Int → Int) (a : Int) (b : Int) (x : Int) (ka : 0 ≤ a ∧ a < 12) (kb : 0 ≤ b ∧ b < 6) : ∀ sz, Met l sty_T_changeCost (Cond.code sty_T_changeCost stc_T_changeCost 6 (some .int) :: stGW) ({ frames := 1, cells := 0, slots := 0, locals := 21 } : Room) (va_Pc [.ref t0, .int (iI a), .int (iI b), .int (iI x)] (zPre (dC, dI) stCl [(cI, .int), (cJ, .long), (cZ, .boolean)] st_nw [(t0, .inr (1, [.int (iI steps), .int (iI choices), .int (iI bars), .ref hs, .ref hc, .ref hf, .ref hg, .ref hb, .ref he, .ref hm])), (hc, .inl (cI, aI 72 fco))] sz)) (va_Qi (fun (r : Int32) (_ : Unit) => r = iI (fco ((a * 6) + b))) (zPost (dC, dI) stCl [(cI, .int), (cJ, .long), (cZ, .boolean)] [(t0, .inr (1, [.int (iI steps), .int (iI choices), .int (iI bars), .ref hs, .ref hc, .ref hf, .ref hg, .ref hb, .ref he, .ref hm])), (hc, .inl (cI, aI 72 fco))] sz (fun _ : Unit => [(t0, .inr (1, [.int (iI steps), .int (iI choices), .int (iI bars), .ref hs, .ref hc, .ref hf, .ref hg, .ref hb, .ref he, .ref hm])), (hc, .inl (cI, aI 72 (uZ fco ((a * 6) + b) x)))])) (va_A [(t0, .inr (1, [.int (iI steps), .int (iI choices), .int (iI bars), .ref hs, .ref hc, .ref hf, .ref hg, .ref hb, .ref he, .ref hm])), (hc, .inl (cI, aI 72 fco))] sz)) 0 0 (va_A [(t0, .inr (1, [.int (iI steps), .int (iI choices), .int (iI bars), .ref hs, .ref hc, .ref hf, .ref hg, .ref hb, .ref he, .ref hm])), (hc, .inl (cI, aI 72 fco))] sz) := by
  refine met_i (by decide) rfl (Nat.le_of_ble_eq_true rfl) ?_
  intro p e s m below meth c A Q C hmn hret
  refine g_iload_n C 1 std_T_changeCost_0 rfl ?_
  refine g_iload_n C 2 std_T_changeCost_1 rfl ?_
  refine g_SN_i (wc := []) (wr := [(t0, .inr (1, [.int (iI steps), .int (iI choices), .int (iI bars), .ref hs, .ref hc, .ref hf, .ref hg, .ref hb, .ref he, .ref hm])), (hc, .inl (cI, aI 72 fco))]) (rest := []) C (c_placeOf l dC dI cI cJ cZ a b ) (st_cSN C kw_1_235 (List.mem_of_getElem? (i := 1) rfl) kw_1_1 kw_1_234 sth_S_placeOf ⟨Nat.le_of_ble_eq_true rfl, Nat.le_of_ble_eq_true rfl⟩) rfl rfl (Nat.le_of_ble_eq_true rfl) std_T_changeCost_2 ⟨Nat.le_of_ble_eq_true rfl, Nat.le_of_ble_eq_true rfl⟩ [] [0, 1] rfl rfl rfl rfl (by decide) (fun r1 u2 h3 => ?_)
  subst h3
  refine g_ws (ws' := [(t0, .inr (1, [.int (iI steps), .int (iI choices), .int (iI bars), .ref hs, .ref hc, .ref hf, .ref hg, .ref hb, .ref he, .ref hm])), (hc, .inl (cI, aI 72 fco))]) rfl ?_
  refine g_istore C (lv' := [(4, .int (iI ((a * 6) + b))), (0, .ref t0), (1, .int (iI a)), (2, .int (iI b)), (3, .int (iI x))]) std_T_changeCost_5 (by decide) rfl ?_
  refine g_aload_n C 1 std_T_changeCost_7 rfl ?_
  refine g_get C (st_sub sti_T) 0 rfl rfl 4 (by decide) (List.mem_cons_of_mem _ kw_1_38) rfl rfl std_T_changeCost_8 ?_
  refine g_iload C 0 std_T_changeCost_11 rfl ?_
  refine g_iald C 1 0 rfl rfl (by omega) (by omega) (by omega) std_T_changeCost_13 ?_
  refine g_istore C (lv' := [(5, .int (iI (fco ((a * 6) + b)))), (4, .int (iI ((a * 6) + b))), (0, .ref t0), (1, .int (iI a)), (2, .int (iI b)), (3, .int (iI x))]) std_T_changeCost_14 (by decide) rfl ?_
  refine g_aload_n C 2 std_T_changeCost_16 rfl ?_
  refine g_get C (st_sub sti_T) 0 rfl rfl 4 (by decide) (List.mem_cons_of_mem _ kw_1_38) rfl rfl std_T_changeCost_17 ?_
  refine g_iload C 1 std_T_changeCost_20 rfl ?_
  refine g_iload_n C 5 std_T_changeCost_22 rfl ?_
  refine g_iast C (ws' := [(t0, .inr (1, [.int (iI steps), .int (iI choices), .int (iI bars), .ref hs, .ref hc, .ref hf, .ref hg, .ref hb, .ref he, .ref hm])), (hc, .inl (cI, aI 72 (uZ fco ((a * 6) + b) x)))]) 1 0 rfl rfl (by omega) (by omega) (by omega) std_T_changeCost_23 rfl ?_
  refine g_iload C 0 std_T_changeCost_24 rfl ?_
  refine g_wide (k := 0) (n := 0) (Nat.le_of_ble_eq_true rfl) (Nat.le_of_ble_eq_true rfl) ?_
  exact hret _ _ _ () (rfl) std_T_changeCost_26

abbrev sty_T_changeLimits : MethodName := ⟨"StateTables$Told", "changeLimits", "(III)I"⟩
abbrev stc_T_changeLimits : ByteArray := prog_5_method_7_code
theorem sth_T_changeLimits : (sty_T_changeLimits).cls ≠ "java/lang/invoke/MethodHandle" ∧ (sty_T_changeLimits).cls ≠ "java/lang/invoke/VarHandle" ∧ (parseMethodDescriptor (sty_T_changeLimits).desc).map (fun d => d.parameters.length) = some 3 := by decide +kernel
theorem std_T_changeLimits_0 : decode stc_T_changeLimits 0 = .ok (.bipush 100, 2) := by decide +kernel
theorem std_T_changeLimits_2 : decode stc_T_changeLimits 2 = .ok (.aload_n 0, 1) := by decide +kernel
theorem std_T_changeLimits_3 : decode stc_T_changeLimits 3 = .ok (.getfield 27, 3) := by decide +kernel
theorem std_T_changeLimits_6 : decode stc_T_changeLimits 6 = .ok (.iload_n 1, 1) := by decide +kernel
theorem std_T_changeLimits_7 : decode stc_T_changeLimits 7 = .ok (.iaload, 1) := by decide +kernel
theorem std_T_changeLimits_8 : decode stc_T_changeLimits 8 = .ok (.imul, 1) := by decide +kernel
theorem std_T_changeLimits_9 : decode stc_T_changeLimits 9 = .ok (.aload_n 0, 1) := by decide +kernel
theorem std_T_changeLimits_10 : decode stc_T_changeLimits 10 = .ok (.getfield 30, 3) := by decide +kernel
theorem std_T_changeLimits_13 : decode stc_T_changeLimits 13 = .ok (.iload_n 1, 1) := by decide +kernel
theorem std_T_changeLimits_14 : decode stc_T_changeLimits 14 = .ok (.iaload, 1) := by decide +kernel
theorem std_T_changeLimits_15 : decode stc_T_changeLimits 15 = .ok (.iadd, 1) := by decide +kernel
theorem std_T_changeLimits_16 : decode stc_T_changeLimits 16 = .ok (.istore 4, 2) := by decide +kernel
theorem std_T_changeLimits_18 : decode stc_T_changeLimits 18 = .ok (.aload_n 0, 1) := by decide +kernel
theorem std_T_changeLimits_19 : decode stc_T_changeLimits 19 = .ok (.getfield 27, 3) := by decide +kernel
theorem std_T_changeLimits_22 : decode stc_T_changeLimits 22 = .ok (.iload_n 1, 1) := by decide +kernel
theorem std_T_changeLimits_23 : decode stc_T_changeLimits 23 = .ok (.iload_n 2, 1) := by decide +kernel
theorem std_T_changeLimits_24 : decode stc_T_changeLimits 24 = .ok (.iastore, 1) := by decide +kernel
theorem std_T_changeLimits_25 : decode stc_T_changeLimits 25 = .ok (.aload_n 0, 1) := by decide +kernel
theorem std_T_changeLimits_26 : decode stc_T_changeLimits 26 = .ok (.getfield 30, 3) := by decide +kernel
theorem std_T_changeLimits_29 : decode stc_T_changeLimits 29 = .ok (.iload_n 1, 1) := by decide +kernel
theorem std_T_changeLimits_30 : decode stc_T_changeLimits 30 = .ok (.iload_n 3, 1) := by decide +kernel
theorem std_T_changeLimits_31 : decode stc_T_changeLimits 31 = .ok (.iastore, 1) := by decide +kernel
theorem std_T_changeLimits_32 : decode stc_T_changeLimits 32 = .ok (.iload 4, 2) := by decide +kernel
theorem std_T_changeLimits_34 : decode stc_T_changeLimits 34 = .ok (.ireturn, 1) := by decide +kernel
set_option maxHeartbeats 4000000 in
set_option maxRecDepth 100000 in
theorem c_changeLimits (l : Launch) (dC : Nat → ClassId) (dI : Nat → Nat → Nat) (cI cJ cZ : ClassId) (t0 : Nat) (hs : Nat) (hc : Nat) (hf : Nat) (hg : Nat) (hb : Nat) (he : Nat) (hm : Nat) (steps : Int) (choices : Int) (bars : Int) (fle : Int → Int) (fmo : Int → Int) (a : Int) (x : Int) (y : Int) (ka : 0 ≤ a ∧ a < 2) : ∀ sz, Met l sty_T_changeLimits (Cond.code sty_T_changeLimits stc_T_changeLimits 5 (some .int) :: stGW) ({ frames := 0, cells := 0, slots := 0, locals := 0 } : Room) (va_Pc [.ref t0, .int (iI a), .int (iI x), .int (iI y)] (zPre (dC, dI) stCl [(cI, .int), (cJ, .long), (cZ, .boolean)] st_nw [(t0, .inr (1, [.int (iI steps), .int (iI choices), .int (iI bars), .ref hs, .ref hc, .ref hf, .ref hg, .ref hb, .ref he, .ref hm])), (he, .inl (cI, aI 2 fle)), (hm, .inl (cI, aI 2 fmo))] sz)) (va_Qi (fun (r : Int32) (_ : Unit) => r = iI ((100 * (fle a)) + (fmo a))) (zPost (dC, dI) stCl [(cI, .int), (cJ, .long), (cZ, .boolean)] [(t0, .inr (1, [.int (iI steps), .int (iI choices), .int (iI bars), .ref hs, .ref hc, .ref hf, .ref hg, .ref hb, .ref he, .ref hm])), (he, .inl (cI, aI 2 fle)), (hm, .inl (cI, aI 2 fmo))] sz (fun _ : Unit => [(t0, .inr (1, [.int (iI steps), .int (iI choices), .int (iI bars), .ref hs, .ref hc, .ref hf, .ref hg, .ref hb, .ref he, .ref hm])), (he, .inl (cI, aI 2 (uZ fle a x))), (hm, .inl (cI, aI 2 (uZ fmo a y)))])) (va_A [(t0, .inr (1, [.int (iI steps), .int (iI choices), .int (iI bars), .ref hs, .ref hc, .ref hf, .ref hg, .ref hb, .ref he, .ref hm])), (he, .inl (cI, aI 2 fle)), (hm, .inl (cI, aI 2 fmo))] sz)) 0 0 (va_A [(t0, .inr (1, [.int (iI steps), .int (iI choices), .int (iI bars), .ref hs, .ref hc, .ref hf, .ref hg, .ref hb, .ref he, .ref hm])), (he, .inl (cI, aI 2 fle)), (hm, .inl (cI, aI 2 fmo))] sz) := by
  refine met_i (by decide) rfl (Nat.le_of_ble_eq_true rfl) ?_
  intro p e s m below meth c A Q C hmn hret
  refine g_bipush C std_T_changeLimits_0 (by decide) ?_
  refine g_aload_n C 0 std_T_changeLimits_2 rfl ?_
  refine g_get C (st_sub sti_T) 0 rfl rfl 8 (by decide) (List.mem_cons_of_mem _ kw_1_51) rfl rfl std_T_changeLimits_3 ?_
  refine g_iload_n C 1 std_T_changeLimits_6 rfl ?_
  refine g_iald C 1 0 rfl rfl (by omega) (by omega) (by omega) std_T_changeLimits_7 ?_
  refine g_imul C std_T_changeLimits_8 ?_
  refine g_aload_n C 0 std_T_changeLimits_9 rfl ?_
  refine g_get C (st_sub sti_T) 0 rfl rfl 9 (by decide) (List.mem_cons_of_mem _ kw_1_53) rfl rfl std_T_changeLimits_10 ?_
  refine g_iload_n C 1 std_T_changeLimits_13 rfl ?_
  refine g_iald C 2 0 rfl rfl (by omega) (by omega) (by omega) std_T_changeLimits_14 ?_
  refine g_iadd C std_T_changeLimits_15 ?_
  refine g_istore C (lv' := [(4, .int (iI ((100 * (fle a)) + (fmo a)))), (0, .ref t0), (1, .int (iI a)), (2, .int (iI x)), (3, .int (iI y))]) std_T_changeLimits_16 (by decide) rfl ?_
  refine g_aload_n C 1 std_T_changeLimits_18 rfl ?_
  refine g_get C (st_sub sti_T) 0 rfl rfl 8 (by decide) (List.mem_cons_of_mem _ kw_1_51) rfl rfl std_T_changeLimits_19 ?_
  refine g_iload_n C 2 std_T_changeLimits_22 rfl ?_
  refine g_iload_n C 3 std_T_changeLimits_23 rfl ?_
  refine g_iast C (ws' := [(t0, .inr (1, [.int (iI steps), .int (iI choices), .int (iI bars), .ref hs, .ref hc, .ref hf, .ref hg, .ref hb, .ref he, .ref hm])), (he, .inl (cI, aI 2 (uZ fle a x))), (hm, .inl (cI, aI 2 fmo))]) 1 0 rfl rfl (by omega) (by omega) (by omega) std_T_changeLimits_24 rfl ?_
  refine g_aload_n C 1 std_T_changeLimits_25 rfl ?_
  refine g_get C (st_sub sti_T) 0 rfl rfl 9 (by decide) (List.mem_cons_of_mem _ kw_1_53) rfl rfl std_T_changeLimits_26 ?_
  refine g_iload_n C 2 std_T_changeLimits_29 rfl ?_
  refine g_iload_n C 4 std_T_changeLimits_30 rfl ?_
  refine g_iast C (ws' := [(t0, .inr (1, [.int (iI steps), .int (iI choices), .int (iI bars), .ref hs, .ref hc, .ref hf, .ref hg, .ref hb, .ref he, .ref hm])), (he, .inl (cI, aI 2 (uZ fle a x))), (hm, .inl (cI, aI 2 (uZ fmo a y)))]) 2 0 rfl rfl (by omega) (by omega) (by omega) std_T_changeLimits_31 rfl ?_
  refine g_iload C 0 std_T_changeLimits_32 rfl ?_
  exact hret _ _ _ () (rfl) std_T_changeLimits_34

abbrev sty_T_changeBar : MethodName := ⟨"StateTables$Told", "changeBar", "(IIIZ)I"⟩
abbrev stc_T_changeBar : ByteArray := prog_5_method_8_code
theorem sth_T_changeBar : (sty_T_changeBar).cls ≠ "java/lang/invoke/MethodHandle" ∧ (sty_T_changeBar).cls ≠ "java/lang/invoke/VarHandle" ∧ (parseMethodDescriptor (sty_T_changeBar).desc).map (fun d => d.parameters.length) = some 4 := by decide +kernel
theorem std_T_changeBar_0 : decode stc_T_changeBar 0 = .ok (.iload_n 1, 1) := by decide +kernel
theorem std_T_changeBar_1 : decode stc_T_changeBar 1 = .ok (.iconst 1, 1) := by decide +kernel
theorem std_T_changeBar_2 : decode stc_T_changeBar 2 = .ok (.iadd, 1) := by decide +kernel
theorem std_T_changeBar_3 : decode stc_T_changeBar 3 = .ok (.iload_n 3, 1) := by decide +kernel
theorem std_T_changeBar_4 : decode stc_T_changeBar 4 = .ok (.invokestatic 41, 3) := by decide +kernel
theorem std_T_changeBar_7 : decode stc_T_changeBar 7 = .ok (.istore 5, 2) := by decide +kernel
theorem std_T_changeBar_9 : decode stc_T_changeBar 9 = .ok (.aload_n 0, 1) := by decide +kernel
theorem std_T_changeBar_10 : decode stc_T_changeBar 10 = .ok (.getfield 24, 3) := by decide +kernel
theorem kw_1_48 : Cond.fieldLink "StateTables$Told" 24 "StateTables$Told" "barredBehind" "[I" ∈ stGW := st_t1 (List.mem_of_getElem? (i := 48) (by decide +kernel)) (by decide +kernel)
theorem std_T_changeBar_13 : decode stc_T_changeBar 13 = .ok (.iload 5, 2) := by decide +kernel
theorem std_T_changeBar_15 : decode stc_T_changeBar 15 = .ok (.iaload, 1) := by decide +kernel
theorem std_T_changeBar_16 : decode stc_T_changeBar 16 = .ok (.iload_n 2, 1) := by decide +kernel
theorem std_T_changeBar_17 : decode stc_T_changeBar 17 = .ok (.ishr, 1) := by decide +kernel
theorem std_T_changeBar_18 : decode stc_T_changeBar 18 = .ok (.iconst 1, 1) := by decide +kernel
theorem std_T_changeBar_19 : decode stc_T_changeBar 19 = .ok (.iand, 1) := by decide +kernel
theorem std_T_changeBar_20 : decode stc_T_changeBar 20 = .ok (.istore 6, 2) := by decide +kernel
theorem std_T_changeBar_22 : decode stc_T_changeBar 22 = .ok (.iload 4, 2) := by decide +kernel
theorem std_T_changeBar_24 : decode stc_T_changeBar 24 = .ok (.ifCond .eq 7, 3) := by decide +kernel
theorem std_T_changeBar_31 : decode stc_T_changeBar 31 = .ok (.iconst 0, 1) := by decide +kernel
theorem std_T_changeBar_32 : decode stc_T_changeBar 32 = .ok (.istore 7, 2) := by decide +kernel
theorem std_T_changeBar_34 : decode stc_T_changeBar 34 = .ok (.aload_n 0, 1) := by decide +kernel
theorem std_T_changeBar_35 : decode stc_T_changeBar 35 = .ok (.getfield 24, 3) := by decide +kernel
theorem std_T_changeBar_38 : decode stc_T_changeBar 38 = .ok (.iload 5, 2) := by decide +kernel
theorem std_T_changeBar_40 : decode stc_T_changeBar 40 = .ok (.dup2, 1) := by decide +kernel
theorem std_T_changeBar_41 : decode stc_T_changeBar 41 = .ok (.iaload, 1) := by decide +kernel
theorem std_T_changeBar_42 : decode stc_T_changeBar 42 = .ok (.iload 6, 2) := by decide +kernel
theorem std_T_changeBar_44 : decode stc_T_changeBar 44 = .ok (.iload 7, 2) := by decide +kernel
theorem std_T_changeBar_46 : decode stc_T_changeBar 46 = .ok (.ixor, 1) := by decide +kernel
theorem std_T_changeBar_47 : decode stc_T_changeBar 47 = .ok (.iload_n 2, 1) := by decide +kernel
theorem std_T_changeBar_48 : decode stc_T_changeBar 48 = .ok (.ishl, 1) := by decide +kernel
theorem std_T_changeBar_49 : decode stc_T_changeBar 49 = .ok (.ixor, 1) := by decide +kernel
theorem std_T_changeBar_50 : decode stc_T_changeBar 50 = .ok (.iastore, 1) := by decide +kernel
theorem std_T_changeBar_51 : decode stc_T_changeBar 51 = .ok (.aload_n 0, 1) := by decide +kernel
theorem std_T_changeBar_52 : decode stc_T_changeBar 52 = .ok (.dup, 1) := by decide +kernel
theorem std_T_changeBar_53 : decode stc_T_changeBar 53 = .ok (.getfield 48, 3) := by decide +kernel
theorem kw_1_31 : Cond.fieldLink "StateTables$Told" 48 "StateTables$Told" "bars" "I" ∈ stGW := st_t1 (List.mem_of_getElem? (i := 31) (by decide +kernel)) (by decide +kernel)
theorem std_T_changeBar_56 : decode stc_T_changeBar 56 = .ok (.iload 7, 2) := by decide +kernel
theorem std_T_changeBar_58 : decode stc_T_changeBar 58 = .ok (.iload 6, 2) := by decide +kernel
theorem std_T_changeBar_60 : decode stc_T_changeBar 60 = .ok (.isub, 1) := by decide +kernel
theorem std_T_changeBar_61 : decode stc_T_changeBar 61 = .ok (.iadd, 1) := by decide +kernel
theorem std_T_changeBar_62 : decode stc_T_changeBar 62 = .ok (.putfield 48, 3) := by decide +kernel
theorem std_T_changeBar_65 : decode stc_T_changeBar 65 = .ok (.iload 6, 2) := by decide +kernel
theorem std_T_changeBar_67 : decode stc_T_changeBar 67 = .ok (.ireturn, 1) := by decide +kernel
theorem std_T_changeBar_27 : decode stc_T_changeBar 27 = .ok (.iconst 1, 1) := by decide +kernel
theorem std_T_changeBar_28 : decode stc_T_changeBar 28 = .ok (.goto 4, 3) := by decide +kernel
set_option maxHeartbeats 4000000 in
set_option maxRecDepth 100000 in
theorem c_changeBar (l : Launch) (dC : Nat → ClassId) (dI : Nat → Nat → Nat) (cI cJ cZ : ClassId) (t0 : Nat) (hs : Nat) (hc : Nat) (hf : Nat) (hg : Nat) (hb : Nat) (he : Nat) (hm : Nat) (steps : Int) (choices : Int) (bars : Int) (fbb : Int → Int) (a : Int) (x : Int) (b : Int) (v : Prop) (ka : 0 ≤ a ∧ a < 11) (kx : 0 ≤ x ∧ x < 6) (kb : 0 ≤ b ∧ b < 6) (kbb : 0 ≤ fbb (((a + 1) * 6) + b) ∧ fbb (((a + 1) * 6) + b) < 64) : ∀ sz, Met l sty_T_changeBar (Cond.code sty_T_changeBar stc_T_changeBar 8 (some .int) :: stGW) ({ frames := 1, cells := 0, slots := 0, locals := 21 } : Room) (va_Pc [.ref t0, .int (iI a), .int (iI x), .int (iI b), .int (iI (bI v))] (zPre (dC, dI) stCl [(cI, .int), (cJ, .long), (cZ, .boolean)] st_nw [(t0, .inr (1, [.int (iI steps), .int (iI choices), .int (iI bars), .ref hs, .ref hc, .ref hf, .ref hg, .ref hb, .ref he, .ref hm])), (hb, .inl (cI, aI 72 fbb))] sz)) (va_Qi (fun (r : Int32) (_ : Unit) => r = iI ((((fbb (((a + 1) * 6) + b)) / (2 ^ (x).toNat)) % 2))) (zPost (dC, dI) stCl [(cI, .int), (cJ, .long), (cZ, .boolean)] [(t0, .inr (1, [.int (iI steps), .int (iI choices), .int (iI bars), .ref hs, .ref hc, .ref hf, .ref hg, .ref hb, .ref he, .ref hm])), (hb, .inl (cI, aI 72 fbb))] sz (fun _ : Unit => [(t0, .inr (1, [.int (iI steps), .int (iI choices), .int (iI (bars + ((bI v) - (((fbb (((a + 1) * 6) + b)) / (2 ^ (x).toNat)) % 2)))), .ref hs, .ref hc, .ref hf, .ref hg, .ref hb, .ref he, .ref hm])), (hb, .inl (cI, aI 72 (uZ fbb (((a + 1) * 6) + b) ((fbb (((a + 1) * 6) + b)) + (((bI v) - (((fbb (((a + 1) * 6) + b)) / (2 ^ (x).toNat)) % 2)) * (2 ^ (x).toNat))))))])) (va_A [(t0, .inr (1, [.int (iI steps), .int (iI choices), .int (iI bars), .ref hs, .ref hc, .ref hf, .ref hg, .ref hb, .ref he, .ref hm])), (hb, .inl (cI, aI 72 fbb))] sz)) 0 0 (va_A [(t0, .inr (1, [.int (iI steps), .int (iI choices), .int (iI bars), .ref hs, .ref hc, .ref hf, .ref hg, .ref hb, .ref he, .ref hm])), (hb, .inl (cI, aI 72 fbb))] sz) := by
  refine met_i (by decide) rfl (Nat.le_of_ble_eq_true rfl) ?_
  intro p e s m below meth c A Q C hmn hret
  refine g_iload_n C 1 std_T_changeBar_0 rfl ?_
  refine g_iconst C std_T_changeBar_1 ?_
  refine g_iadd C std_T_changeBar_2 ?_
  refine g_iload_n C 3 std_T_changeBar_3 rfl ?_
  refine g_SN_i (wc := []) (wr := [(t0, .inr (1, [.int (iI steps), .int (iI choices), .int (iI bars), .ref hs, .ref hc, .ref hf, .ref hg, .ref hb, .ref he, .ref hm])), (hb, .inl (cI, aI 72 fbb))]) (rest := []) C (c_placeOf l dC dI cI cJ cZ (a + 1) b ) (st_cSN C kw_1_235 (List.mem_of_getElem? (i := 1) rfl) kw_1_1 kw_1_234 sth_S_placeOf ⟨Nat.le_of_ble_eq_true rfl, Nat.le_of_ble_eq_true rfl⟩) rfl rfl (Nat.le_of_ble_eq_true rfl) std_T_changeBar_4 ⟨Nat.le_of_ble_eq_true rfl, Nat.le_of_ble_eq_true rfl⟩ [] [0, 1] rfl rfl rfl rfl (by decide) (fun r1 u2 h3 => ?_)
  subst h3
  refine g_ws (ws' := [(t0, .inr (1, [.int (iI steps), .int (iI choices), .int (iI bars), .ref hs, .ref hc, .ref hf, .ref hg, .ref hb, .ref he, .ref hm])), (hb, .inl (cI, aI 72 fbb))]) rfl ?_
  refine g_istore C (lv' := [(5, .int (iI (((a + 1) * 6) + b))), (0, .ref t0), (1, .int (iI a)), (2, .int (iI x)), (3, .int (iI b)), (4, .int (iI (bI v)))]) std_T_changeBar_7 (by decide) rfl ?_
  refine g_aload_n C 1 std_T_changeBar_9 rfl ?_
  refine g_get C (st_sub sti_T) 0 rfl rfl 7 (by decide) (List.mem_cons_of_mem _ kw_1_48) rfl rfl std_T_changeBar_10 ?_
  refine g_iload C 0 std_T_changeBar_13 rfl ?_
  refine g_iald C 1 0 rfl rfl (by omega) (by omega) (by omega) std_T_changeBar_15 ?_
  refine g_iload_n C 3 std_T_changeBar_16 rfl ?_
  refine g_ishr C (d := (2 ^ (x).toNat)) std_T_changeBar_17 ⟨by omega, by omega⟩ (by omega) (by omega) rfl ?_
  refine g_iconst C std_T_changeBar_18 ?_
  refine g_iand C std_T_changeBar_19 (iI_andK (d := 2) 1 (by decide) (by decide) (by decide)) ?_
  refine g_istore C (lv' := [(6, .int (iI (((fbb (((a + 1) * 6) + b)) / (2 ^ (x).toNat)) % 2))), (5, .int (iI (((a + 1) * 6) + b))), (0, .ref t0), (1, .int (iI a)), (2, .int (iI x)), (3, .int (iI b)), (4, .int (iI (bI v)))]) std_T_changeBar_20 (by decide) rfl ?_
  refine g_iload C 6 std_T_changeBar_22 rfl ?_
  refine g_ifeq_b (tgt := 31) C std_T_changeBar_24 (by decide) (fun c4 => ?_) (fun c4 => ?_)
  · refine g_iconst C std_T_changeBar_31 ?_
    refine g_istore C (lv' := [(7, .int (iI 0)), (6, .int (iI (((fbb (((a + 1) * 6) + b)) / (2 ^ (x).toNat)) % 2))), (5, .int (iI (((a + 1) * 6) + b))), (0, .ref t0), (1, .int (iI a)), (2, .int (iI x)), (3, .int (iI b)), (4, .int (iI (bI v)))]) std_T_changeBar_32 (by decide) rfl ?_
    refine g_aload_n C 3 std_T_changeBar_34 rfl ?_
    refine g_get C (st_sub sti_T) 0 rfl rfl 7 (by decide) (List.mem_cons_of_mem _ kw_1_48) rfl rfl std_T_changeBar_35 ?_
    refine g_iload C 2 std_T_changeBar_38 rfl ?_
    refine g_dup2 C std_T_changeBar_40 rfl rfl ?_
    refine g_iald C 1 0 rfl rfl (by omega) (by omega) (by omega) std_T_changeBar_41 ?_
    refine g_iload C 1 std_T_changeBar_42 rfl ?_
    refine g_iload C 0 std_T_changeBar_44 rfl ?_
    refine g_ixor C (z := (((fbb (((a + 1) * 6) + b)) / (2 ^ (x).toNat)) % 2)) std_T_changeBar_46 (x00 _) ?_
    refine g_iload_n C 5 std_T_changeBar_47 rfl ?_
    refine g_ishl C (d := (2 ^ (x).toNat)) std_T_changeBar_48 (by omega) (by omega) rfl ?_
    refine g_ixor C (z := ((fbb (((a + 1) * 6) + b)) + ((0 - (((fbb (((a + 1) * 6) + b)) / (2 ^ (x).toNat)) % 2)) * (2 ^ (x).toNat)))) std_T_changeBar_49 (xbit0 (by omega) (by omega) (by omega) (by omega)) ?_
    refine g_iast C (ws' := [(t0, .inr (1, [.int (iI steps), .int (iI choices), .int (iI bars), .ref hs, .ref hc, .ref hf, .ref hg, .ref hb, .ref he, .ref hm])), (hb, .inl (cI, aI 72 (uZ fbb (((a + 1) * 6) + b) ((fbb (((a + 1) * 6) + b)) + ((0 - (((fbb (((a + 1) * 6) + b)) / (2 ^ (x).toNat)) % 2)) * (2 ^ (x).toNat))))))]) 1 0 rfl rfl (by omega) (by omega) (by omega) std_T_changeBar_50 rfl ?_
    refine g_aload_n C 3 std_T_changeBar_51 rfl ?_
    refine g_dup C std_T_changeBar_52 rfl ?_
    refine g_get C (st_sub sti_T) 0 rfl rfl 2 (by decide) (List.mem_cons_of_mem _ kw_1_31) rfl rfl std_T_changeBar_53 ?_
    refine g_iload C 0 std_T_changeBar_56 rfl ?_
    refine g_iload C 1 std_T_changeBar_58 rfl ?_
    refine g_isub C std_T_changeBar_60 ?_
    refine g_iadd C std_T_changeBar_61 ?_
    refine g_put C (ws' := [(t0, .inr (1, [.int (iI steps), .int (iI choices), .int (iI (bars + (0 - (((fbb (((a + 1) * 6) + b)) / (2 ^ (x).toNat)) % 2)))), .ref hs, .ref hc, .ref hf, .ref hg, .ref hb, .ref he, .ref hm])), (hb, .inl (cI, aI 72 (uZ fbb (((a + 1) * 6) + b) ((fbb (((a + 1) * 6) + b)) + ((0 - (((fbb (((a + 1) * 6) + b)) / (2 ^ (x).toNat)) % 2)) * (2 ^ (x).toNat))))))]) (st_sub sti_T) stt_T sto_T stn_T 0 rfl rfl 2 (by decide) (List.mem_cons_of_mem _ kw_1_31) rfl rfl rfl rfl (Nat.le_of_ble_eq_true rfl) std_T_changeBar_62 rfl ?_
    refine g_iload C 1 std_T_changeBar_65 rfl ?_
    refine g_wide (k := 0) (n := 0) (Nat.le_of_ble_eq_true rfl) (Nat.le_of_ble_eq_true rfl) ?_
    refine g_ws (ws' := [(t0, .inr (1, [.int (iI steps), .int (iI choices), .int (iI (bars + ((bI v) - (((fbb (((a + 1) * 6) + b)) / (2 ^ (x).toNat)) % 2)))), .ref hs, .ref hc, .ref hf, .ref hg, .ref hb, .ref he, .ref hm])), (hb, .inl (cI, aI 72 (uZ fbb (((a + 1) * 6) + b) ((fbb (((a + 1) * 6) + b)) + (((bI v) - (((fbb (((a + 1) * 6) + b)) / (2 ^ (x).toNat)) % 2)) * (2 ^ (x).toNat))))))]) (by rw [bI_f c4]) ?_
    exact hret _ _ _ () (rfl) std_T_changeBar_67
  · refine g_iconst C std_T_changeBar_27 ?_
    refine g_goto (tgt := 32) C std_T_changeBar_28 (by decide) ?_
    refine g_istore C (lv' := [(7, .int (iI 1)), (6, .int (iI (((fbb (((a + 1) * 6) + b)) / (2 ^ (x).toNat)) % 2))), (5, .int (iI (((a + 1) * 6) + b))), (0, .ref t0), (1, .int (iI a)), (2, .int (iI x)), (3, .int (iI b)), (4, .int (iI (bI v)))]) std_T_changeBar_32 (by decide) rfl ?_
    refine g_aload_n C 3 std_T_changeBar_34 rfl ?_
    refine g_get C (st_sub sti_T) 0 rfl rfl 7 (by decide) (List.mem_cons_of_mem _ kw_1_48) rfl rfl std_T_changeBar_35 ?_
    refine g_iload C 2 std_T_changeBar_38 rfl ?_
    refine g_dup2 C std_T_changeBar_40 rfl rfl ?_
    refine g_iald C 1 0 rfl rfl (by omega) (by omega) (by omega) std_T_changeBar_41 ?_
    refine g_iload C 1 std_T_changeBar_42 rfl ?_
    refine g_iload C 0 std_T_changeBar_44 rfl ?_
    refine g_ixor C (z := (1 - (((fbb (((a + 1) * 6) + b)) / (2 ^ (x).toNat)) % 2))) std_T_changeBar_46 (x01 _) ?_
    refine g_iload_n C 5 std_T_changeBar_47 rfl ?_
    refine g_ishl C (d := (2 ^ (x).toNat)) std_T_changeBar_48 (by omega) (by omega) rfl ?_
    refine g_ixor C (z := ((fbb (((a + 1) * 6) + b)) + ((1 - (((fbb (((a + 1) * 6) + b)) / (2 ^ (x).toNat)) % 2)) * (2 ^ (x).toNat)))) std_T_changeBar_49 (xbit1 (by omega) (by omega) (by omega) (by omega)) ?_
    refine g_iast C (ws' := [(t0, .inr (1, [.int (iI steps), .int (iI choices), .int (iI bars), .ref hs, .ref hc, .ref hf, .ref hg, .ref hb, .ref he, .ref hm])), (hb, .inl (cI, aI 72 (uZ fbb (((a + 1) * 6) + b) ((fbb (((a + 1) * 6) + b)) + ((1 - (((fbb (((a + 1) * 6) + b)) / (2 ^ (x).toNat)) % 2)) * (2 ^ (x).toNat))))))]) 1 0 rfl rfl (by omega) (by omega) (by omega) std_T_changeBar_50 rfl ?_
    refine g_aload_n C 3 std_T_changeBar_51 rfl ?_
    refine g_dup C std_T_changeBar_52 rfl ?_
    refine g_get C (st_sub sti_T) 0 rfl rfl 2 (by decide) (List.mem_cons_of_mem _ kw_1_31) rfl rfl std_T_changeBar_53 ?_
    refine g_iload C 0 std_T_changeBar_56 rfl ?_
    refine g_iload C 1 std_T_changeBar_58 rfl ?_
    refine g_isub C std_T_changeBar_60 ?_
    refine g_iadd C std_T_changeBar_61 ?_
    refine g_put C (ws' := [(t0, .inr (1, [.int (iI steps), .int (iI choices), .int (iI (bars + (1 - (((fbb (((a + 1) * 6) + b)) / (2 ^ (x).toNat)) % 2)))), .ref hs, .ref hc, .ref hf, .ref hg, .ref hb, .ref he, .ref hm])), (hb, .inl (cI, aI 72 (uZ fbb (((a + 1) * 6) + b) ((fbb (((a + 1) * 6) + b)) + ((1 - (((fbb (((a + 1) * 6) + b)) / (2 ^ (x).toNat)) % 2)) * (2 ^ (x).toNat))))))]) (st_sub sti_T) stt_T sto_T stn_T 0 rfl rfl 2 (by decide) (List.mem_cons_of_mem _ kw_1_31) rfl rfl rfl rfl (Nat.le_of_ble_eq_true rfl) std_T_changeBar_62 rfl ?_
    refine g_iload C 1 std_T_changeBar_65 rfl ?_
    refine g_wide (k := 0) (n := 0) (Nat.le_of_ble_eq_true rfl) (Nat.le_of_ble_eq_true rfl) ?_
    refine g_ws (ws' := [(t0, .inr (1, [.int (iI steps), .int (iI choices), .int (iI (bars + ((bI v) - (((fbb (((a + 1) * 6) + b)) / (2 ^ (x).toNat)) % 2)))), .ref hs, .ref hc, .ref hf, .ref hg, .ref hb, .ref he, .ref hm])), (hb, .inl (cI, aI 72 (uZ fbb (((a + 1) * 6) + b) ((fbb (((a + 1) * 6) + b)) + (((bI v) - (((fbb (((a + 1) * 6) + b)) / (2 ^ (x).toNat)) % 2)) * (2 ^ (x).toNat))))))]) (by rw [bI_t c4]) ?_
    exact hret _ _ _ () (rfl) std_T_changeBar_67

