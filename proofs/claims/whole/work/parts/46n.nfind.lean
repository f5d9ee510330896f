/-! NarrowLayers.findBound -/
abbrev sty_N_findBound : MethodName := ⟨"StateTables$NarrowLayers", "findBound", "(IZ)I"⟩
abbrev stc_N_findBound : ByteArray := prog_4_method_9_code
theorem sth_N_findBound : (sty_N_findBound).cls ≠ "java/lang/invoke/MethodHandle" ∧ (sty_N_findBound).cls ≠ "java/lang/invoke/VarHandle" ∧ (parseMethodDescriptor (sty_N_findBound).desc).map (fun d => d.parameters.length) = some 2 := by decide +kernel
theorem std_N_findBound_0 : decode stc_N_findBound 0 = .ok (.aload_n 0, 1) := by decide +kernel
theorem std_N_findBound_1 : decode stc_N_findBound 1 = .ok (.iconst 0, 1) := by decide +kernel
theorem std_N_findBound_2 : decode stc_N_findBound 2 = .ok (.putfield 22, 3) := by decide +kernel
theorem std_N_findBound_5 : decode stc_N_findBound 5 = .ok (.aload_n 0, 1) := by decide +kernel
theorem std_N_findBound_6 : decode stc_N_findBound 6 = .ok (.iconst 1, 1) := by decide +kernel
theorem std_N_findBound_7 : decode stc_N_findBound 7 = .ok (.putfield 26, 3) := by decide +kernel
theorem kw_1_164 : Cond.fieldLink "StateTables$NarrowLayers" 26 "StateTables$NarrowLayers" "widest" "I" ∈ stGW := st_t1 (List.mem_of_getElem? (i := 164) (by decide +kernel)) (by decide +kernel)
theorem std_N_findBound_10 : decode stc_N_findBound 10 = .ok (.aload_n 0, 1) := by decide +kernel
theorem std_N_findBound_11 : decode stc_N_findBound 11 = .ok (.iconst 0, 1) := by decide +kernel
theorem std_N_findBound_12 : decode stc_N_findBound 12 = .ok (.putfield 29, 3) := by decide +kernel
theorem std_N_findBound_15 : decode stc_N_findBound 15 = .ok (.aload_n 0, 1) := by decide +kernel
theorem std_N_findBound_16 : decode stc_N_findBound 16 = .ok (.getfield 11, 3) := by decide +kernel
theorem std_N_findBound_19 : decode stc_N_findBound 19 = .ok (.iconst 0, 1) := by decide +kernel
theorem std_N_findBound_20 : decode stc_N_findBound 20 = .ok (.iconst 0, 1) := by decide +kernel
theorem std_N_findBound_21 : decode stc_N_findBound 21 = .ok (.iconst 0, 1) := by decide +kernel
theorem std_N_findBound_22 : decode stc_N_findBound 22 = .ok (.iconst 0, 1) := by decide +kernel
theorem std_N_findBound_23 : decode stc_N_findBound 23 = .ok (.iconst 0, 1) := by decide +kernel
theorem std_N_findBound_24 : decode stc_N_findBound 24 = .ok (.iconst 0, 1) := by decide +kernel
theorem std_N_findBound_25 : decode stc_N_findBound 25 = .ok (.iconst 0, 1) := by decide +kernel
theorem std_N_findBound_26 : decode stc_N_findBound 26 = .ok (.invokestatic 32, 3) := by decide +kernel
theorem std_N_findBound_29 : decode stc_N_findBound 29 = .ok (.lastore, 1) := by decide +kernel
theorem std_N_findBound_30 : decode stc_N_findBound 30 = .ok (.aload_n 0, 1) := by decide +kernel
theorem std_N_findBound_31 : decode stc_N_findBound 31 = .ok (.iconst 1, 1) := by decide +kernel
theorem std_N_findBound_32 : decode stc_N_findBound 32 = .ok (.putfield 36, 3) := by decide +kernel
theorem std_N_findBound_35 : decode stc_N_findBound 35 = .ok (.iconst 0, 1) := by decide +kernel
theorem std_N_findBound_36 : decode stc_N_findBound 36 = .ok (.istore_n 3, 1) := by decide +kernel
theorem std_N_findBound_37 : decode stc_N_findBound 37 = .ok (.iload_n 3, 1) := by decide +kernel
theorem std_N_findBound_38 : decode stc_N_findBound 38 = .ok (.aload_n 0, 1) := by decide +kernel
theorem std_N_findBound_39 : decode stc_N_findBound 39 = .ok (.getfield 18, 3) := by decide +kernel
theorem std_N_findBound_42 : decode stc_N_findBound 42 = .ok (.getfield 39, 3) := by decide +kernel
theorem kw_1_28 : Cond.fieldLink "StateTables$NarrowLayers" 39 "StateTables$Told" "steps" "I" ∈ stGW := st_t1 (List.mem_of_getElem? (i := 28) (by decide +kernel)) (by decide +kernel)
theorem std_N_findBound_45 : decode stc_N_findBound 45 = .ok (.if_icmp .ge 43, 3) := by decide +kernel
theorem std_N_findBound_88 : decode stc_N_findBound 88 = .ok (.aload_n 0, 1) := by decide +kernel
theorem std_N_findBound_89 : decode stc_N_findBound 89 = .ok (.invokevirtual 58, 3) := by decide +kernel
theorem kw_3_48 : Cond.code sty_N_leastCostOfEnough stc_N_leastCostOfEnough 2 (some .int) ∈ stGW := st_t3 (List.mem_of_getElem? (i := 48) (by decide +kernel)) (by decide +kernel)
theorem kw_3_45 : Cond.methodLink "StateTables$NarrowLayers" 58 (sty_N_leastCostOfEnough) ∈ stGW := st_t3 (List.mem_of_getElem? (i := 45) (by decide +kernel)) (by decide +kernel)
theorem kw_3_47 : Cond.instanceMethod (sty_N_leastCostOfEnough) ∈ stGW := st_t3 (List.mem_of_getElem? (i := 47) (by decide +kernel)) (by decide +kernel)
theorem kw_0_17 : Cond.selects "StateTables$NarrowLayers" (sty_N_leastCostOfEnough) (sty_N_leastCostOfEnough) ∈ stGW := st_t0 (List.mem_of_getElem? (i := 17) (by decide +kernel)) (by decide +kernel)
theorem std_N_findBound_92 : decode stc_N_findBound 92 = .ok (.ireturn, 1) := by decide +kernel
theorem std_N_findBound_48 : decode stc_N_findBound 48 = .ok (.aload_n 0, 1) := by decide +kernel
theorem std_N_findBound_49 : decode stc_N_findBound 49 = .ok (.iload_n 3, 1) := by decide +kernel
theorem std_N_findBound_50 : decode stc_N_findBound 50 = .ok (.invokevirtual 44, 3) := by decide +kernel
theorem kw_2_236 : Cond.code sty_N_layBehind stc_N_layBehind 4 none ∈ stGW := st_t2 (List.mem_of_getElem? (i := 236) (by decide +kernel)) (by decide +kernel)
theorem kw_2_233 : Cond.methodLink "StateTables$NarrowLayers" 44 (sty_N_layBehind) ∈ stGW := st_t2 (List.mem_of_getElem? (i := 233) (by decide +kernel)) (by decide +kernel)
theorem kw_2_235 : Cond.instanceMethod (sty_N_layBehind) ∈ stGW := st_t2 (List.mem_of_getElem? (i := 235) (by decide +kernel)) (by decide +kernel)
theorem kw_0_12 : Cond.selects "StateTables$NarrowLayers" (sty_N_layBehind) (sty_N_layBehind) ∈ stGW := st_t0 (List.mem_of_getElem? (i := 12) (by decide +kernel)) (by decide +kernel)
theorem std_N_findBound_53 : decode stc_N_findBound 53 = .ok (.aload_n 0, 1) := by decide +kernel
theorem std_N_findBound_54 : decode stc_N_findBound 54 = .ok (.aload_n 0, 1) := by decide +kernel
theorem std_N_findBound_55 : decode stc_N_findBound 55 = .ok (.getfield 26, 3) := by decide +kernel
theorem std_N_findBound_58 : decode stc_N_findBound 58 = .ok (.aload_n 0, 1) := by decide +kernel
theorem std_N_findBound_59 : decode stc_N_findBound 59 = .ok (.getfield 36, 3) := by decide +kernel
theorem std_N_findBound_62 : decode stc_N_findBound 62 = .ok (.invokestatic 48, 3) := by decide +kernel
theorem std_N_findBound_65 : decode stc_N_findBound 65 = .ok (.putfield 26, 3) := by decide +kernel
theorem std_N_findBound_68 : decode stc_N_findBound 68 = .ok (.aload_n 0, 1) := by decide +kernel
theorem std_N_findBound_69 : decode stc_N_findBound 69 = .ok (.getfield 36, 3) := by decide +kernel
theorem std_N_findBound_72 : decode stc_N_findBound 72 = .ok (.iload_n 1, 1) := by decide +kernel
theorem std_N_findBound_73 : decode stc_N_findBound 73 = .ok (.if_icmp .le 9, 3) := by decide +kernel
theorem std_N_findBound_82 : decode stc_N_findBound 82 = .ok (.iinc 3 1, 3) := by decide +kernel
theorem std_N_findBound_85 : decode stc_N_findBound 85 = .ok (.goto (-48), 3) := by decide +kernel
theorem std_N_findBound_76 : decode stc_N_findBound 76 = .ok (.aload_n 0, 1) := by decide +kernel
theorem std_N_findBound_77 : decode stc_N_findBound 77 = .ok (.iload_n 1, 1) := by decide +kernel
theorem std_N_findBound_78 : decode stc_N_findBound 78 = .ok (.iload_n 2, 1) := by decide +kernel
theorem std_N_findBound_79 : decode stc_N_findBound 79 = .ok (.invokevirtual 54, 3) := by decide +kernel
theorem kw_3_40 : Cond.code sty_N_cutTo stc_N_cutTo 3 none ∈ stGW := st_t3 (List.mem_of_getElem? (i := 40) (by decide +kernel)) (by decide +kernel)
theorem kw_3_37 : Cond.methodLink "StateTables$NarrowLayers" 54 (sty_N_cutTo) ∈ stGW := st_t3 (List.mem_of_getElem? (i := 37) (by decide +kernel)) (by decide +kernel)
theorem kw_3_39 : Cond.instanceMethod (sty_N_cutTo) ∈ stGW := st_t3 (List.mem_of_getElem? (i := 39) (by decide +kernel)) (by decide +kernel)
theorem kw_0_15 : Cond.selects "StateTables$NarrowLayers" (sty_N_cutTo) (sty_N_cutTo) ∈ stGW := st_t0 (List.mem_of_getElem? (i := 15) (by decide +kernel)) (by decide +kernel)
set_option maxHeartbeats 4000000 in
set_option maxRecDepth 100000 in
theorem c_findBound (l : Launch) (dC : Nat → ClassId) (dI : Nat → Nat → Nat) (cI cJ cZ : ClassId) (n0 : Nat) (v1 : Nat) (v2 : Nat) (lo : Int) (wi : Int) (cu : Int) (si : Int) (nx : Int) (t0 : Nat) (hs : Nat) (hc : Nat) (hf : Nat) (hg : Nat) (hb : Nat) (he : Nat) (hm : Nat) (choices : Int) (bars : Int) (n : Nat) (fm : Int → Int) (fn : Int → Int) (fle : Int → Int) (fsz : Int → Int) (fco : Int → Int) (ffu : Int → Int) (fsu : Int → Int) (fbb : Int → Int) (fmo : Int → Int) (ww : Int) (lq : Prop) (kn : n ≤ 12) (kT : TB fsz fco ffu fsu fbb fmo) (kle : ∀ j, 0 ≤ j → j < 2 → 0 ≤ fle j ∧ fle j ≤ 40) (kw : 1 ≤ ww ∧ ww ≤ 60) : ∀ sz, Met l sty_N_findBound (Cond.code sty_N_findBound stc_N_findBound 4 (some .int) :: stGW) ({ frames := 4, cells := 0, slots := 0, locals := 114 } : Room) (va_Pc [.ref n0, .int (iI ww), .int (iI (bI lq))] (zPre (dC, dI) stCl [(cI, .int), (cJ, .long), (cZ, .boolean)] st_nw [(n0, .inr (4, [.ref t0, .int (iI lo), .int (iI wi), .int (iI cu), .int (iI si), .ref v1, .int (iI nx), .ref v2])), (v1, .inl (cJ, aL 360 fm)), (v2, .inl (cJ, aL 360 fn)), (t0, .inr (1, [.int (iI ((n : Nat) : Int)), .int (iI choices), .int (iI bars), .ref hs, .ref hc, .ref hf, .ref hg, .ref hb, .ref he, .ref hm])), (hs, .inl (cI, aI 12 fsz)), (hc, .inl (cI, aI 72 fco)), (hf, .inl (cI, aI 72 ffu)), (hg, .inl (cI, aI 72 fsu)), (hb, .inl (cI, aI 72 fbb)), (he, .inl (cI, aI 2 fle)), (hm, .inl (cI, aI 2 fmo))] sz)) (va_Qi (fun (r : Int32) (u : Nat × Nat × (Int → Int) × (Int → Int) × Int × Int × Int × Int × Int × Int) => r = iI u.2.2.2.2.2.2.2.2.2 ∧ WL fsz fco ffu fsu fbb fmo lq ww n u.2.2.2.2.2.2.2.1 u.2.2.1 u.2.2.2.2.1 u.2.2.2.2.2.1 u.2.2.2.2.2.2.1 ∧ WB fle u.2.2.1 u.2.2.2.2.2.2.2.1 u.2.2.2.2.2.2.2.2.2) (zPost (dC, dI) stCl [(cI, .int), (cJ, .long), (cZ, .boolean)] [(n0, .inr (4, [.ref t0, .int (iI lo), .int (iI wi), .int (iI cu), .int (iI si), .ref v1, .int (iI nx), .ref v2])), (v1, .inl (cJ, aL 360 fm)), (v2, .inl (cJ, aL 360 fn)), (t0, .inr (1, [.int (iI ((n : Nat) : Int)), .int (iI choices), .int (iI bars), .ref hs, .ref hc, .ref hf, .ref hg, .ref hb, .ref he, .ref hm])), (hs, .inl (cI, aI 12 fsz)), (hc, .inl (cI, aI 72 fco)), (hf, .inl (cI, aI 72 ffu)), (hg, .inl (cI, aI 72 fsu)), (hb, .inl (cI, aI 72 fbb)), (he, .inl (cI, aI 2 fle)), (hm, .inl (cI, aI 2 fmo))] sz (fun u : Nat × Nat × (Int → Int) × (Int → Int) × Int × Int × Int × Int × Int × Int => [(n0, .inr (4, [.ref t0, .int (iI (u.2.2.2.2.1)), .int (iI (u.2.2.2.2.2.1)), .int (iI (u.2.2.2.2.2.2.1)), .int (iI (u.2.2.2.2.2.2.2.1)), .ref u.1, .int (iI (u.2.2.2.2.2.2.2.2.1)), .ref u.2.1])), (u.1, .inl (cJ, aL 360 (u.2.2.1))), (u.2.1, .inl (cJ, aL 360 (u.2.2.2.1))), (t0, .inr (1, [.int (iI ((n : Nat) : Int)), .int (iI choices), .int (iI bars), .ref hs, .ref hc, .ref hf, .ref hg, .ref hb, .ref he, .ref hm])), (hs, .inl (cI, aI 12 fsz)), (hc, .inl (cI, aI 72 fco)), (hf, .inl (cI, aI 72 ffu)), (hg, .inl (cI, aI 72 fsu)), (hb, .inl (cI, aI 72 fbb)), (he, .inl (cI, aI 2 fle)), (hm, .inl (cI, aI 2 fmo))])) (va_A [(n0, .inr (4, [.ref t0, .int (iI lo), .int (iI wi), .int (iI cu), .int (iI si), .ref v1, .int (iI nx), .ref v2])), (v1, .inl (cJ, aL 360 fm)), (v2, .inl (cJ, aL 360 fn)), (t0, .inr (1, [.int (iI ((n : Nat) : Int)), .int (iI choices), .int (iI bars), .ref hs, .ref hc, .ref hf, .ref hg, .ref hb, .ref he, .ref hm])), (hs, .inl (cI, aI 12 fsz)), (hc, .inl (cI, aI 72 fco)), (hf, .inl (cI, aI 72 ffu)), (hg, .inl (cI, aI 72 fsu)), (hb, .inl (cI, aI 72 fbb)), (he, .inl (cI, aI 2 fle)), (hm, .inl (cI, aI 2 fmo))] sz)) 0 0 (va_A [(n0, .inr (4, [.ref t0, .int (iI lo), .int (iI wi), .int (iI cu), .int (iI si), .ref v1, .int (iI nx), .ref v2])), (v1, .inl (cJ, aL 360 fm)), (v2, .inl (cJ, aL 360 fn)), (t0, .inr (1, [.int (iI ((n : Nat) : Int)), .int (iI choices), .int (iI bars), .ref hs, .ref hc, .ref hf, .ref hg, .ref hb, .ref he, .ref hm])), (hs, .inl (cI, aI 12 fsz)), (hc, .inl (cI, aI 72 fco)), (hf, .inl (cI, aI 72 ffu)), (hg, .inl (cI, aI 72 fsu)), (hb, .inl (cI, aI 72 fbb)), (he, .inl (cI, aI 2 fle)), (hm, .inl (cI, aI 2 fmo))] sz) := by
  refine met_i (by decide) rfl (Nat.le_of_ble_eq_true rfl) ?_
  intro p e s m below meth c A Q C hmn hret
  refine g_aload_n C 0 std_N_findBound_0 rfl ?_
  refine g_iconst C std_N_findBound_1 ?_
  refine g_put C (ws' := [(n0, .inr (4, [.ref t0, .int (iI 0), .int (iI wi), .int (iI cu), .int (iI si), .ref v1, .int (iI nx), .ref v2])), (v1, .inl (cJ, aL 360 fm)), (v2, .inl (cJ, aL 360 fn)), (t0, .inr (1, [.int (iI ((n : Nat) : Int)), .int (iI choices), .int (iI bars), .ref hs, .ref hc, .ref hf, .ref hg, .ref hb, .ref he, .ref hm])), (hs, .inl (cI, aI 12 fsz)), (hc, .inl (cI, aI 72 fco)), (hf, .inl (cI, aI 72 ffu)), (hg, .inl (cI, aI 72 fsu)), (hb, .inl (cI, aI 72 fbb)), (he, .inl (cI, aI 2 fle)), (hm, .inl (cI, aI 2 fmo))]) (st_sub sti_N) stt_N sto_N stn_N 0 rfl rfl 1 (by decide) (List.mem_cons_of_mem _ kw_1_162) rfl rfl rfl rfl (Nat.le_of_ble_eq_true rfl) std_N_findBound_2 rfl ?_
  refine g_aload_n C 0 std_N_findBound_5 rfl ?_
  refine g_iconst C std_N_findBound_6 ?_
  refine g_put C (ws' := [(n0, .inr (4, [.ref t0, .int (iI 0), .int (iI 1), .int (iI cu), .int (iI si), .ref v1, .int (iI nx), .ref v2])), (v1, .inl (cJ, aL 360 fm)), (v2, .inl (cJ, aL 360 fn)), (t0, .inr (1, [.int (iI ((n : Nat) : Int)), .int (iI choices), .int (iI bars), .ref hs, .ref hc, .ref hf, .ref hg, .ref hb, .ref he, .ref hm])), (hs, .inl (cI, aI 12 fsz)), (hc, .inl (cI, aI 72 fco)), (hf, .inl (cI, aI 72 ffu)), (hg, .inl (cI, aI 72 fsu)), (hb, .inl (cI, aI 72 fbb)), (he, .inl (cI, aI 2 fle)), (hm, .inl (cI, aI 2 fmo))]) (st_sub sti_N) stt_N sto_N stn_N 0 rfl rfl 2 (by decide) (List.mem_cons_of_mem _ kw_1_164) rfl rfl rfl rfl (Nat.le_of_ble_eq_true rfl) std_N_findBound_7 rfl ?_
  refine g_aload_n C 0 std_N_findBound_10 rfl ?_
  refine g_iconst C std_N_findBound_11 ?_
  refine g_put C (ws' := [(n0, .inr (4, [.ref t0, .int (iI 0), .int (iI 1), .int (iI 0), .int (iI si), .ref v1, .int (iI nx), .ref v2])), (v1, .inl (cJ, aL 360 fm)), (v2, .inl (cJ, aL 360 fn)), (t0, .inr (1, [.int (iI ((n : Nat) : Int)), .int (iI choices), .int (iI bars), .ref hs, .ref hc, .ref hf, .ref hg, .ref hb, .ref he, .ref hm])), (hs, .inl (cI, aI 12 fsz)), (hc, .inl (cI, aI 72 fco)), (hf, .inl (cI, aI 72 ffu)), (hg, .inl (cI, aI 72 fsu)), (hb, .inl (cI, aI 72 fbb)), (he, .inl (cI, aI 2 fle)), (hm, .inl (cI, aI 2 fmo))]) (st_sub sti_N) stt_N sto_N stn_N 0 rfl rfl 3 (by decide) (List.mem_cons_of_mem _ kw_1_166) rfl rfl rfl rfl (Nat.le_of_ble_eq_true rfl) std_N_findBound_12 rfl ?_
  refine g_aload_n C 0 std_N_findBound_15 rfl ?_
  refine g_get C (st_sub sti_N) 0 rfl rfl 5 (by decide) (List.mem_cons_of_mem _ kw_1_169) rfl rfl std_N_findBound_16 ?_
  refine g_iconst C std_N_findBound_19 ?_
  refine g_iconst C std_N_findBound_20 ?_
  refine g_iconst C std_N_findBound_21 ?_
  refine g_iconst C std_N_findBound_22 ?_
  refine g_iconst C std_N_findBound_23 ?_
  refine g_iconst C std_N_findBound_24 ?_
  refine g_iconst C std_N_findBound_25 ?_
  refine g_S_l (wc := []) (wr := [(n0, .inr (4, [.ref t0, .int (iI 0), .int (iI 1), .int (iI 0), .int (iI si), .ref v1, .int (iI nx), .ref v2])), (v1, .inl (cJ, aL 360 fm)), (v2, .inl (cJ, aL 360 fn)), (t0, .inr (1, [.int (iI ((n : Nat) : Int)), .int (iI choices), .int (iI bars), .ref hs, .ref hc, .ref hf, .ref hg, .ref hb, .ref he, .ref hm])), (hs, .inl (cI, aI 12 fsz)), (hc, .inl (cI, aI 72 fco)), (hf, .inl (cI, aI 72 ffu)), (hg, .inl (cI, aI 72 fsu)), (hb, .inl (cI, aI 72 fbb)), (he, .inl (cI, aI 2 fle)), (hm, .inl (cI, aI 2 fmo))]) (rest := [.int (iI 0), .ref v1]) C (c_wideNode l dC dI cI cJ cZ 0 0 0 0 0 0 (by decide) (by decide) (by decide) (by decide) (by decide) (by decide)) (st_cS C kw_2_232 kw_2_230 kw_1_5 kw_2_231 sth_N_wideNode ⟨Nat.le_of_ble_eq_true rfl, Nat.le_of_ble_eq_true rfl⟩) rfl rfl (Nat.le_of_ble_eq_true rfl) std_N_findBound_26 ⟨Nat.le_of_ble_eq_true rfl, Nat.le_of_ble_eq_true rfl⟩ [] [0, 1, 2, 3, 4, 5, 6, 7, 8, 9, 10] rfl rfl rfl rfl (by decide) (fun r1 u2 h3 => ?_)
  subst h3
  refine g_ws (ws' := [(n0, .inr (4, [.ref t0, .int (iI 0), .int (iI 1), .int (iI 0), .int (iI si), .ref v1, .int (iI nx), .ref v2])), (v1, .inl (cJ, aL 360 fm)), (v2, .inl (cJ, aL 360 fn)), (t0, .inr (1, [.int (iI ((n : Nat) : Int)), .int (iI choices), .int (iI bars), .ref hs, .ref hc, .ref hf, .ref hg, .ref hb, .ref he, .ref hm])), (hs, .inl (cI, aI 12 fsz)), (hc, .inl (cI, aI 72 fco)), (hf, .inl (cI, aI 72 ffu)), (hg, .inl (cI, aI 72 fsu)), (hb, .inl (cI, aI 72 fbb)), (he, .inl (cI, aI 2 fle)), (hm, .inl (cI, aI 2 fmo))]) rfl ?_
  refine g_last C (ws' := [(n0, .inr (4, [.ref t0, .int (iI 0), .int (iI 1), .int (iI 0), .int (iI si), .ref v1, .int (iI nx), .ref v2])), (v1, .inl (cJ, aL 360 (uZ fm 0 (((0 + 12000) * 1073741824) + ((((((((0 * 64) + 0) * 64) + 0) * 64) + 0) * 64) + 0))))), (v2, .inl (cJ, aL 360 fn)), (t0, .inr (1, [.int (iI ((n : Nat) : Int)), .int (iI choices), .int (iI bars), .ref hs, .ref hc, .ref hf, .ref hg, .ref hb, .ref he, .ref hm])), (hs, .inl (cI, aI 12 fsz)), (hc, .inl (cI, aI 72 fco)), (hf, .inl (cI, aI 72 ffu)), (hg, .inl (cI, aI 72 fsu)), (hb, .inl (cI, aI 72 fbb)), (he, .inl (cI, aI 2 fle)), (hm, .inl (cI, aI 2 fmo))]) 1 1 rfl rfl (by omega) (by omega) (by omega) std_N_findBound_29 rfl ?_
  refine g_aload_n C 0 std_N_findBound_30 rfl ?_
  refine g_iconst C std_N_findBound_31 ?_
  refine g_put C (ws' := [(n0, .inr (4, [.ref t0, .int (iI 0), .int (iI 1), .int (iI 0), .int (iI 1), .ref v1, .int (iI nx), .ref v2])), (v1, .inl (cJ, aL 360 (uZ fm 0 (((0 + 12000) * 1073741824) + ((((((((0 * 64) + 0) * 64) + 0) * 64) + 0) * 64) + 0))))), (v2, .inl (cJ, aL 360 fn)), (t0, .inr (1, [.int (iI ((n : Nat) : Int)), .int (iI choices), .int (iI bars), .ref hs, .ref hc, .ref hf, .ref hg, .ref hb, .ref he, .ref hm])), (hs, .inl (cI, aI 12 fsz)), (hc, .inl (cI, aI 72 fco)), (hf, .inl (cI, aI 72 ffu)), (hg, .inl (cI, aI 72 fsu)), (hb, .inl (cI, aI 72 fbb)), (he, .inl (cI, aI 2 fle)), (hm, .inl (cI, aI 2 fmo))]) (st_sub sti_N) stt_N sto_N stn_N 0 rfl rfl 4 (by decide) (List.mem_cons_of_mem _ kw_1_168) rfl rfl rfl rfl (Nat.le_of_ble_eq_true rfl) std_N_findBound_32 rfl ?_
  refine g_iconst C std_N_findBound_35 ?_
  refine g_istore_n C (lv' := [(3, .int (iI 0)), (0, .ref n0), (1, .int (iI ww)), (2, .int (iI (bI lq)))]) std_N_findBound_36 (by decide) rfl ?_
  have L37 : ∀ (nn37 : Nat) (d : Nat) (a1 : Nat) (a2 : Nat) (FR : Int → Int) (GR : Int → Int) (mlo : Int) (mwi : Int) (mcu : Int) (msi : Int) (mnx : Int), d ≤ n → WL fsz fco ffu fsu fbb fmo lq ww d msi FR mlo mwi mcu → (0 ≤ mwi ∧ mwi ≤ 360) → ((n : Int) - (d : Int)) < (nn37 : Int) → G p l e ({ frames := 4, cells := 0, slots := 0, locals := 114 } : Room) s m ([.ref n0, .int (iI ww), .int (iI (bI lq))] : List Value).toArray below meth c (dC, dI) stCl 4 A 0 0 Q [(n0, .inr (4, [.ref t0, .int (iI mlo), .int (iI mwi), .int (iI mcu), .int (iI msi), .ref a1, .int (iI mnx), .ref a2])), (a1, .inl (cJ, aL 360 FR)), (a2, .inl (cJ, aL 360 GR)), (t0, .inr (1, [.int (iI ((n : Nat) : Int)), .int (iI choices), .int (iI bars), .ref hs, .ref hc, .ref hf, .ref hg, .ref hb, .ref he, .ref hm])), (hs, .inl (cI, aI 12 fsz)), (hc, .inl (cI, aI 72 fco)), (hf, .inl (cI, aI 72 ffu)), (hg, .inl (cI, aI 72 fsu)), (hb, .inl (cI, aI 72 fbb)), (he, .inl (cI, aI 2 fle)), (hm, .inl (cI, aI 2 fmo))] 37 [(3, .int (iI ((d : Nat) : Int))), (0, .ref n0), (1, .int (iI ww)), (2, .int (iI (bI lq)))] [] := by
    intro nn37
    induction nn37 with
    | zero =>
      intro d a1 a2 FR GR mlo mwi mcu msi mnx kd kW kwi hnn37
      exact absurd hnn37 (by omega)
    | succ nn37 ih37 =>
      intro d a1 a2 FR GR mlo mwi mcu msi mnx kd kW kwi hnn37
      have hWi := wl_i kT kw d (by omega) kW
      refine g_iload_n C 0 std_N_findBound_37 rfl ?_
      refine g_aload_n C 1 std_N_findBound_38 rfl ?_
      refine g_get C (st_sub sti_N) 0 rfl rfl 0 (by decide) (List.mem_cons_of_mem _ kw_1_161) rfl rfl std_N_findBound_39 ?_
      refine g_get C (st_sub sti_T) 3 rfl rfl 0 (by decide) (List.mem_cons_of_mem _ kw_1_28) rfl rfl std_N_findBound_42 ?_
      refine g_icmp_ge (tgt := 88) C std_N_findBound_45 (by decide) ⟨by omega, by omega⟩ ⟨by omega, by omega⟩ (fun c4 => ?_) (fun c4 => ?_)
      · refine g_aload_n C 1 std_N_findBound_88 rfl ?_
        refine g_V_i (wc := [(n0, .inr (4, [.ref t0, .int (iI mlo), .int (iI mwi), .int (iI mcu), .int (iI msi), .ref a1, .int (iI mnx), .ref a2])), (a1, .inl (cJ, aL 360 FR)), (t0, .inr (1, [.int (iI ((n : Nat) : Int)), .int (iI choices), .int (iI bars), .ref hs, .ref hc, .ref hf, .ref hg, .ref hb, .ref he, .ref hm])), (he, .inl (cI, aI 2 fle))]) (wr := [(a2, .inl (cJ, aL 360 GR)), (hs, .inl (cI, aI 12 fsz)), (hc, .inl (cI, aI 72 fco)), (hf, .inl (cI, aI 72 ffu)), (hg, .inl (cI, aI 72 fsu)), (hb, .inl (cI, aI 72 fbb)), (hm, .inl (cI, aI 2 fmo))]) (rest := []) C (c_leastCost l dC dI cI cJ cZ n0 a1 a2 mlo mwi mcu msi mnx t0 hs hc hf hg hb he hm ((n : Nat) : Int) choices bars FR fle (1000 * ((d : Nat) : Int)) (kle) (by omega) (hWi.2.1) (by omega)) (st_cV C kw_3_48 kw_3_45 kw_1_5 kw_3_47 kw_0_17 sth_N_leastCostOfEnough ⟨Nat.le_of_ble_eq_true rfl, Nat.le_of_ble_eq_true rfl⟩) 0 rfl rfl rfl rfl (Nat.le_of_ble_eq_true rfl) std_N_findBound_89 ⟨Nat.le_of_ble_eq_true rfl, Nat.le_of_ble_eq_true rfl⟩ [0, 1, 3, 9] [2, 4, 5, 6, 7, 8, 10] rfl rfl rfl rfl (by decide) (fun r5 u6 h7 => ?_)
        obtain ⟨h7r, h7p⟩ := h7
        subst h7r
        refine g_ws (ws' := [(a2, .inl (cJ, aL 360 GR)), (hs, .inl (cI, aI 12 fsz)), (hc, .inl (cI, aI 72 fco)), (hf, .inl (cI, aI 72 ffu)), (hg, .inl (cI, aI 72 fsu)), (hb, .inl (cI, aI 72 fbb)), (hm, .inl (cI, aI 2 fmo)), (n0, .inr (4, [.ref t0, .int (iI mlo), .int (iI mwi), .int (iI mcu), .int (iI msi), .ref a1, .int (iI mnx), .ref a2])), (a1, .inl (cJ, aL 360 FR)), (t0, .inr (1, [.int (iI ((n : Nat) : Int)), .int (iI choices), .int (iI bars), .ref hs, .ref hc, .ref hf, .ref hg, .ref hb, .ref he, .ref hm])), (he, .inl (cI, aI 2 fle))]) rfl ?_
        refine g_sub (ws' := [(n0, .inr (4, [.ref t0, .int (iI mlo), .int (iI mwi), .int (iI mcu), .int (iI msi), .ref a1, .int (iI mnx), .ref a2])), (a1, .inl (cJ, aL 360 FR)), (a2, .inl (cJ, aL 360 GR)), (t0, .inr (1, [.int (iI ((n : Nat) : Int)), .int (iI choices), .int (iI bars), .ref hs, .ref hc, .ref hf, .ref hg, .ref hb, .ref he, .ref hm])), (hs, .inl (cI, aI 12 fsz)), (hc, .inl (cI, aI 72 fco)), (hf, .inl (cI, aI 72 ffu)), (hg, .inl (cI, aI 72 fsu)), (hb, .inl (cI, aI 72 fbb)), (he, .inl (cI, aI 2 fle)), (hm, .inl (cI, aI 2 fmo))]) [7, 8, 0, 9, 1, 2, 3, 4, 5, 10, 6] rfl rfl ?_
        refine g_wide (k := 0) (n := 0) (Nat.le_of_ble_eq_true rfl) (Nat.le_of_ble_eq_true rfl) ?_
        exact hret _ _ _ (a1, a2, FR, GR, mlo, mwi, mcu, msi, mnx, u6) (⟨rfl, (show d = n by omega) ▸ kW, h7p⟩) std_N_findBound_92
      · refine g_aload_n C 1 std_N_findBound_48 rfl ?_
        refine g_iload_n C 0 std_N_findBound_49 rfl ?_
        refine g_V_v (wc := [(n0, .inr (4, [.ref t0, .int (iI mlo), .int (iI mwi), .int (iI mcu), .int (iI msi), .ref a1, .int (iI mnx), .ref a2])), (a1, .inl (cJ, aL 360 FR)), (a2, .inl (cJ, aL 360 GR)), (t0, .inr (1, [.int (iI ((n : Nat) : Int)), .int (iI choices), .int (iI bars), .ref hs, .ref hc, .ref hf, .ref hg, .ref hb, .ref he, .ref hm])), (hs, .inl (cI, aI 12 fsz)), (hc, .inl (cI, aI 72 fco)), (hf, .inl (cI, aI 72 ffu)), (hg, .inl (cI, aI 72 fsu)), (hb, .inl (cI, aI 72 fbb)), (hm, .inl (cI, aI 2 fmo))]) (wr := [(he, .inl (cI, aI 2 fle))]) (rest := []) C (c_nlay l dC dI cI cJ cZ n0 a1 a2 mlo mwi mcu msi mnx t0 hs hc hf hg hb he hm ((n : Nat) : Int) choices bars FR GR fsz fco ffu fsu fbb fmo ((d : Nat) : Int) (1000 * ((d : Nat) : Int)) (hWi.1) (by omega) (kT) (hWi.2.1) (by omega)) (st_cV C kw_2_236 kw_2_233 kw_1_5 kw_2_235 kw_0_12 sth_N_layBehind ⟨Nat.le_of_ble_eq_true rfl, Nat.le_of_ble_eq_true rfl⟩) 0 rfl rfl rfl rfl (Nat.le_of_ble_eq_true rfl) std_N_findBound_50 ⟨Nat.le_of_ble_eq_true rfl, Nat.le_of_ble_eq_true rfl⟩ [0, 1, 2, 3, 4, 5, 6, 7, 8, 10] [9] rfl rfl rfl rfl (by decide) (fun u9 h10 => ?_)
        obtain ⟨NA11, NB12, m13⟩ := u9
        dsimp only at h10
        refine g_ws (ws' := [(he, .inl (cI, aI 2 fle)), (n0, .inr (4, [.ref t0, .int (iI mlo), .int (iI mwi), .int (iI mcu), .int (iI m13), .ref a2, .int (iI m13), .ref a1])), (a1, .inl (cJ, aL 360 NA11)), (a2, .inl (cJ, aL 360 NB12)), (t0, .inr (1, [.int (iI ((n : Nat) : Int)), .int (iI choices), .int (iI bars), .ref hs, .ref hc, .ref hf, .ref hg, .ref hb, .ref he, .ref hm])), (hs, .inl (cI, aI 12 fsz)), (hc, .inl (cI, aI 72 fco)), (hf, .inl (cI, aI 72 ffu)), (hg, .inl (cI, aI 72 fsu)), (hb, .inl (cI, aI 72 fbb)), (hm, .inl (cI, aI 2 fmo))]) rfl ?_
        have hEN := h10
        have hR1 := en_wn kT (by omega) hWi.2.1 (by omega) hEN.1
        have hEm := hEN.1.1
        refine g_aload_n C 1 std_N_findBound_53 rfl ?_
        refine g_aload_n C 1 std_N_findBound_54 rfl ?_
        refine g_get C (st_sub sti_N) 1 rfl rfl 2 (by decide) (List.mem_cons_of_mem _ kw_1_164) rfl rfl std_N_findBound_55 ?_
        refine g_aload_n C 1 std_N_findBound_58 rfl ?_
        refine g_get C (st_sub sti_N) 1 rfl rfl 4 (by decide) (List.mem_cons_of_mem _ kw_1_168) rfl rfl std_N_findBound_59 ?_
        refine g_max C ⟨by omega, by omega⟩ ⟨by omega, by omega⟩ (List.mem_cons_of_mem _ kw_3_36) (List.mem_cons_of_mem _ kw_2_52) (List.mem_cons_of_mem _ kw_1_7) (List.mem_cons_of_mem _ kw_2_53) (Nat.le_of_ble_eq_true rfl) (Nat.le_of_ble_eq_true rfl) (Nat.le_of_ble_eq_true rfl) (Nat.le_of_ble_eq_true rfl) std_N_findBound_62 ?_
        refine g_put C (ws' := [(he, .inl (cI, aI 2 fle)), (n0, .inr (4, [.ref t0, .int (iI mlo), .int (iI (max mwi m13)), .int (iI mcu), .int (iI m13), .ref a2, .int (iI m13), .ref a1])), (a1, .inl (cJ, aL 360 NA11)), (a2, .inl (cJ, aL 360 NB12)), (t0, .inr (1, [.int (iI ((n : Nat) : Int)), .int (iI choices), .int (iI bars), .ref hs, .ref hc, .ref hf, .ref hg, .ref hb, .ref he, .ref hm])), (hs, .inl (cI, aI 12 fsz)), (hc, .inl (cI, aI 72 fco)), (hf, .inl (cI, aI 72 ffu)), (hg, .inl (cI, aI 72 fsu)), (hb, .inl (cI, aI 72 fbb)), (hm, .inl (cI, aI 2 fmo))]) (st_sub sti_N) stt_N sto_N stn_N 1 rfl rfl 2 (by decide) (List.mem_cons_of_mem _ kw_1_164) rfl rfl rfl rfl (Nat.le_of_ble_eq_true rfl) std_N_findBound_65 rfl ?_
        refine g_aload_n C 1 std_N_findBound_68 rfl ?_
        refine g_get C (st_sub sti_N) 1 rfl rfl 4 (by decide) (List.mem_cons_of_mem _ kw_1_168) rfl rfl std_N_findBound_69 ?_
        refine g_iload_n C 2 std_N_findBound_72 rfl ?_
        refine g_icmp_le (tgt := 82) C std_N_findBound_73 (by decide) ⟨by omega, by omega⟩ ⟨by omega, by omega⟩ (fun c14 => ?_) (fun c14 => ?_)
        · refine g_iinc C (lv' := [(3, .int (iI (((d : Nat) : Int) + 1))), (0, .ref n0), (1, .int (iI ww)), (2, .int (iI (bI lq)))]) 0 std_N_findBound_82 rfl (by decide) rfl ?_
          refine g_goto (tgt := 37) C std_N_findBound_85 (by decide) ?_
          refine g_sub (ws' := [(n0, .inr (4, [.ref t0, .int (iI mlo), .int (iI (max mwi m13)), .int (iI mcu), .int (iI m13), .ref a2, .int (iI m13), .ref a1])), (a2, .inl (cJ, aL 360 NB12)), (a1, .inl (cJ, aL 360 NA11)), (t0, .inr (1, [.int (iI ((n : Nat) : Int)), .int (iI choices), .int (iI bars), .ref hs, .ref hc, .ref hf, .ref hg, .ref hb, .ref he, .ref hm])), (hs, .inl (cI, aI 12 fsz)), (hc, .inl (cI, aI 72 fco)), (hf, .inl (cI, aI 72 ffu)), (hg, .inl (cI, aI 72 fsu)), (hb, .inl (cI, aI 72 fbb)), (he, .inl (cI, aI 2 fle)), (hm, .inl (cI, aI 2 fmo))]) [1, 3, 2, 4, 5, 6, 7, 8, 9, 0, 10] rfl rfl ?_
          refine g_wide (k := 0) (n := 0) (Nat.le_of_ble_eq_true rfl) (Nat.le_of_ble_eq_true rfl) ?_
          exact ih37 (d + 1) a2 a1 NB12 NA11 mlo (max mwi m13) mcu m13 m13 (by omega) (wl_a kW h10.1 (by omega)) (by omega) (by omega)
        · refine g_aload_n C 1 std_N_findBound_76 rfl ?_
          refine g_iload_n C 2 std_N_findBound_77 rfl ?_
          refine g_iload_n C 3 std_N_findBound_78 rfl ?_
          refine g_V_v (wc := [(n0, .inr (4, [.ref t0, .int (iI mlo), .int (iI (max mwi m13)), .int (iI mcu), .int (iI m13), .ref a2, .int (iI m13), .ref a1])), (a2, .inl (cJ, aL 360 NB12))]) (wr := [(he, .inl (cI, aI 2 fle)), (a1, .inl (cJ, aL 360 NA11)), (t0, .inr (1, [.int (iI ((n : Nat) : Int)), .int (iI choices), .int (iI bars), .ref hs, .ref hc, .ref hf, .ref hg, .ref hb, .ref he, .ref hm])), (hs, .inl (cI, aI 12 fsz)), (hc, .inl (cI, aI 72 fco)), (hf, .inl (cI, aI 72 ffu)), (hg, .inl (cI, aI 72 fsu)), (hb, .inl (cI, aI 72 fbb)), (hm, .inl (cI, aI 2 fmo))]) (rest := []) C (c_cutTo l dC dI cI cJ cZ n0 a2 a1 mlo (max mwi m13) mcu m13 m13 t0 NB12 ww lq ((1000 * ((d : Nat) : Int)) + 1000) (by omega) (by omega) (hR1) (by omega)) (st_cV C kw_3_40 kw_3_37 kw_1_5 kw_3_39 kw_0_15 sth_N_cutTo ⟨Nat.le_of_ble_eq_true rfl, Nat.le_of_ble_eq_true rfl⟩) 0 rfl rfl rfl rfl (Nat.le_of_ble_eq_true rfl) std_N_findBound_79 ⟨Nat.le_of_ble_eq_true rfl, Nat.le_of_ble_eq_true rfl⟩ [1, 3] [0, 2, 4, 5, 6, 7, 8, 9, 10] rfl rfl rfl rfl (by decide) (fun u16 h17 => ?_)
          obtain ⟨NA18, m19⟩ := u16
          dsimp only at h17
          refine g_ws (ws' := [(he, .inl (cI, aI 2 fle)), (a1, .inl (cJ, aL 360 NA11)), (t0, .inr (1, [.int (iI ((n : Nat) : Int)), .int (iI choices), .int (iI bars), .ref hs, .ref hc, .ref hf, .ref hg, .ref hb, .ref he, .ref hm])), (hs, .inl (cI, aI 12 fsz)), (hc, .inl (cI, aI 72 fco)), (hf, .inl (cI, aI 72 ffu)), (hg, .inl (cI, aI 72 fsu)), (hb, .inl (cI, aI 72 fbb)), (hm, .inl (cI, aI 2 fmo)), (n0, .inr (4, [.ref t0, .int (iI m19), .int (iI (max mwi m13)), .int (iI (mcu + 1)), .int (iI ww), .ref a2, .int (iI m13), .ref a1])), (a2, .inl (cJ, aL 360 NA18))]) rfl ?_
          refine g_iinc C (lv' := [(3, .int (iI (((d : Nat) : Int) + 1))), (0, .ref n0), (1, .int (iI ww)), (2, .int (iI (bI lq)))]) 0 std_N_findBound_82 rfl (by decide) rfl ?_
          refine g_goto (tgt := 37) C std_N_findBound_85 (by decide) ?_
          refine g_sub (ws' := [(n0, .inr (4, [.ref t0, .int (iI m19), .int (iI (max mwi m13)), .int (iI (mcu + 1)), .int (iI ww), .ref a2, .int (iI m13), .ref a1])), (a2, .inl (cJ, aL 360 NA18)), (a1, .inl (cJ, aL 360 NA11)), (t0, .inr (1, [.int (iI ((n : Nat) : Int)), .int (iI choices), .int (iI bars), .ref hs, .ref hc, .ref hf, .ref hg, .ref hb, .ref he, .ref hm])), (hs, .inl (cI, aI 12 fsz)), (hc, .inl (cI, aI 72 fco)), (hf, .inl (cI, aI 72 ffu)), (hg, .inl (cI, aI 72 fsu)), (hb, .inl (cI, aI 72 fbb)), (he, .inl (cI, aI 2 fle)), (hm, .inl (cI, aI 2 fmo))]) [9, 10, 1, 2, 3, 4, 5, 6, 7, 0, 8] rfl rfl ?_
          refine g_wide (k := 0) (n := 0) (Nat.le_of_ble_eq_true rfl) (Nat.le_of_ble_eq_true rfl) ?_
          exact ih37 (d + 1) a2 a1 NA18 NA11 m19 (max mwi m13) (mcu + 1) ww m13 (by omega) (wl_b kW h10.1 (by omega) h17) (by omega) (by omega)
  refine g_wide (k := 0) (n := 0) (Nat.le_of_ble_eq_true rfl) (Nat.le_of_ble_eq_true rfl) ?_
  obtain ⟨nn0, hnn0⟩ : ∃ nn0 : Nat, ((n : Int) - (0 : Int)) < (nn0 : Int) := z_nat _
  exact L37 nn0 0 v1 v2 (uZ fm 0 (((0 + 12000) * 1073741824) + ((((((((0 * 64) + 0) * 64) + 0) * 64) + 0) * 64) + 0))) fn 0 1 0 1 nx (by omega) (⟨rfl, by rw [uZ_s]; rfl, rfl, rfl, rfl⟩) (by omega) hnn0

