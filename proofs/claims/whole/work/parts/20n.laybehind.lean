/-! Layers.layBehind -/
abbrev sty_Y_layBehind : MethodName := ⟨"StateTables$Layers", "layBehind", "(I)Z"⟩
abbrev stc_Y_layBehind : ByteArray := prog_3_method_8_code
theorem sth_Y_layBehind : (sty_Y_layBehind).cls ≠ "java/lang/invoke/MethodHandle" ∧ (sty_Y_layBehind).cls ≠ "java/lang/invoke/VarHandle" ∧ (parseMethodDescriptor (sty_Y_layBehind).desc).map (fun d => d.parameters.length) = some 1 := by decide +kernel
theorem std_Y_layBehind_0 : decode stc_Y_layBehind 0 = .ok (.aload_n 0, 1) := by decide +kernel
theorem std_Y_layBehind_1 : decode stc_Y_layBehind 1 = .ok (.aload_n 0, 1) := by decide +kernel
theorem std_Y_layBehind_2 : decode stc_Y_layBehind 2 = .ok (.getfield 60, 3) := by decide +kernel
theorem std_Y_layBehind_5 : decode stc_Y_layBehind 5 = .ok (.sipush 400, 3) := by decide +kernel
theorem std_Y_layBehind_8 : decode stc_Y_layBehind 8 = .ok (.aload_n 0, 1) := by decide +kernel
theorem std_Y_layBehind_9 : decode stc_Y_layBehind 9 = .ok (.iload_n 1, 1) := by decide +kernel
theorem std_Y_layBehind_10 : decode stc_Y_layBehind 10 = .ok (.invokevirtual 51, 3) := by decide +kernel
theorem std_Y_layBehind_13 : decode stc_Y_layBehind 13 = .ok (.aload_n 0, 1) := by decide +kernel
theorem std_Y_layBehind_14 : decode stc_Y_layBehind 14 = .ok (.getfield 37, 3) := by decide +kernel
theorem std_Y_layBehind_17 : decode stc_Y_layBehind 17 = .ok (.getfield 66, 3) := by decide +kernel
theorem std_Y_layBehind_20 : decode stc_Y_layBehind 20 = .ok (.iload_n 1, 1) := by decide +kernel
theorem std_Y_layBehind_21 : decode stc_Y_layBehind 21 = .ok (.iaload, 1) := by decide +kernel
theorem std_Y_layBehind_22 : decode stc_Y_layBehind 22 = .ok (.imul, 1) := by decide +kernel
theorem std_Y_layBehind_23 : decode stc_Y_layBehind 23 = .ok (.invokestatic 69, 3) := by decide +kernel
theorem std_Y_layBehind_26 : decode stc_Y_layBehind 26 = .ok (.iadd, 1) := by decide +kernel
theorem std_Y_layBehind_27 : decode stc_Y_layBehind 27 = .ok (.invokevirtual 75, 3) := by decide +kernel
theorem kw_2_50 : Cond.code sty_Y_growTo stc_Y_growTo 3 none ∈ stGW := st_t2 (List.mem_of_getElem? (i := 50) (by decide +kernel)) (by decide +kernel)
theorem kw_2_47 : Cond.methodLink "StateTables$Layers" 75 (sty_Y_growTo) ∈ stGW := st_t2 (List.mem_of_getElem? (i := 47) (by decide +kernel)) (by decide +kernel)
theorem kw_2_49 : Cond.instanceMethod (sty_Y_growTo) ∈ stGW := st_t2 (List.mem_of_getElem? (i := 49) (by decide +kernel)) (by decide +kernel)
theorem kw_0_1 : Cond.selects "StateTables$Layers" (sty_Y_growTo) (sty_Y_growTo) ∈ stGW := st_t0 (List.mem_of_getElem? (i := 1) (by decide +kernel)) (by decide +kernel)
theorem std_Y_layBehind_30 : decode stc_Y_layBehind 30 = .ok (.iconst 0, 1) := by decide +kernel
theorem std_Y_layBehind_31 : decode stc_Y_layBehind 31 = .ok (.istore_n 2, 1) := by decide +kernel
theorem std_Y_layBehind_32 : decode stc_Y_layBehind 32 = .ok (.iload_n 2, 1) := by decide +kernel
theorem std_Y_layBehind_33 : decode stc_Y_layBehind 33 = .ok (.aload_n 0, 1) := by decide +kernel
theorem std_Y_layBehind_34 : decode stc_Y_layBehind 34 = .ok (.getfield 37, 3) := by decide +kernel
theorem std_Y_layBehind_37 : decode stc_Y_layBehind 37 = .ok (.getfield 66, 3) := by decide +kernel
theorem std_Y_layBehind_40 : decode stc_Y_layBehind 40 = .ok (.iload_n 1, 1) := by decide +kernel
theorem std_Y_layBehind_41 : decode stc_Y_layBehind 41 = .ok (.iaload, 1) := by decide +kernel
theorem std_Y_layBehind_42 : decode stc_Y_layBehind 42 = .ok (.if_icmp .ge 33, 3) := by decide +kernel
theorem std_Y_layBehind_75 : decode stc_Y_layBehind 75 = .ok (.iconst 0, 1) := by decide +kernel
theorem std_Y_layBehind_76 : decode stc_Y_layBehind 76 = .ok (.istore_n 2, 1) := by decide +kernel
theorem std_Y_layBehind_77 : decode stc_Y_layBehind 77 = .ok (.iload_n 2, 1) := by decide +kernel
theorem std_Y_layBehind_78 : decode stc_Y_layBehind 78 = .ok (.sipush 400, 3) := by decide +kernel
theorem std_Y_layBehind_81 : decode stc_Y_layBehind 81 = .ok (.if_icmp .gt 46, 3) := by decide +kernel
theorem std_Y_layBehind_127 : decode stc_Y_layBehind 127 = .ok (.iconst 0, 1) := by decide +kernel
theorem std_Y_layBehind_128 : decode stc_Y_layBehind 128 = .ok (.ireturn, 1) := by decide +kernel
theorem std_Y_layBehind_84 : decode stc_Y_layBehind 84 = .ok (.aload_n 0, 1) := by decide +kernel
theorem std_Y_layBehind_85 : decode stc_Y_layBehind 85 = .ok (.iload_n 1, 1) := by decide +kernel
theorem std_Y_layBehind_86 : decode stc_Y_layBehind 86 = .ok (.invokevirtual 86, 3) := by decide +kernel
theorem kw_2_105 : Cond.code sty_Y_choiceWithLeastKey stc_Y_choiceWithLeastKey 6 (some .int) ∈ stGW := st_t2 (List.mem_of_getElem? (i := 105) (by decide +kernel)) (by decide +kernel)
theorem kw_2_102 : Cond.methodLink "StateTables$Layers" 86 (sty_Y_choiceWithLeastKey) ∈ stGW := st_t2 (List.mem_of_getElem? (i := 102) (by decide +kernel)) (by decide +kernel)
theorem kw_2_104 : Cond.instanceMethod (sty_Y_choiceWithLeastKey) ∈ stGW := st_t2 (List.mem_of_getElem? (i := 104) (by decide +kernel)) (by decide +kernel)
theorem kw_0_4 : Cond.selects "StateTables$Layers" (sty_Y_choiceWithLeastKey) (sty_Y_choiceWithLeastKey) ∈ stGW := st_t0 (List.mem_of_getElem? (i := 4) (by decide +kernel)) (by decide +kernel)
theorem std_Y_layBehind_89 : decode stc_Y_layBehind 89 = .ok (.istore_n 3, 1) := by decide +kernel
theorem std_Y_layBehind_90 : decode stc_Y_layBehind 90 = .ok (.iload_n 3, 1) := by decide +kernel
theorem std_Y_layBehind_91 : decode stc_Y_layBehind 91 = .ok (.ifCond .ge 17, 3) := by decide +kernel
theorem std_Y_layBehind_108 : decode stc_Y_layBehind 108 = .ok (.iload_n 2, 1) := by decide +kernel
theorem std_Y_layBehind_109 : decode stc_Y_layBehind 109 = .ok (.sipush 400, 3) := by decide +kernel
theorem std_Y_layBehind_112 : decode stc_Y_layBehind 112 = .ok (.if_icmp .ge 9, 3) := by decide +kernel
theorem std_Y_layBehind_121 : decode stc_Y_layBehind 121 = .ok (.iinc 2 1, 3) := by decide +kernel
theorem std_Y_layBehind_124 : decode stc_Y_layBehind 124 = .ok (.goto (-47), 3) := by decide +kernel
theorem std_Y_layBehind_115 : decode stc_Y_layBehind 115 = .ok (.aload_n 0, 1) := by decide +kernel
theorem std_Y_layBehind_116 : decode stc_Y_layBehind 116 = .ok (.iload_n 1, 1) := by decide +kernel
theorem std_Y_layBehind_117 : decode stc_Y_layBehind 117 = .ok (.iload_n 3, 1) := by decide +kernel
theorem std_Y_layBehind_118 : decode stc_Y_layBehind 118 = .ok (.invokevirtual 89, 3) := by decide +kernel
theorem kw_2_109 : Cond.code sty_Y_addNode stc_Y_addNode 7 none ∈ stGW := st_t2 (List.mem_of_getElem? (i := 109) (by decide +kernel)) (by decide +kernel)
theorem kw_2_106 : Cond.methodLink "StateTables$Layers" 89 (sty_Y_addNode) ∈ stGW := st_t2 (List.mem_of_getElem? (i := 106) (by decide +kernel)) (by decide +kernel)
theorem kw_2_108 : Cond.instanceMethod (sty_Y_addNode) ∈ stGW := st_t2 (List.mem_of_getElem? (i := 108) (by decide +kernel)) (by decide +kernel)
theorem kw_0_5 : Cond.selects "StateTables$Layers" (sty_Y_addNode) (sty_Y_addNode) ∈ stGW := st_t0 (List.mem_of_getElem? (i := 5) (by decide +kernel)) (by decide +kernel)
theorem std_Y_layBehind_94 : decode stc_Y_layBehind 94 = .ok (.aload_n 0, 1) := by decide +kernel
theorem std_Y_layBehind_95 : decode stc_Y_layBehind 95 = .ok (.getfield 9, 3) := by decide +kernel
theorem std_Y_layBehind_98 : decode stc_Y_layBehind 98 = .ok (.iload_n 1, 1) := by decide +kernel
theorem std_Y_layBehind_99 : decode stc_Y_layBehind 99 = .ok (.iconst 2, 1) := by decide +kernel
theorem std_Y_layBehind_100 : decode stc_Y_layBehind 100 = .ok (.iadd, 1) := by decide +kernel
theorem std_Y_layBehind_101 : decode stc_Y_layBehind 101 = .ok (.aload_n 0, 1) := by decide +kernel
theorem std_Y_layBehind_102 : decode stc_Y_layBehind 102 = .ok (.getfield 60, 3) := by decide +kernel
theorem std_Y_layBehind_105 : decode stc_Y_layBehind 105 = .ok (.iastore, 1) := by decide +kernel
theorem std_Y_layBehind_106 : decode stc_Y_layBehind 106 = .ok (.iconst 1, 1) := by decide +kernel
theorem std_Y_layBehind_107 : decode stc_Y_layBehind 107 = .ok (.ireturn, 1) := by decide +kernel
theorem std_Y_layBehind_45 : decode stc_Y_layBehind 45 = .ok (.aload_n 0, 1) := by decide +kernel
theorem std_Y_layBehind_46 : decode stc_Y_layBehind 46 = .ok (.iload_n 1, 1) := by decide +kernel
theorem std_Y_layBehind_47 : decode stc_Y_layBehind 47 = .ok (.iload_n 2, 1) := by decide +kernel
theorem std_Y_layBehind_48 : decode stc_Y_layBehind 48 = .ok (.invokevirtual 79, 3) := by decide +kernel
theorem kw_2_79 : Cond.code sty_Y_findKeysBehind stc_Y_findKeysBehind 10 none ∈ stGW := st_t2 (List.mem_of_getElem? (i := 79) (by decide +kernel)) (by decide +kernel)
theorem kw_2_76 : Cond.methodLink "StateTables$Layers" 79 (sty_Y_findKeysBehind) ∈ stGW := st_t2 (List.mem_of_getElem? (i := 76) (by decide +kernel)) (by decide +kernel)
theorem kw_2_78 : Cond.instanceMethod (sty_Y_findKeysBehind) ∈ stGW := st_t2 (List.mem_of_getElem? (i := 78) (by decide +kernel)) (by decide +kernel)
theorem kw_0_2 : Cond.selects "StateTables$Layers" (sty_Y_findKeysBehind) (sty_Y_findKeysBehind) ∈ stGW := st_t0 (List.mem_of_getElem? (i := 2) (by decide +kernel)) (by decide +kernel)
theorem std_Y_layBehind_51 : decode stc_Y_layBehind 51 = .ok (.aload_n 0, 1) := by decide +kernel
theorem std_Y_layBehind_52 : decode stc_Y_layBehind 52 = .ok (.getfield 34, 3) := by decide +kernel
theorem std_Y_layBehind_55 : decode stc_Y_layBehind 55 = .ok (.iload_n 2, 1) := by decide +kernel
theorem std_Y_layBehind_56 : decode stc_Y_layBehind 56 = .ok (.aload_n 0, 1) := by decide +kernel
theorem std_Y_layBehind_57 : decode stc_Y_layBehind 57 = .ok (.getfield 9, 3) := by decide +kernel
theorem std_Y_layBehind_60 : decode stc_Y_layBehind 60 = .ok (.iload_n 1, 1) := by decide +kernel
theorem std_Y_layBehind_61 : decode stc_Y_layBehind 61 = .ok (.iaload, 1) := by decide +kernel
theorem std_Y_layBehind_62 : decode stc_Y_layBehind 62 = .ok (.iastore, 1) := by decide +kernel
theorem std_Y_layBehind_63 : decode stc_Y_layBehind 63 = .ok (.aload_n 0, 1) := by decide +kernel
theorem std_Y_layBehind_64 : decode stc_Y_layBehind 64 = .ok (.iload_n 1, 1) := by decide +kernel
theorem std_Y_layBehind_65 : decode stc_Y_layBehind 65 = .ok (.iload_n 2, 1) := by decide +kernel
theorem std_Y_layBehind_66 : decode stc_Y_layBehind 66 = .ok (.invokevirtual 83, 3) := by decide +kernel
theorem std_Y_layBehind_69 : decode stc_Y_layBehind 69 = .ok (.iinc 2 1, 3) := by decide +kernel
theorem std_Y_layBehind_72 : decode stc_Y_layBehind 72 = .ok (.goto (-40), 3) := by decide +kernel
set_option maxHeartbeats 4000000 in
set_option maxRecDepth 100000 in
theorem c_layBehind (l : Launch) (dC : Nat → ClassId) (dI : Nat → Nat → Nat) (cI cJ cZ : ClassId) (y0 : Nat) (ys : Nat) (yk : Nat) (yc : Nat) (yd : Nat) (yw : Nat) (yx : Nat) (yb : Nat) (yu : Nat) (total : Int) (t0 : Nat) (hs : Nat) (hc : Nat) (hf : Nat) (hg : Nat) (hb : Nat) (he : Nat) (hm : Nat) (steps : Int) (choices : Int) (bars : Int) (cap : Nat) (N : Nat) (q : Nat) (d : Nat) (gst : Int → Int) (gk : Int → Int) (gct : Int → Int) (gcf : Int → Int) (gwt : Int → Int) (gwf : Int → Int) (gbe : Int → Int) (gcu : Int → Int) (fsz : Int → Int) (fco : Int → Int) (ffu : Int → Int) (fsu : Int → Int) (fbb : Int → Int) (fmo : Int → Int) (kcap : cap ≤ 4801) (kgst : ∀ j, 0 ≤ j → j < 14 → 0 ≤ gst j ∧ gst j ≤ cap) (kd : d < 12) (kT : TB fsz fco ffu fsu fbb fmo) (ks : (gst ((d : Nat) : Int)) ≤ (gst (((d : Nat) : Int) + 1)) ∧ (gst (((d : Nat) : Int) + 1)) = total ∧ total ≤ 1 + 400 * ((d : Nat) : Int)) (kL : LO fsz fco ffu fsu fbb fmo d (gst ((d : Nat) : Int)) (gst (((d : Nat) : Int) + 1)) gk gwt gct) (kN : ((total + (min 400 (((gst (((d : Nat) : Int) + 1)) - (gst ((d : Nat) : Int))) * (fsz ((d : Nat) : Int))))) ≤ (cap : Int) ∧ N = cap) ∨ ((cap : Int) < (total + (min 400 (((gst (((d : Nat) : Int) + 1)) - (gst ((d : Nat) : Int))) * (fsz ((d : Nat) : Int))))) ∧ (N : Int) = max (total + (min 400 (((gst (((d : Nat) : Int) + 1)) - (gst ((d : Nat) : Int))) * (fsz ((d : Nat) : Int))))) (min (2 * (cap : Int)) 4801))) (kq : (total + (min 400 (((gst (((d : Nat) : Int) + 1)) - (gst ((d : Nat) : Int))) * (fsz ((d : Nat) : Int))))) ≤ (cap : Int) ∨ 11 * N ≤ q) : ∀ sz, Met l sty_Y_layBehind (Cond.code sty_Y_layBehind stc_Y_layBehind 4 (some .boolean) :: stGW) ({ frames := 3, cells := 6, slots := q, locals := 84 } : Room) (va_Pc [.ref y0, .int (iI ((d : Nat) : Int))] (zPre (dC, dI) stCl [(cI, .int), (cJ, .long), (cZ, .boolean)] st_nw [(y0, .inr (2, [.ref t0, .int (iI total), .ref ys, .ref yk, .ref yc, .ref yd, .ref yw, .ref yx, .ref yb, .ref yu])), (ys, .inl (cI, aI 14 gst)), (yk, .inl (cI, aI cap gk)), (yc, .inl (cI, aI cap gct)), (yd, .inl (cI, aI cap gcf)), (yw, .inl (cJ, aL cap gwt)), (yx, .inl (cJ, aL cap gwf)), (yb, .inl (cI, aI (6 * cap) gbe)), (yu, .inl (cI, aI 6 gcu)), (t0, .inr (1, [.int (iI steps), .int (iI choices), .int (iI bars), .ref hs, .ref hc, .ref hf, .ref hg, .ref hb, .ref he, .ref hm])), (hs, .inl (cI, aI 12 fsz)), (hc, .inl (cI, aI 72 fco)), (hf, .inl (cI, aI 72 ffu)), (hg, .inl (cI, aI 72 fsu)), (hb, .inl (cI, aI 72 fbb)), (hm, .inl (cI, aI 2 fmo))] sz)) (va_Qi (fun (r : Int32) (u : Nat × Nat × Nat × Nat × Nat × Nat × (Int → Int) × (Int → Int) × (Int → Int) × (Int → Int) × (Int → Int) × (Int → Int) × (Int → Int) × (Int → Int) × Int) => r = iI (bI ((cn fsz ffu fsu fbb fmo (d + 1)) ≤ 400)) ∧ (∀ j, 0 ≤ j → j < 14 → 0 ≤ u.2.2.2.2.2.2.1 j ∧ u.2.2.2.2.2.2.1 j ≤ (N : Int)) ∧ ((cn fsz ffu fsu fbb fmo (d + 1)) ≤ 400 → u.2.2.2.2.2.2.1 = uZ gst (((d : Nat) : Int) + 2) u.2.2.2.2.2.2.2.2.2.2.2.2.2.2 ∧ ((gst (((d : Nat) : Int) + 1)) ≤ u.2.2.2.2.2.2.2.2.2.2.2.2.2.2 ∧ u.2.2.2.2.2.2.2.2.2.2.2.2.2.2 ≤ (gst (((d : Nat) : Int) + 1)) + 400) ∧ LO fsz fco ffu fsu fbb fmo (d + 1) (gst (((d : Nat) : Int) + 1)) u.2.2.2.2.2.2.2.2.2.2.2.2.2.2 u.2.2.2.2.2.2.2.1 u.2.2.2.2.2.2.2.2.2.2.1 u.2.2.2.2.2.2.2.2.1 ∧ LK fsz ffu fsu fbb fmo gk d (gst ((d : Nat) : Int)) (gst (((d : Nat) : Int) + 1)) u.2.2.2.2.2.2.2.2.2.2.2.2.2.2 u.2.2.2.2.2.2.2.2.2.2.2.2.1 u.2.2.2.2.2.2.2.1 ∧ (∀ i, 0 ≤ i → i < (gst (((d : Nat) : Int) + 1)) → u.2.2.2.2.2.2.2.1 i = gk i ∧ u.2.2.2.2.2.2.2.2.1 i = gct i ∧ u.2.2.2.2.2.2.2.2.2.2.1 i = gwt i) ∧ (∀ j, 0 ≤ j → j < (gst ((d : Nat) : Int)) * 6 → u.2.2.2.2.2.2.2.2.2.2.2.2.1 j = gbe j))) (zPost (dC, dI) stCl [(cI, .int), (cJ, .long), (cZ, .boolean)] [(y0, .inr (2, [.ref t0, .int (iI total), .ref ys, .ref yk, .ref yc, .ref yd, .ref yw, .ref yx, .ref yb, .ref yu])), (ys, .inl (cI, aI 14 gst)), (yk, .inl (cI, aI cap gk)), (yc, .inl (cI, aI cap gct)), (yd, .inl (cI, aI cap gcf)), (yw, .inl (cJ, aL cap gwt)), (yx, .inl (cJ, aL cap gwf)), (yb, .inl (cI, aI (6 * cap) gbe)), (yu, .inl (cI, aI 6 gcu)), (t0, .inr (1, [.int (iI steps), .int (iI choices), .int (iI bars), .ref hs, .ref hc, .ref hf, .ref hg, .ref hb, .ref he, .ref hm])), (hs, .inl (cI, aI 12 fsz)), (hc, .inl (cI, aI 72 fco)), (hf, .inl (cI, aI 72 ffu)), (hg, .inl (cI, aI 72 fsu)), (hb, .inl (cI, aI 72 fbb)), (hm, .inl (cI, aI 2 fmo))] sz (fun u : Nat × Nat × Nat × Nat × Nat × Nat × (Int → Int) × (Int → Int) × (Int → Int) × (Int → Int) × (Int → Int) × (Int → Int) × (Int → Int) × (Int → Int) × Int => [(y0, .inr (2, [.ref t0, .int (iI (u.2.2.2.2.2.2.2.2.2.2.2.2.2.2)), .ref ys, .ref u.1, .ref u.2.1, .ref u.2.2.1, .ref u.2.2.2.1, .ref u.2.2.2.2.1, .ref u.2.2.2.2.2.1, .ref yu])), (ys, .inl (cI, aI 14 (u.2.2.2.2.2.2.1))), (u.1, .inl (cI, aI N (u.2.2.2.2.2.2.2.1))), (u.2.1, .inl (cI, aI N (u.2.2.2.2.2.2.2.2.1))), (u.2.2.1, .inl (cI, aI N (u.2.2.2.2.2.2.2.2.2.1))), (u.2.2.2.1, .inl (cJ, aL N (u.2.2.2.2.2.2.2.2.2.2.1))), (u.2.2.2.2.1, .inl (cJ, aL N (u.2.2.2.2.2.2.2.2.2.2.2.1))), (u.2.2.2.2.2.1, .inl (cI, aI (6 * N) (u.2.2.2.2.2.2.2.2.2.2.2.2.1))), (yu, .inl (cI, aI 6 (u.2.2.2.2.2.2.2.2.2.2.2.2.2.1))), (t0, .inr (1, [.int (iI steps), .int (iI choices), .int (iI bars), .ref hs, .ref hc, .ref hf, .ref hg, .ref hb, .ref he, .ref hm])), (hs, .inl (cI, aI 12 fsz)), (hc, .inl (cI, aI 72 fco)), (hf, .inl (cI, aI 72 ffu)), (hg, .inl (cI, aI 72 fsu)), (hb, .inl (cI, aI 72 fbb)), (hm, .inl (cI, aI 2 fmo))])) (va_A [(y0, .inr (2, [.ref t0, .int (iI total), .ref ys, .ref yk, .ref yc, .ref yd, .ref yw, .ref yx, .ref yb, .ref yu])), (ys, .inl (cI, aI 14 gst)), (yk, .inl (cI, aI cap gk)), (yc, .inl (cI, aI cap gct)), (yd, .inl (cI, aI cap gcf)), (yw, .inl (cJ, aL cap gwt)), (yx, .inl (cJ, aL cap gwf)), (yb, .inl (cI, aI (6 * cap) gbe)), (yu, .inl (cI, aI 6 gcu)), (t0, .inr (1, [.int (iI steps), .int (iI choices), .int (iI bars), .ref hs, .ref hc, .ref hf, .ref hg, .ref hb, .ref he, .ref hm])), (hs, .inl (cI, aI 12 fsz)), (hc, .inl (cI, aI 72 fco)), (hf, .inl (cI, aI 72 ffu)), (hg, .inl (cI, aI 72 fsu)), (hb, .inl (cI, aI 72 fbb)), (hm, .inl (cI, aI 2 fmo))] sz)) 6 q (va_A [(y0, .inr (2, [.ref t0, .int (iI total), .ref ys, .ref yk, .ref yc, .ref yd, .ref yw, .ref yx, .ref yb, .ref yu])), (ys, .inl (cI, aI 14 gst)), (yk, .inl (cI, aI cap gk)), (yc, .inl (cI, aI cap gct)), (yd, .inl (cI, aI cap gcf)), (yw, .inl (cJ, aL cap gwt)), (yx, .inl (cJ, aL cap gwf)), (yb, .inl (cI, aI (6 * cap) gbe)), (yu, .inl (cI, aI 6 gcu)), (t0, .inr (1, [.int (iI steps), .int (iI choices), .int (iI bars), .ref hs, .ref hc, .ref hf, .ref hg, .ref hb, .ref he, .ref hm])), (hs, .inl (cI, aI 12 fsz)), (hc, .inl (cI, aI 72 fco)), (hf, .inl (cI, aI 72 ffu)), (hg, .inl (cI, aI 72 fsu)), (hb, .inl (cI, aI 72 fbb)), (hm, .inl (cI, aI 2 fmo))] sz) := by
  refine met_z (by decide) rfl (Nat.le_of_ble_eq_true rfl) ?_
  intro p e s m below meth c A Q C hmn hret
  have hq0 := kT.1 ((d : Nat) : Int) (by omega) (by omega)
  have hqs := kgst ((d : Nat) : Int) (by omega) (by omega)
  have hqe := kgst (((d : Nat) : Int) + 1) (by omega) (by omega)
  have hpr : 0 ≤ ((gst (((d : Nat) : Int) + 1)) - (gst ((d : Nat) : Int))) * fsz ((d : Nat) : Int) := Int.mul_nonneg (by omega) (by omega)
  have hpr2 : ((gst (((d : Nat) : Int) + 1)) - (gst ((d : Nat) : Int))) * fsz ((d : Nat) : Int) ≤ 4801 * 6 := Int.mul_le_mul (by omega) (by omega) (by omega) (by omega)
  have ke := ks.2.1
  refine g_aload_n C 0 std_Y_layBehind_0 rfl ?_
  refine g_aload_n C 0 std_Y_layBehind_1 rfl ?_
  refine g_get C (st_sub sti_Y) 0 rfl rfl 1 (by decide) (List.mem_cons_of_mem _ kw_1_85) rfl rfl std_Y_layBehind_2 ?_
  refine g_sipush C std_Y_layBehind_5 (by decide) ?_
  refine g_aload_n C 0 std_Y_layBehind_8 rfl ?_
  refine g_iload_n C 1 std_Y_layBehind_9 rfl ?_
  refine g_V_i (wc := [(y0, .inr (2, [.ref t0, .int (iI total), .ref ys, .ref yk, .ref yc, .ref yd, .ref yw, .ref yx, .ref yb, .ref yu])), (ys, .inl (cI, aI 14 gst))]) (wr := [(yk, .inl (cI, aI cap gk)), (yc, .inl (cI, aI cap gct)), (yd, .inl (cI, aI cap gcf)), (yw, .inl (cJ, aL cap gwt)), (yx, .inl (cJ, aL cap gwf)), (yb, .inl (cI, aI (6 * cap) gbe)), (yu, .inl (cI, aI 6 gcu)), (t0, .inr (1, [.int (iI steps), .int (iI choices), .int (iI bars), .ref hs, .ref hc, .ref hf, .ref hg, .ref hb, .ref he, .ref hm])), (hs, .inl (cI, aI 12 fsz)), (hc, .inl (cI, aI 72 fco)), (hf, .inl (cI, aI 72 ffu)), (hg, .inl (cI, aI 72 fsu)), (hb, .inl (cI, aI 72 fbb)), (hm, .inl (cI, aI 2 fmo))]) (rest := [.int (iI 400), .int (iI total), .ref y0]) C (c_sizeOf l dC dI cI cJ cZ y0 ys yk yc yd yw yx yb yu total t0 gst ((d : Nat) : Int) (by omega)) (st_cV C kw_2_43 kw_2_40 kw_1_3 kw_2_41 kw_2_42 sth_Y_sizeOf ⟨Nat.le_of_ble_eq_true rfl, Nat.le_of_ble_eq_true rfl⟩) 0 rfl rfl rfl rfl (Nat.le_of_ble_eq_true rfl) std_Y_layBehind_10 ⟨Nat.le_of_ble_eq_true rfl, by show _ ≤ q; omega⟩ [0, 1] [2, 3, 4, 5, 6, 7, 8, 9, 10, 11, 12, 13, 14, 15] rfl rfl rfl rfl (by decide) (fun r1 u2 h3 => ?_)
  subst h3
  refine g_ws (ws' := [(yk, .inl (cI, aI cap gk)), (yc, .inl (cI, aI cap gct)), (yd, .inl (cI, aI cap gcf)), (yw, .inl (cJ, aL cap gwt)), (yx, .inl (cJ, aL cap gwf)), (yb, .inl (cI, aI (6 * cap) gbe)), (yu, .inl (cI, aI 6 gcu)), (t0, .inr (1, [.int (iI steps), .int (iI choices), .int (iI bars), .ref hs, .ref hc, .ref hf, .ref hg, .ref hb, .ref he, .ref hm])), (hs, .inl (cI, aI 12 fsz)), (hc, .inl (cI, aI 72 fco)), (hf, .inl (cI, aI 72 ffu)), (hg, .inl (cI, aI 72 fsu)), (hb, .inl (cI, aI 72 fbb)), (hm, .inl (cI, aI 2 fmo)), (y0, .inr (2, [.ref t0, .int (iI total), .ref ys, .ref yk, .ref yc, .ref yd, .ref yw, .ref yx, .ref yb, .ref yu])), (ys, .inl (cI, aI 14 gst))]) rfl ?_
  refine g_aload_n C 0 std_Y_layBehind_13 rfl ?_
  refine g_get C (st_sub sti_Y) 14 rfl rfl 0 (by decide) (List.mem_cons_of_mem _ kw_1_83) rfl rfl std_Y_layBehind_14 ?_
  refine g_get C (st_sub sti_T) 7 rfl rfl 3 (by decide) (List.mem_cons_of_mem _ kw_1_36) rfl rfl std_Y_layBehind_17 ?_
  refine g_iload_n C 1 std_Y_layBehind_20 rfl ?_
  refine g_iald C 8 0 rfl rfl (by omega) (by omega) (by omega) std_Y_layBehind_21 ?_
  refine g_imul C std_Y_layBehind_22 ?_
  refine g_min C ⟨by omega, by omega⟩ ⟨by omega, by omega⟩ (List.mem_cons_of_mem _ kw_2_44) (List.mem_cons_of_mem _ kw_2_45) (List.mem_cons_of_mem _ kw_1_7) (List.mem_cons_of_mem _ kw_2_46) (Nat.le_of_ble_eq_true rfl) (Nat.le_of_ble_eq_true rfl) (Nat.le_of_ble_eq_true rfl) (by show _ ≤ q; omega) std_Y_layBehind_23 ?_
  refine g_iadd C std_Y_layBehind_26 ?_
  refine g_V_v (wc := [(y0, .inr (2, [.ref t0, .int (iI total), .ref ys, .ref yk, .ref yc, .ref yd, .ref yw, .ref yx, .ref yb, .ref yu])), (yk, .inl (cI, aI cap gk)), (yc, .inl (cI, aI cap gct)), (yd, .inl (cI, aI cap gcf)), (yw, .inl (cJ, aL cap gwt)), (yx, .inl (cJ, aL cap gwf)), (yb, .inl (cI, aI (6 * cap) gbe))]) (wr := [(yu, .inl (cI, aI 6 gcu)), (t0, .inr (1, [.int (iI steps), .int (iI choices), .int (iI bars), .ref hs, .ref hc, .ref hf, .ref hg, .ref hb, .ref he, .ref hm])), (hs, .inl (cI, aI 12 fsz)), (hc, .inl (cI, aI 72 fco)), (hf, .inl (cI, aI 72 ffu)), (hg, .inl (cI, aI 72 fsu)), (hb, .inl (cI, aI 72 fbb)), (hm, .inl (cI, aI 2 fmo)), (ys, .inl (cI, aI 14 gst))]) (rest := []) C (c_growTo l dC dI cI cJ cZ y0 ys yk yc yd yw yx yb yu total t0 cap N q gk gct gcf gwt gwf gbe (total + (min 400 (((gst (((d : Nat) : Int) + 1)) - (gst ((d : Nat) : Int))) * (fsz ((d : Nat) : Int))))) (kcap) (by omega) (kN) (kq)) (st_cV C kw_2_50 kw_2_47 kw_1_3 kw_2_49 kw_0_1 sth_Y_growTo ⟨Nat.le_of_ble_eq_true rfl, Nat.le_of_ble_eq_true rfl⟩) 0 rfl rfl rfl rfl (Nat.le_of_ble_eq_true rfl) std_Y_layBehind_27 ⟨Nat.le_of_ble_eq_true rfl, by show _ ≤ q; omega⟩ [14, 0, 1, 2, 3, 4, 5] [6, 7, 8, 9, 10, 11, 12, 13, 15] rfl rfl rfl rfl (by decide) (fun u5 h6 => ?_)
  obtain ⟨q7, q8, q9, q10, q11, q12, GK13, GC14, GD15, GW16, GX17, GB18⟩ := u5
  dsimp only at h6
  refine g_ws (ws' := [(yu, .inl (cI, aI 6 gcu)), (t0, .inr (1, [.int (iI steps), .int (iI choices), .int (iI bars), .ref hs, .ref hc, .ref hf, .ref hg, .ref hb, .ref he, .ref hm])), (hs, .inl (cI, aI 12 fsz)), (hc, .inl (cI, aI 72 fco)), (hf, .inl (cI, aI 72 ffu)), (hg, .inl (cI, aI 72 fsu)), (hb, .inl (cI, aI 72 fbb)), (hm, .inl (cI, aI 2 fmo)), (ys, .inl (cI, aI 14 gst)), (y0, .inr (2, [.ref t0, .int (iI total), .ref ys, .ref q7, .ref q8, .ref q9, .ref q10, .ref q11, .ref q12, .ref yu])), (q7, .inl (cI, aI N GK13)), (q8, .inl (cI, aI N GC14)), (q9, .inl (cI, aI N GD15)), (q10, .inl (cJ, aL N GW16)), (q11, .inl (cJ, aL N GX17)), (q12, .inl (cI, aI (6 * N) GB18))]) rfl ?_
  have hGro := h6
  have kcap1 : N ≤ 4801 := by omega
  have hcN : cap ≤ N := by omega
  have kgst1 : ∀ j, 0 ≤ j → j < 14 → 0 ≤ gst j ∧ gst j ≤ (N : Int) := fun j h1 h2 => by have := kgst j h1 h2; omega
  have kL1 : LO fsz fco ffu fsu fbb fmo d (gst ((d : Nat) : Int)) (gst (((d : Nat) : Int) + 1)) GK13 GW16 GC14 := lo_congr kL (fun i i1 i2 => h6.1 i (by omega) (by omega)) (fun i i1 i2 => h6.2.2.2.1 i (by omega) (by omega)) (fun i i1 i2 => h6.2.1 i (by omega) (by omega))
  refine g_iconst C std_Y_layBehind_30 ?_
  refine g_istore_n C (lv' := [(2, .int (iI 0)), (0, .ref y0), (1, .int (iI ((d : Nat) : Int)))]) std_Y_layBehind_31 (by decide) rfl ?_
  have L32 : ∀ (nn32 : Nat) (x : Int) (F : Int → Int) (CU : Int → Int), (0 ≤ x ∧ x ≤ fsz ((d : Nat) : Int)) → LBi ffu fsu fbb fmo GK13 GB18 ((d : Nat) : Int) (gst ((d : Nat) : Int)) (gst (((d : Nat) : Int) + 1)) x CU F → (fsz ((d : Nat) : Int) - x) < (nn32 : Int) → G p l e ({ frames := 3, cells := 6, slots := q, locals := 84 } : Room) s m ([.ref y0, .int (iI ((d : Nat) : Int))] : List Value).toArray below meth c (dC, dI) stCl 4 A 6 q Q [(yu, .inl (cI, aI 6 CU)), (t0, .inr (1, [.int (iI steps), .int (iI choices), .int (iI bars), .ref hs, .ref hc, .ref hf, .ref hg, .ref hb, .ref he, .ref hm])), (hs, .inl (cI, aI 12 fsz)), (hc, .inl (cI, aI 72 fco)), (hf, .inl (cI, aI 72 ffu)), (hg, .inl (cI, aI 72 fsu)), (hb, .inl (cI, aI 72 fbb)), (hm, .inl (cI, aI 2 fmo)), (ys, .inl (cI, aI 14 gst)), (y0, .inr (2, [.ref t0, .int (iI total), .ref ys, .ref q7, .ref q8, .ref q9, .ref q10, .ref q11, .ref q12, .ref yu])), (q7, .inl (cI, aI N GK13)), (q8, .inl (cI, aI N GC14)), (q9, .inl (cI, aI N GD15)), (q10, .inl (cJ, aL N GW16)), (q11, .inl (cJ, aL N GX17)), (q12, .inl (cI, aI (6 * N) F))] 32 [(2, .int (iI x)), (0, .ref y0), (1, .int (iI ((d : Nat) : Int)))] [] := by
    intro nn32
    induction nn32 with
    | zero =>
      intro x F CU kx kI hnn32
      exact absurd hnn32 (by omega)
    | succ nn32 ih32 =>
      intro x F CU kx kI hnn32
      refine g_iload_n C 0 std_Y_layBehind_32 rfl ?_
      refine g_aload_n C 1 std_Y_layBehind_33 rfl ?_
      refine g_get C (st_sub sti_Y) 9 rfl rfl 0 (by decide) (List.mem_cons_of_mem _ kw_1_83) rfl rfl std_Y_layBehind_34 ?_
      refine g_get C (st_sub sti_T) 1 rfl rfl 3 (by decide) (List.mem_cons_of_mem _ kw_1_36) rfl rfl std_Y_layBehind_37 ?_
      refine g_iload_n C 2 std_Y_layBehind_40 rfl ?_
      refine g_iald C 2 0 rfl rfl (by omega) (by omega) (by omega) std_Y_layBehind_41 ?_
      refine g_icmp_ge (tgt := 75) C std_Y_layBehind_42 (by decide) ⟨by omega, by omega⟩ ⟨by omega, by omega⟩ (fun c19 => ?_) (fun c19 => ?_)
      · have hxe : x = fsz ((d : Nat) : Int) := by omega
        rw [hxe] at kI
        refine g_iconst C std_Y_layBehind_75 ?_
        refine g_istore_n C (lv' := [(2, .int (iI 0)), (0, .ref y0), (1, .int (iI ((d : Nat) : Int)))]) std_Y_layBehind_76 (by decide) rfl ?_
        have L77 : ∀ (nn77 : Nat) (x : Int) (T : Int) (CU : Int → Int) (F : Int → Int) (GK : Int → Int) (GC : Int → Int) (GW : Int → Int), (0 ≤ x ∧ x ≤ 401) → ((gst (((d : Nat) : Int) + 1)) ≤ T ∧ T ≤ (N : Int)) → ((x ≤ 400 ∧ T = (gst (((d : Nat) : Int) + 1)) + x ∧ LBp fsz fco ffu fsu fbb fmo GK13 GW16 GC14 GB18 d (gst ((d : Nat) : Int)) (gst (((d : Nat) : Int) + 1)) T CU F GK GC GW) ∨ (x = 401 ∧ 400 < (cn fsz ffu fsu fbb fmo (d + 1)))) → (401 - x) < (nn77 : Int) → G p l e ({ frames := 3, cells := 6, slots := q, locals := 84 } : Room) s m ([.ref y0, .int (iI ((d : Nat) : Int))] : List Value).toArray below meth c (dC, dI) stCl 4 A 6 q Q [(yu, .inl (cI, aI 6 CU)), (t0, .inr (1, [.int (iI steps), .int (iI choices), .int (iI bars), .ref hs, .ref hc, .ref hf, .ref hg, .ref hb, .ref he, .ref hm])), (hs, .inl (cI, aI 12 fsz)), (hc, .inl (cI, aI 72 fco)), (hf, .inl (cI, aI 72 ffu)), (hg, .inl (cI, aI 72 fsu)), (hb, .inl (cI, aI 72 fbb)), (hm, .inl (cI, aI 2 fmo)), (ys, .inl (cI, aI 14 gst)), (y0, .inr (2, [.ref t0, .int (iI T), .ref ys, .ref q7, .ref q8, .ref q9, .ref q10, .ref q11, .ref q12, .ref yu])), (q7, .inl (cI, aI N GK)), (q8, .inl (cI, aI N GC)), (q9, .inl (cI, aI N GD15)), (q10, .inl (cJ, aL N GW)), (q11, .inl (cJ, aL N GX17)), (q12, .inl (cI, aI (6 * N) F))] 77 [(2, .int (iI x)), (0, .ref y0), (1, .int (iI ((d : Nat) : Int)))] [] := by
          intro nn77
          induction nn77 with
          | zero =>
            intro x T CU F GK GC GW kx kTN kM hnn77
            exact absurd hnn77 (by omega)
          | succ nn77 ih77 =>
            intro x T CU F GK GC GW kx kTN kM hnn77
            refine g_iload_n C 0 std_Y_layBehind_77 rfl ?_
            refine g_sipush C std_Y_layBehind_78 (by decide) ?_
            refine g_icmp_gt (tgt := 127) C std_Y_layBehind_81 (by decide) ⟨by omega, by omega⟩ ⟨by omega, by omega⟩ (fun c20 => ?_) (fun c20 => ?_)
            · refine g_iconst C std_Y_layBehind_127 ?_
              refine g_sub (ws' := [(y0, .inr (2, [.ref t0, .int (iI T), .ref ys, .ref q7, .ref q8, .ref q9, .ref q10, .ref q11, .ref q12, .ref yu])), (ys, .inl (cI, aI 14 gst)), (q7, .inl (cI, aI N GK)), (q8, .inl (cI, aI N GC)), (q9, .inl (cI, aI N GD15)), (q10, .inl (cJ, aL N GW)), (q11, .inl (cJ, aL N GX17)), (q12, .inl (cI, aI (6 * N) F)), (yu, .inl (cI, aI 6 CU)), (t0, .inr (1, [.int (iI steps), .int (iI choices), .int (iI bars), .ref hs, .ref hc, .ref hf, .ref hg, .ref hb, .ref he, .ref hm])), (hs, .inl (cI, aI 12 fsz)), (hc, .inl (cI, aI 72 fco)), (hf, .inl (cI, aI 72 ffu)), (hg, .inl (cI, aI 72 fsu)), (hb, .inl (cI, aI 72 fbb)), (hm, .inl (cI, aI 2 fmo))]) [9, 8, 10, 11, 12, 13, 14, 15, 0, 1, 2, 3, 4, 5, 6, 7] rfl rfl ?_
              exact hret _ _ _ (q7, q8, q9, q10, q11, q12, gst, GK, GC, GD15, GW, GX17, F, CU, T) (⟨by rw [bI_f (by omega)], kgst1, fun h => absurd h (by omega)⟩) (by decide) std_Y_layBehind_128
            · obtain ⟨kM1, kM2, kM3⟩ : x ≤ 400 ∧ T = (gst (((d : Nat) : Int) + 1)) + x ∧ LBp fsz fco ffu fsu fbb fmo GK13 GW16 GC14 GB18 d (gst ((d : Nat) : Int)) (gst (((d : Nat) : Int) + 1)) T CU F GK GC GW := by
                rcases kM with h | h
                · exact h
                · exfalso; omega
              refine g_aload_n C 1 std_Y_layBehind_84 rfl ?_
              refine g_iload_n C 2 std_Y_layBehind_85 rfl ?_
              refine g_V_i (wc := [(y0, .inr (2, [.ref t0, .int (iI T), .ref ys, .ref q7, .ref q8, .ref q9, .ref q10, .ref q11, .ref q12, .ref yu])), (ys, .inl (cI, aI 14 gst)), (q12, .inl (cI, aI (6 * N) F)), (yu, .inl (cI, aI 6 CU)), (t0, .inr (1, [.int (iI steps), .int (iI choices), .int (iI bars), .ref hs, .ref hc, .ref hf, .ref hg, .ref hb, .ref he, .ref hm])), (hs, .inl (cI, aI 12 fsz))]) (wr := [(hc, .inl (cI, aI 72 fco)), (hf, .inl (cI, aI 72 ffu)), (hg, .inl (cI, aI 72 fsu)), (hb, .inl (cI, aI 72 fbb)), (hm, .inl (cI, aI 2 fmo)), (q7, .inl (cI, aI N GK)), (q8, .inl (cI, aI N GC)), (q9, .inl (cI, aI N GD15)), (q10, .inl (cJ, aL N GW)), (q11, .inl (cJ, aL N GX17))]) (rest := []) C (c_choiceWithLeastKey l dC dI cI cJ cZ y0 ys q7 q8 q9 q10 q11 q12 yu T t0 hs hc hf hg hb he hm steps choices bars N gst F CU fsz ((d : Nat) : Int) (kcap1) (kgst1) (kT.1) (by omega) (fun i i1 i2 => by have := (kM3.2.1 i i1 i2).1; omega) (fun c c1 c2 c3 => by rw [kM3.2.2.1 c (CU c) c1 c2 (Int.le_refl _) c3]; exact kn_rI kT (by omega) (by omega) c1 (by omega) (kL1.1 (CU c) (by have := (kM3.2.1 c c1 c2).1; omega) c3).1)) (st_cV C kw_2_105 kw_2_102 kw_1_3 kw_2_104 kw_0_4 sth_Y_choiceWithLeastKey ⟨Nat.le_of_ble_eq_true rfl, Nat.le_of_ble_eq_true rfl⟩) 0 rfl rfl rfl rfl (Nat.le_of_ble_eq_true rfl) std_Y_layBehind_86 ⟨Nat.le_of_ble_eq_true rfl, by show _ ≤ q; omega⟩ [9, 8, 15, 0, 1, 2] [3, 4, 5, 6, 7, 10, 11, 12, 13, 14] rfl rfl rfl rfl (by decide) (fun r21 u22 h23 => ?_)
              obtain ⟨z24, k25⟩ := u22
              obtain ⟨h23r, h23p⟩ := h23
              dsimp only at h23r h23p
              subst h23r
              refine g_ws (ws' := [(hc, .inl (cI, aI 72 fco)), (hf, .inl (cI, aI 72 ffu)), (hg, .inl (cI, aI 72 fsu)), (hb, .inl (cI, aI 72 fbb)), (hm, .inl (cI, aI 2 fmo)), (q7, .inl (cI, aI N GK)), (q8, .inl (cI, aI N GC)), (q9, .inl (cI, aI N GD15)), (q10, .inl (cJ, aL N GW)), (q11, .inl (cJ, aL N GX17)), (y0, .inr (2, [.ref t0, .int (iI T), .ref ys, .ref q7, .ref q8, .ref q9, .ref q10, .ref q11, .ref q12, .ref yu])), (ys, .inl (cI, aI 14 gst)), (q12, .inl (cI, aI (6 * N) F)), (yu, .inl (cI, aI 6 CU)), (t0, .inr (1, [.int (iI steps), .int (iI choices), .int (iI bars), .ref hs, .ref hc, .ref hf, .ref hg, .ref hb, .ref he, .ref hm])), (hs, .inl (cI, aI 12 fsz))]) rfl ?_
              refine g_istore_n C (lv' := [(3, .int (iI z24)), (2, .int (iI x)), (0, .ref y0), (1, .int (iI ((d : Nat) : Int)))]) std_Y_layBehind_89 (by decide) rfl ?_
              refine g_iload_n C 0 std_Y_layBehind_90 rfl ?_
              have hzr := cw_rng h23p (by omega)
              refine g_if_ge (tgt := 108) C std_Y_layBehind_91 (by decide) ⟨by omega, by omega⟩ (fun c26 => ?_) (fun c26 => ?_)
              · obtain ⟨hz1, hz2, hz3⟩ : 0 ≤ z24 ∧ z24 < fsz ((d : Nat) : Int) ∧ CU z24 < (gst (((d : Nat) : Int) + 1)) := by
                  rcases h23p with q | q
                  · exfalso; have := q.1; omega
                  · exact ⟨q.1.1, q.1.2, q.2.1⟩
                have hroom := lb_room kM3 hz1 hz2 hz3
                have hsb := (kM3.2.1 z24 hz1 hz2).1
                refine g_iload_n C 1 std_Y_layBehind_108 rfl ?_
                refine g_sipush C std_Y_layBehind_109 (by decide) ?_
                refine g_icmp_ge (tgt := 121) C std_Y_layBehind_112 (by decide) ⟨by omega, by omega⟩ ⟨by omega, by omega⟩ (fun c27 => ?_) (fun c27 => ?_)
                · refine g_iinc C (lv' := [(2, .int (iI (x + 1))), (3, .int (iI z24)), (0, .ref y0), (1, .int (iI ((d : Nat) : Int)))]) 1 std_Y_layBehind_121 rfl (by decide) rfl ?_
                  refine g_goto (tgt := 77) C std_Y_layBehind_124 (by decide) ?_
                  refine g_sub (ws' := [(yu, .inl (cI, aI 6 CU)), (t0, .inr (1, [.int (iI steps), .int (iI choices), .int (iI bars), .ref hs, .ref hc, .ref hf, .ref hg, .ref hb, .ref he, .ref hm])), (hs, .inl (cI, aI 12 fsz)), (hc, .inl (cI, aI 72 fco)), (hf, .inl (cI, aI 72 ffu)), (hg, .inl (cI, aI 72 fsu)), (hb, .inl (cI, aI 72 fbb)), (hm, .inl (cI, aI 2 fmo)), (ys, .inl (cI, aI 14 gst)), (y0, .inr (2, [.ref t0, .int (iI T), .ref ys, .ref q7, .ref q8, .ref q9, .ref q10, .ref q11, .ref q12, .ref yu])), (q7, .inl (cI, aI N GK)), (q8, .inl (cI, aI N GC)), (q9, .inl (cI, aI N GD15)), (q10, .inl (cJ, aL N GW)), (q11, .inl (cJ, aL N GX17)), (q12, .inl (cI, aI (6 * N) F))]) [13, 14, 15, 0, 1, 2, 3, 4, 11, 10, 5, 6, 7, 8, 9, 12] rfl rfl ?_
                  refine g_lv (lv' := [(2, .int (iI (x + 1))), (0, .ref y0), (1, .int (iI ((d : Nat) : Int)))]) [0, 2, 3] rfl ?_
                  refine g_wide (k := 6) (n := q) (Nat.le_of_ble_eq_true rfl) (by omega) ?_
                  exact ih77 (x + 1) T CU F GK GC GW (by omega) (by omega) (Or.inr ⟨by omega, lb_full kT kd kL1 kM3 hz1 hz2 hz3 (by omega)⟩) (by omega)
                · refine g_aload_n C 2 std_Y_layBehind_115 rfl ?_
                  refine g_iload_n C 3 std_Y_layBehind_116 rfl ?_
                  refine g_iload_n C 0 std_Y_layBehind_117 rfl ?_
                  refine g_V_v (wc := [(y0, .inr (2, [.ref t0, .int (iI T), .ref ys, .ref q7, .ref q8, .ref q9, .ref q10, .ref q11, .ref q12, .ref yu])), (ys, .inl (cI, aI 14 gst)), (q7, .inl (cI, aI N GK)), (q8, .inl (cI, aI N GC)), (q10, .inl (cJ, aL N GW)), (q12, .inl (cI, aI (6 * N) F)), (yu, .inl (cI, aI 6 CU)), (t0, .inr (1, [.int (iI steps), .int (iI choices), .int (iI bars), .ref hs, .ref hc, .ref hf, .ref hg, .ref hb, .ref he, .ref hm])), (hc, .inl (cI, aI 72 fco))]) (wr := [(hf, .inl (cI, aI 72 ffu)), (hg, .inl (cI, aI 72 fsu)), (hb, .inl (cI, aI 72 fbb)), (hm, .inl (cI, aI 2 fmo)), (q9, .inl (cI, aI N GD15)), (q11, .inl (cJ, aL N GX17)), (hs, .inl (cI, aI 12 fsz))]) (rest := []) C (c_addNode l dC dI cI cJ cZ y0 ys q7 q8 q9 q10 q11 q12 yu T t0 hs hc hf hg hb he hm steps choices bars N gst GK GC GW F CU fco ((d : Nat) : Int) z24 (kcap1) (kgst1) (by omega) (by omega) (by omega) (by omega) (by rw [kM3.2.2.1 z24 (CU z24) hz1 hz2 (Int.le_refl _) hz3]; exact (kM3.2.1 z24 hz1 hz2).2 hz3) (fun i i1 i2 => by rw [kM3.2.2.1 z24 i hz1 hz2 i1 i2]; exact kn_rI kT (by omega) (by omega) hz1 (by omega) (kL1.1 i (by omega) i2).1) (fun i i1 i2 => by rw [(kM3.1 i i2).2.1]; have q := kL1.1 i (by omega) i2; rw [q.2.2.2]; have := ct_rng kT d _ (by omega) (q.2.1 ▸ q.2.2.1); omega) (kT.2.1)) (st_cV C kw_2_109 kw_2_106 kw_1_3 kw_2_108 kw_0_5 sth_Y_addNode ⟨Nat.le_of_ble_eq_true rfl, Nat.le_of_ble_eq_true rfl⟩) 0 rfl rfl rfl rfl (Nat.le_of_ble_eq_true rfl) std_Y_layBehind_118 ⟨Nat.le_of_ble_eq_true rfl, by show _ ≤ q; omega⟩ [10, 11, 5, 6, 8, 12, 13, 14, 0] [1, 2, 3, 4, 7, 9, 15] rfl rfl rfl rfl (by decide) (fun u29 h30 => ?_)
                  obtain ⟨CU31, F32, GC33, GW34⟩ := u29
                  dsimp only at h30
                  refine g_ws (ws' := [(hf, .inl (cI, aI 72 ffu)), (hg, .inl (cI, aI 72 fsu)), (hb, .inl (cI, aI 72 fbb)), (hm, .inl (cI, aI 2 fmo)), (q9, .inl (cI, aI N GD15)), (q11, .inl (cJ, aL N GX17)), (hs, .inl (cI, aI 12 fsz)), (y0, .inr (2, [.ref t0, .int (iI (T + 1)), .ref ys, .ref q7, .ref q8, .ref q9, .ref q10, .ref q11, .ref q12, .ref yu])), (ys, .inl (cI, aI 14 gst)), (q7, .inl (cI, aI N (uZ GK T (F ((CU z24 * 6) + z24))))), (q8, .inl (cI, aI N GC33)), (q10, .inl (cJ, aL N GW34)), (q12, .inl (cI, aI (6 * N) F32)), (yu, .inl (cI, aI 6 CU31)), (t0, .inr (1, [.int (iI steps), .int (iI choices), .int (iI bars), .ref hs, .ref hc, .ref hf, .ref hg, .ref hb, .ref he, .ref hm])), (hc, .inl (cI, aI 72 fco))]) rfl ?_
                  refine g_iinc C (lv' := [(2, .int (iI (x + 1))), (3, .int (iI z24)), (0, .ref y0), (1, .int (iI ((d : Nat) : Int)))]) 1 std_Y_layBehind_121 rfl (by decide) rfl ?_
                  refine g_goto (tgt := 77) C std_Y_layBehind_124 (by decide) ?_
                  refine g_sub (ws' := [(yu, .inl (cI, aI 6 CU31)), (t0, .inr (1, [.int (iI steps), .int (iI choices), .int (iI bars), .ref hs, .ref hc, .ref hf, .ref hg, .ref hb, .ref he, .ref hm])), (hs, .inl (cI, aI 12 fsz)), (hc, .inl (cI, aI 72 fco)), (hf, .inl (cI, aI 72 ffu)), (hg, .inl (cI, aI 72 fsu)), (hb, .inl (cI, aI 72 fbb)), (hm, .inl (cI, aI 2 fmo)), (ys, .inl (cI, aI 14 gst)), (y0, .inr (2, [.ref t0, .int (iI (T + 1)), .ref ys, .ref q7, .ref q8, .ref q9, .ref q10, .ref q11, .ref q12, .ref yu])), (q7, .inl (cI, aI N (uZ GK T (F ((CU z24 * 6) + z24))))), (q8, .inl (cI, aI N GC33)), (q9, .inl (cI, aI N GD15)), (q10, .inl (cJ, aL N GW34)), (q11, .inl (cJ, aL N GX17)), (q12, .inl (cI, aI (6 * N) F32))]) [13, 14, 6, 15, 0, 1, 2, 3, 8, 7, 9, 10, 4, 11, 5, 12] rfl rfl ?_
                  refine g_lv (lv' := [(2, .int (iI (x + 1))), (0, .ref y0), (1, .int (iI ((d : Nat) : Int)))]) [0, 2, 3] rfl ?_
                  refine g_wide (k := 6) (n := q) (Nat.le_of_ble_eq_true rfl) (by omega) ?_
                  exact ih77 (x + 1) (T + 1) CU31 F32 (uZ GK T (F ((CU z24 * 6) + z24))) GC33 GW34 (by omega) (by omega) (Or.inl ⟨by omega, by omega, lb_step kT kd kL1 (by omega) kM3 hz1 hz2 h23p h30.1 h30.2.1 h30.2.2⟩) (by omega)
              · have hall : ∀ i, 0 ≤ i → i < fsz ((d : Nat) : Int) → (gst (((d : Nat) : Int) + 1)) ≤ CU i := by
                  rcases h23p with q | q
                  · exact q.2
                  · exfalso; have := q.1; omega
                refine g_aload_n C 2 std_Y_layBehind_94 rfl ?_
                refine g_get C (st_sub sti_Y) 10 rfl rfl 2 (by decide) (List.mem_cons_of_mem _ kw_1_86) rfl rfl std_Y_layBehind_95 ?_
                refine g_iload_n C 3 std_Y_layBehind_98 rfl ?_
                refine g_iconst C std_Y_layBehind_99 ?_
                refine g_iadd C std_Y_layBehind_100 ?_
                refine g_aload_n C 2 std_Y_layBehind_101 rfl ?_
                refine g_get C (st_sub sti_Y) 10 rfl rfl 1 (by decide) (List.mem_cons_of_mem _ kw_1_85) rfl rfl std_Y_layBehind_102 ?_
                refine g_iast C (ws' := [(hc, .inl (cI, aI 72 fco)), (hf, .inl (cI, aI 72 ffu)), (hg, .inl (cI, aI 72 fsu)), (hb, .inl (cI, aI 72 fbb)), (hm, .inl (cI, aI 2 fmo)), (q7, .inl (cI, aI N GK)), (q8, .inl (cI, aI N GC)), (q9, .inl (cI, aI N GD15)), (q10, .inl (cJ, aL N GW)), (q11, .inl (cJ, aL N GX17)), (y0, .inr (2, [.ref t0, .int (iI T), .ref ys, .ref q7, .ref q8, .ref q9, .ref q10, .ref q11, .ref q12, .ref yu])), (ys, .inl (cI, aI 14 (uZ gst (((d : Nat) : Int) + 2) T))), (q12, .inl (cI, aI (6 * N) F)), (yu, .inl (cI, aI 6 CU)), (t0, .inr (1, [.int (iI steps), .int (iI choices), .int (iI bars), .ref hs, .ref hc, .ref hf, .ref hg, .ref hb, .ref he, .ref hm])), (hs, .inl (cI, aI 12 fsz))]) 11 0 rfl rfl (by omega) (by omega) (by omega) std_Y_layBehind_105 rfl ?_
                refine g_iconst C std_Y_layBehind_106 ?_
                refine g_sub (ws' := [(y0, .inr (2, [.ref t0, .int (iI T), .ref ys, .ref q7, .ref q8, .ref q9, .ref q10, .ref q11, .ref q12, .ref yu])), (ys, .inl (cI, aI 14 (uZ gst (((d : Nat) : Int) + 2) T))), (q7, .inl (cI, aI N GK)), (q8, .inl (cI, aI N GC)), (q9, .inl (cI, aI N GD15)), (q10, .inl (cJ, aL N GW)), (q11, .inl (cJ, aL N GX17)), (q12, .inl (cI, aI (6 * N) F)), (yu, .inl (cI, aI 6 CU)), (t0, .inr (1, [.int (iI steps), .int (iI choices), .int (iI bars), .ref hs, .ref hc, .ref hf, .ref hg, .ref hb, .ref he, .ref hm])), (hs, .inl (cI, aI 12 fsz)), (hc, .inl (cI, aI 72 fco)), (hf, .inl (cI, aI 72 ffu)), (hg, .inl (cI, aI 72 fsu)), (hb, .inl (cI, aI 72 fbb)), (hm, .inl (cI, aI 2 fmo))]) [10, 11, 5, 6, 7, 8, 9, 12, 13, 14, 15, 0, 1, 2, 3, 4] rfl rfl ?_
                refine g_wide (k := 6) (n := q) (Nat.le_of_ble_eq_true rfl) (by omega) ?_
                have hout := lb_out kT kd (C := (cap : Int)) (by omega) (by omega) (by omega) hGro.1 hGro.2.1 hGro.2.2.2.1 hGro.2.2.2.2.2 kL1 kM3 hall (by omega)
                exact hret _ _ _ (q7, q8, q9, q10, q11, q12, (uZ gst (((d : Nat) : Int) + 2) T), GK, GC, GD15, GW, GX17, F, CU, T) (⟨by rw [bI_t hout.1], st_le kgst1 (by omega), fun _ => ⟨rfl, hout.2⟩⟩) (by decide) std_Y_layBehind_107
        obtain ⟨nn0, hnn0⟩ : ∃ nn0 : Nat, (401 - 0) < (nn0 : Int) := z_nat _
        exact L77 nn0 0 total CU F GK13 GC14 GW16 (by omega) (by omega) (Or.inl ⟨by omega, by omega, by rw [← ke]; exact lb_0 kI⟩) hnn0
      · refine g_aload_n C 1 std_Y_layBehind_45 rfl ?_
        refine g_iload_n C 2 std_Y_layBehind_46 rfl ?_
        refine g_iload_n C 0 std_Y_layBehind_47 rfl ?_
        refine g_V_v (wc := [(y0, .inr (2, [.ref t0, .int (iI total), .ref ys, .ref q7, .ref q8, .ref q9, .ref q10, .ref q11, .ref q12, .ref yu])), (ys, .inl (cI, aI 14 gst)), (q7, .inl (cI, aI N GK13)), (q12, .inl (cI, aI (6 * N) F)), (t0, .inr (1, [.int (iI steps), .int (iI choices), .int (iI bars), .ref hs, .ref hc, .ref hf, .ref hg, .ref hb, .ref he, .ref hm])), (hf, .inl (cI, aI 72 ffu)), (hg, .inl (cI, aI 72 fsu)), (hb, .inl (cI, aI 72 fbb)), (hm, .inl (cI, aI 2 fmo))]) (wr := [(yu, .inl (cI, aI 6 CU)), (hs, .inl (cI, aI 12 fsz)), (hc, .inl (cI, aI 72 fco)), (q8, .inl (cI, aI N GC14)), (q9, .inl (cI, aI N GD15)), (q10, .inl (cJ, aL N GW16)), (q11, .inl (cJ, aL N GX17))]) (rest := []) C (c_findKeysBehind l dC dI cI cJ cZ y0 ys q7 q8 q9 q10 q11 q12 yu total t0 hs hc hf hg hb he hm steps choices bars N gst GK13 F ffu fsu fbb fmo ((d : Nat) : Int) x (kcap1) (kgst1) (kT.2.2.2) (by omega) (by omega) (by omega) (fun i i1 i2 => vk_all (kL1.1 i i1 i2).1) (kT.2.2.1)) (st_cV C kw_2_79 kw_2_76 kw_1_3 kw_2_78 kw_0_2 sth_Y_findKeysBehind ⟨Nat.le_of_ble_eq_true rfl, Nat.le_of_ble_eq_true rfl⟩) 0 rfl rfl rfl rfl (Nat.le_of_ble_eq_true rfl) std_Y_layBehind_48 ⟨Nat.le_of_ble_eq_true rfl, by show _ ≤ q; omega⟩ [9, 8, 10, 15, 1, 4, 5, 6, 7] [0, 2, 3, 11, 12, 13, 14] rfl rfl rfl rfl (by decide) (fun u36 h37 => ?_)
        refine g_ws (ws' := [(yu, .inl (cI, aI 6 CU)), (hs, .inl (cI, aI 12 fsz)), (hc, .inl (cI, aI 72 fco)), (q8, .inl (cI, aI N GC14)), (q9, .inl (cI, aI N GD15)), (q10, .inl (cJ, aL N GW16)), (q11, .inl (cJ, aL N GX17)), (y0, .inr (2, [.ref t0, .int (iI total), .ref ys, .ref q7, .ref q8, .ref q9, .ref q10, .ref q11, .ref q12, .ref yu])), (ys, .inl (cI, aI 14 gst)), (q7, .inl (cI, aI N GK13)), (q12, .inl (cI, aI (6 * N) u36)), (t0, .inr (1, [.int (iI steps), .int (iI choices), .int (iI bars), .ref hs, .ref hc, .ref hf, .ref hg, .ref hb, .ref he, .ref hm])), (hf, .inl (cI, aI 72 ffu)), (hg, .inl (cI, aI 72 fsu)), (hb, .inl (cI, aI 72 fbb)), (hm, .inl (cI, aI 2 fmo))]) rfl ?_
        refine g_aload_n C 1 std_Y_layBehind_51 rfl ?_
        refine g_get C (st_sub sti_Y) 7 rfl rfl 9 (by decide) (List.mem_cons_of_mem _ kw_1_100) rfl rfl std_Y_layBehind_52 ?_
        refine g_iload_n C 0 std_Y_layBehind_55 rfl ?_
        refine g_aload_n C 1 std_Y_layBehind_56 rfl ?_
        refine g_get C (st_sub sti_Y) 7 rfl rfl 2 (by decide) (List.mem_cons_of_mem _ kw_1_86) rfl rfl std_Y_layBehind_57 ?_
        refine g_iload_n C 2 std_Y_layBehind_60 rfl ?_
        refine g_iald C 8 0 rfl rfl (by omega) (by omega) (by omega) std_Y_layBehind_61 ?_
        refine g_iast C (ws' := [(yu, .inl (cI, aI 6 (uZ CU x (gst ((d : Nat) : Int))))), (hs, .inl (cI, aI 12 fsz)), (hc, .inl (cI, aI 72 fco)), (q8, .inl (cI, aI N GC14)), (q9, .inl (cI, aI N GD15)), (q10, .inl (cJ, aL N GW16)), (q11, .inl (cJ, aL N GX17)), (y0, .inr (2, [.ref t0, .int (iI total), .ref ys, .ref q7, .ref q8, .ref q9, .ref q10, .ref q11, .ref q12, .ref yu])), (ys, .inl (cI, aI 14 gst)), (q7, .inl (cI, aI N GK13)), (q12, .inl (cI, aI (6 * N) u36)), (t0, .inr (1, [.int (iI steps), .int (iI choices), .int (iI bars), .ref hs, .ref hc, .ref hf, .ref hg, .ref hb, .ref he, .ref hm])), (hf, .inl (cI, aI 72 ffu)), (hg, .inl (cI, aI 72 fsu)), (hb, .inl (cI, aI 72 fbb)), (hm, .inl (cI, aI 2 fmo))]) 0 0 rfl rfl (by omega) (by omega) (by omega) std_Y_layBehind_62 rfl ?_
        refine g_aload_n C 1 std_Y_layBehind_63 rfl ?_
        refine g_iload_n C 2 std_Y_layBehind_64 rfl ?_
        refine g_iload_n C 0 std_Y_layBehind_65 rfl ?_
        refine g_V_v (wc := [(y0, .inr (2, [.ref t0, .int (iI total), .ref ys, .ref q7, .ref q8, .ref q9, .ref q10, .ref q11, .ref q12, .ref yu])), (ys, .inl (cI, aI 14 gst)), (q12, .inl (cI, aI (6 * N) u36)), (yu, .inl (cI, aI 6 (uZ CU x (gst ((d : Nat) : Int)))))]) (wr := [(hs, .inl (cI, aI 12 fsz)), (hc, .inl (cI, aI 72 fco)), (q8, .inl (cI, aI N GC14)), (q9, .inl (cI, aI N GD15)), (q10, .inl (cJ, aL N GW16)), (q11, .inl (cJ, aL N GX17)), (q7, .inl (cI, aI N GK13)), (t0, .inr (1, [.int (iI steps), .int (iI choices), .int (iI bars), .ref hs, .ref hc, .ref hf, .ref hg, .ref hb, .ref he, .ref hm])), (hf, .inl (cI, aI 72 ffu)), (hg, .inl (cI, aI 72 fsu)), (hb, .inl (cI, aI 72 fbb)), (hm, .inl (cI, aI 2 fmo))]) (rest := []) C (c_skipUnfollowed l dC dI cI cJ cZ y0 ys q7 q8 q9 q10 q11 q12 yu total t0 N gst u36 (uZ CU x (gst ((d : Nat) : Int))) ((d : Nat) : Int) x (kcap1) (kgst1) (by omega) (by omega) (by rw [uZ_s]; omega) (fun i i1 i2 => by rw [uZ_s] at i1; rw [h37.1 i i1 i2]; exact kn_rI kT (by omega) (by omega) (by omega) (by omega) (kL1.1 i i1 i2).1)) (st_cV C kw_2_97 kw_2_94 kw_1_3 kw_2_96 kw_0_3 sth_Y_skipUnfollowed ⟨Nat.le_of_ble_eq_true rfl, Nat.le_of_ble_eq_true rfl⟩) 0 rfl rfl rfl rfl (Nat.le_of_ble_eq_true rfl) std_Y_layBehind_66 ⟨Nat.le_of_ble_eq_true rfl, by show _ ≤ q; omega⟩ [7, 8, 10, 0] [1, 2, 3, 4, 5, 6, 9, 11, 12, 13, 14, 15] rfl rfl rfl rfl (by decide) (fun u39 h40 => ?_)
        refine g_ws (ws' := [(hs, .inl (cI, aI 12 fsz)), (hc, .inl (cI, aI 72 fco)), (q8, .inl (cI, aI N GC14)), (q9, .inl (cI, aI N GD15)), (q10, .inl (cJ, aL N GW16)), (q11, .inl (cJ, aL N GX17)), (q7, .inl (cI, aI N GK13)), (t0, .inr (1, [.int (iI steps), .int (iI choices), .int (iI bars), .ref hs, .ref hc, .ref hf, .ref hg, .ref hb, .ref he, .ref hm])), (hf, .inl (cI, aI 72 ffu)), (hg, .inl (cI, aI 72 fsu)), (hb, .inl (cI, aI 72 fbb)), (hm, .inl (cI, aI 2 fmo)), (y0, .inr (2, [.ref t0, .int (iI total), .ref ys, .ref q7, .ref q8, .ref q9, .ref q10, .ref q11, .ref q12, .ref yu])), (ys, .inl (cI, aI 14 gst)), (q12, .inl (cI, aI (6 * N) u36)), (yu, .inl (cI, aI 6 u39))]) rfl ?_
        refine g_iinc C (lv' := [(2, .int (iI (x + 1))), (0, .ref y0), (1, .int (iI ((d : Nat) : Int)))]) 0 std_Y_layBehind_69 rfl (by decide) rfl ?_
        refine g_goto (tgt := 32) C std_Y_layBehind_72 (by decide) ?_
        refine g_sub (ws' := [(yu, .inl (cI, aI 6 u39)), (t0, .inr (1, [.int (iI steps), .int (iI choices), .int (iI bars), .ref hs, .ref hc, .ref hf, .ref hg, .ref hb, .ref he, .ref hm])), (hs, .inl (cI, aI 12 fsz)), (hc, .inl (cI, aI 72 fco)), (hf, .inl (cI, aI 72 ffu)), (hg, .inl (cI, aI 72 fsu)), (hb, .inl (cI, aI 72 fbb)), (hm, .inl (cI, aI 2 fmo)), (ys, .inl (cI, aI 14 gst)), (y0, .inr (2, [.ref t0, .int (iI total), .ref ys, .ref q7, .ref q8, .ref q9, .ref q10, .ref q11, .ref q12, .ref yu])), (q7, .inl (cI, aI N GK13)), (q8, .inl (cI, aI N GC14)), (q9, .inl (cI, aI N GD15)), (q10, .inl (cJ, aL N GW16)), (q11, .inl (cJ, aL N GX17)), (q12, .inl (cI, aI (6 * N) u36))]) [15, 7, 0, 1, 8, 9, 10, 11, 13, 12, 6, 2, 3, 4, 5, 14] rfl rfl ?_
        refine g_wide (k := 6) (n := q) (Nat.le_of_ble_eq_true rfl) (by omega) ?_
        exact ih32 (x + 1) u36 u39 (by omega) (li_step kI ⟨by omega, by omega⟩ (by omega) h37.1 h37.2 h40.1 h40.2.1 h40.2.2.1 h40.2.2.2 (fun c h1 h2 => by omega)) (by omega)
  refine g_wide (k := 6) (n := q) (Nat.le_of_ble_eq_true rfl) (by omega) ?_
  obtain ⟨nn0, hnn0⟩ : ∃ nn0 : Nat, (fsz ((d : Nat) : Int) - 0) < (nn0 : Int) := z_nat _
  exact L32 nn0 0 GB18 gcu (by omega) (li_0 (fun _ _ => rfl)) hnn0

