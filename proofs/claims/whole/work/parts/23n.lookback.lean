/-! Layers.lookBack -/
abbrev sty_Y_lookBack : MethodName := ⟨"StateTables$Layers", "lookBack", "()V"⟩
abbrev stc_Y_lookBack : ByteArray := prog_3_method_14_code
theorem sth_Y_lookBack : (sty_Y_lookBack).cls ≠ "java/lang/invoke/MethodHandle" ∧ (sty_Y_lookBack).cls ≠ "java/lang/invoke/VarHandle" ∧ (parseMethodDescriptor (sty_Y_lookBack).desc).map (fun d => d.parameters.length) = some 0 := by decide +kernel
theorem std_Y_lookBack_0 : decode stc_Y_lookBack 0 = .ok (.aload_n 0, 1) := by decide +kernel
theorem std_Y_lookBack_1 : decode stc_Y_lookBack 1 = .ok (.getfield 9, 3) := by decide +kernel
theorem std_Y_lookBack_4 : decode stc_Y_lookBack 4 = .ok (.aload_n 0, 1) := by decide +kernel
theorem std_Y_lookBack_5 : decode stc_Y_lookBack 5 = .ok (.getfield 37, 3) := by decide +kernel
theorem std_Y_lookBack_8 : decode stc_Y_lookBack 8 = .ok (.getfield 41, 3) := by decide +kernel
theorem std_Y_lookBack_11 : decode stc_Y_lookBack 11 = .ok (.iaload, 1) := by decide +kernel
theorem std_Y_lookBack_12 : decode stc_Y_lookBack 12 = .ok (.istore_n 1, 1) := by decide +kernel
theorem std_Y_lookBack_13 : decode stc_Y_lookBack 13 = .ok (.iload_n 1, 1) := by decide +kernel
theorem std_Y_lookBack_14 : decode stc_Y_lookBack 14 = .ok (.aload_n 0, 1) := by decide +kernel
theorem std_Y_lookBack_15 : decode stc_Y_lookBack 15 = .ok (.getfield 60, 3) := by decide +kernel
theorem std_Y_lookBack_18 : decode stc_Y_lookBack 18 = .ok (.if_icmp .ge 57, 3) := by decide +kernel
theorem std_Y_lookBack_75 : decode stc_Y_lookBack 75 = .ok (.aload_n 0, 1) := by decide +kernel
theorem std_Y_lookBack_76 : decode stc_Y_lookBack 76 = .ok (.getfield 37, 3) := by decide +kernel
theorem std_Y_lookBack_79 : decode stc_Y_lookBack 79 = .ok (.getfield 41, 3) := by decide +kernel
theorem std_Y_lookBack_82 : decode stc_Y_lookBack 82 = .ok (.iconst 1, 1) := by decide +kernel
theorem std_Y_lookBack_83 : decode stc_Y_lookBack 83 = .ok (.isub, 1) := by decide +kernel
theorem std_Y_lookBack_84 : decode stc_Y_lookBack 84 = .ok (.istore_n 1, 1) := by decide +kernel
theorem std_Y_lookBack_85 : decode stc_Y_lookBack 85 = .ok (.iload_n 1, 1) := by decide +kernel
theorem std_Y_lookBack_86 : decode stc_Y_lookBack 86 = .ok (.ifCond .lt 40, 3) := by decide +kernel
theorem std_Y_lookBack_126 : decode stc_Y_lookBack 126 = .ok (.return_, 1) := by decide +kernel
theorem std_Y_lookBack_89 : decode stc_Y_lookBack 89 = .ok (.aload_n 0, 1) := by decide +kernel
theorem std_Y_lookBack_90 : decode stc_Y_lookBack 90 = .ok (.getfield 9, 3) := by decide +kernel
theorem std_Y_lookBack_93 : decode stc_Y_lookBack 93 = .ok (.iload_n 1, 1) := by decide +kernel
theorem std_Y_lookBack_94 : decode stc_Y_lookBack 94 = .ok (.iaload, 1) := by decide +kernel
theorem std_Y_lookBack_95 : decode stc_Y_lookBack 95 = .ok (.istore_n 2, 1) := by decide +kernel
theorem std_Y_lookBack_96 : decode stc_Y_lookBack 96 = .ok (.iload_n 2, 1) := by decide +kernel
theorem std_Y_lookBack_97 : decode stc_Y_lookBack 97 = .ok (.aload_n 0, 1) := by decide +kernel
theorem std_Y_lookBack_98 : decode stc_Y_lookBack 98 = .ok (.getfield 9, 3) := by decide +kernel
theorem std_Y_lookBack_101 : decode stc_Y_lookBack 101 = .ok (.iload_n 1, 1) := by decide +kernel
theorem std_Y_lookBack_102 : decode stc_Y_lookBack 102 = .ok (.iconst 1, 1) := by decide +kernel
theorem std_Y_lookBack_103 : decode stc_Y_lookBack 103 = .ok (.iadd, 1) := by decide +kernel
theorem std_Y_lookBack_104 : decode stc_Y_lookBack 104 = .ok (.iaload, 1) := by decide +kernel
theorem std_Y_lookBack_105 : decode stc_Y_lookBack 105 = .ok (.if_icmp .ge 15, 3) := by decide +kernel
theorem std_Y_lookBack_120 : decode stc_Y_lookBack 120 = .ok (.iinc 1 (-1), 3) := by decide +kernel
theorem std_Y_lookBack_123 : decode stc_Y_lookBack 123 = .ok (.goto (-38), 3) := by decide +kernel
theorem std_Y_lookBack_108 : decode stc_Y_lookBack 108 = .ok (.aload_n 0, 1) := by decide +kernel
theorem std_Y_lookBack_109 : decode stc_Y_lookBack 109 = .ok (.iload_n 1, 1) := by decide +kernel
theorem std_Y_lookBack_110 : decode stc_Y_lookBack 110 = .ok (.iload_n 2, 1) := by decide +kernel
theorem std_Y_lookBack_111 : decode stc_Y_lookBack 111 = .ok (.invokevirtual 138, 3) := by decide +kernel
theorem kw_2_121 : Cond.code sty_Y_lookBackFrom stc_Y_lookBackFrom 9 none ∈ stGW := st_t2 (List.mem_of_getElem? (i := 121) (by decide +kernel)) (by decide +kernel)
theorem kw_2_118 : Cond.methodLink "StateTables$Layers" 138 (sty_Y_lookBackFrom) ∈ stGW := st_t2 (List.mem_of_getElem? (i := 118) (by decide +kernel)) (by decide +kernel)
theorem kw_2_120 : Cond.instanceMethod (sty_Y_lookBackFrom) ∈ stGW := st_t2 (List.mem_of_getElem? (i := 120) (by decide +kernel)) (by decide +kernel)
theorem kw_0_6 : Cond.selects "StateTables$Layers" (sty_Y_lookBackFrom) (sty_Y_lookBackFrom) ∈ stGW := st_t0 (List.mem_of_getElem? (i := 6) (by decide +kernel)) (by decide +kernel)
theorem std_Y_lookBack_114 : decode stc_Y_lookBack 114 = .ok (.iinc 2 1, 3) := by decide +kernel
theorem std_Y_lookBack_117 : decode stc_Y_lookBack 117 = .ok (.goto (-21), 3) := by decide +kernel
theorem std_Y_lookBack_21 : decode stc_Y_lookBack 21 = .ok (.aload_n 0, 1) := by decide +kernel
theorem std_Y_lookBack_22 : decode stc_Y_lookBack 22 = .ok (.getfield 37, 3) := by decide +kernel
theorem std_Y_lookBack_25 : decode stc_Y_lookBack 25 = .ok (.aload_n 0, 1) := by decide +kernel
theorem std_Y_lookBack_26 : decode stc_Y_lookBack 26 = .ok (.getfield 15, 3) := by decide +kernel
theorem std_Y_lookBack_29 : decode stc_Y_lookBack 29 = .ok (.iload_n 1, 1) := by decide +kernel
theorem std_Y_lookBack_30 : decode stc_Y_lookBack 30 = .ok (.iaload, 1) := by decide +kernel
theorem std_Y_lookBack_31 : decode stc_Y_lookBack 31 = .ok (.invokestatic 110, 3) := by decide +kernel
theorem std_Y_lookBack_34 : decode stc_Y_lookBack 34 = .ok (.aload_n 0, 1) := by decide +kernel
theorem std_Y_lookBack_35 : decode stc_Y_lookBack 35 = .ok (.getfield 15, 3) := by decide +kernel
theorem std_Y_lookBack_38 : decode stc_Y_lookBack 38 = .ok (.iload_n 1, 1) := by decide +kernel
theorem std_Y_lookBack_39 : decode stc_Y_lookBack 39 = .ok (.iaload, 1) := by decide +kernel
theorem std_Y_lookBack_40 : decode stc_Y_lookBack 40 = .ok (.invokestatic 116, 3) := by decide +kernel
theorem std_Y_lookBack_43 : decode stc_Y_lookBack 43 = .ok (.invokevirtual 135, 3) := by decide +kernel
theorem kw_2_117 : Cond.code sty_T_isEnough stc_T_isEnough 3 (some .boolean) ∈ stGW := st_t2 (List.mem_of_getElem? (i := 117) (by decide +kernel)) (by decide +kernel)
theorem kw_2_114 : Cond.methodLink "StateTables$Layers" 135 (sty_T_isEnough) ∈ stGW := st_t2 (List.mem_of_getElem? (i := 114) (by decide +kernel)) (by decide +kernel)
theorem kw_2_115 : Cond.instanceMethod (sty_T_isEnough) ∈ stGW := st_t2 (List.mem_of_getElem? (i := 115) (by decide +kernel)) (by decide +kernel)
theorem kw_2_116 : Cond.selects "StateTables$Told" (sty_T_isEnough) (sty_T_isEnough) ∈ stGW := st_t2 (List.mem_of_getElem? (i := 116) (by decide +kernel)) (by decide +kernel)
theorem std_Y_lookBack_46 : decode stc_Y_lookBack 46 = .ok (.istore_n 2, 1) := by decide +kernel
theorem std_Y_lookBack_47 : decode stc_Y_lookBack 47 = .ok (.aload_n 0, 1) := by decide +kernel
theorem std_Y_lookBack_48 : decode stc_Y_lookBack 48 = .ok (.getfield 28, 3) := by decide +kernel
theorem std_Y_lookBack_51 : decode stc_Y_lookBack 51 = .ok (.iload_n 1, 1) := by decide +kernel
theorem std_Y_lookBack_52 : decode stc_Y_lookBack 52 = .ok (.iload_n 2, 1) := by decide +kernel
theorem std_Y_lookBack_53 : decode stc_Y_lookBack 53 = .ok (.ifCond .eq 7, 3) := by decide +kernel
theorem std_Y_lookBack_60 : decode stc_Y_lookBack 60 = .ok (.lconst 0, 1) := by decide +kernel
theorem std_Y_lookBack_61 : decode stc_Y_lookBack 61 = .ok (.lastore, 1) := by decide +kernel
theorem std_Y_lookBack_62 : decode stc_Y_lookBack 62 = .ok (.aload_n 0, 1) := by decide +kernel
theorem std_Y_lookBack_63 : decode stc_Y_lookBack 63 = .ok (.getfield 21, 3) := by decide +kernel
theorem std_Y_lookBack_66 : decode stc_Y_lookBack 66 = .ok (.iload_n 1, 1) := by decide +kernel
theorem std_Y_lookBack_67 : decode stc_Y_lookBack 67 = .ok (.iconst 0, 1) := by decide +kernel
theorem std_Y_lookBack_68 : decode stc_Y_lookBack 68 = .ok (.iastore, 1) := by decide +kernel
theorem std_Y_lookBack_69 : decode stc_Y_lookBack 69 = .ok (.iinc 1 1, 3) := by decide +kernel
theorem std_Y_lookBack_72 : decode stc_Y_lookBack 72 = .ok (.goto (-59), 3) := by decide +kernel
theorem std_Y_lookBack_56 : decode stc_Y_lookBack 56 = .ok (.lconst 1, 1) := by decide +kernel
theorem std_Y_lookBack_57 : decode stc_Y_lookBack 57 = .ok (.goto 4, 3) := by decide +kernel
set_option maxHeartbeats 4000000 in
set_option maxRecDepth 100000 in
theorem c_lookBack (l : Launch) (dC : Nat → ClassId) (dI : Nat → Nat → Nat) (cI cJ cZ : ClassId) (y0 : Nat) (ys : Nat) (yk : Nat) (yc : Nat) (yd : Nat) (yw : Nat) (yx : Nat) (yb : Nat) (yu : Nat) (total : Int) (t0 : Nat) (hs : Nat) (hc : Nat) (hf : Nat) (hg : Nat) (hb : Nat) (he : Nat) (hm : Nat) (choices : Int) (bars : Int) (cap : Nat) (n : Nat) (gst : Int → Int) (gk : Int → Int) (gct : Int → Int) (gcf : Int → Int) (gwt : Int → Int) (gwf : Int → Int) (gbe : Int → Int) (fle : Int → Int) (fsz : Int → Int) (fco : Int → Int) (ffu : Int → Int) (fsu : Int → Int) (fbb : Int → Int) (fmo : Int → Int) (kcap : cap ≤ 4801) (kgst : ∀ j, 0 ≤ j → j < 14 → 0 ≤ gst j ∧ gst j ≤ cap) (kn : n ≤ 12) (kT : TB fsz fco ffu fsu fbb fmo) (kle : ∀ j, 0 ≤ j → j < 2 → 0 ≤ fle j ∧ fle j ≤ 40) (kLS : LYS fsz fco ffu fsu fbb fmo n gst gk gwt gct gbe) (kt : total = gst (((n : Nat) : Int) + 1)) : ∀ sz, Met l sty_Y_lookBack (Cond.code sty_Y_lookBack stc_Y_lookBack 3 none :: stGW) ({ frames := 2, cells := 0, slots := 0, locals := 50 } : Room) (va_Pc [.ref y0] (zPre (dC, dI) stCl [(cI, .int), (cJ, .long), (cZ, .boolean)] st_nw [(y0, .inr (2, [.ref t0, .int (iI total), .ref ys, .ref yk, .ref yc, .ref yd, .ref yw, .ref yx, .ref yb, .ref yu])), (ys, .inl (cI, aI 14 gst)), (yk, .inl (cI, aI cap gk)), (yd, .inl (cI, aI cap gcf)), (yx, .inl (cJ, aL cap gwf)), (yb, .inl (cI, aI (6 * cap) gbe)), (t0, .inr (1, [.int (iI ((n : Nat) : Int)), .int (iI choices), .int (iI bars), .ref hs, .ref hc, .ref hf, .ref hg, .ref hb, .ref he, .ref hm])), (hs, .inl (cI, aI 12 fsz)), (hc, .inl (cI, aI 72 fco)), (he, .inl (cI, aI 2 fle))] sz)) (va_Qv (fun (u : (Int → Int) × (Int → Int)) => ∀ d : Nat, d ≤ n → BK fsz fco ffu fsu fbb fmo fle n gk u.1 u.2 d (gst ((d : Nat) : Int)) (gst (((d : Nat) : Int) + 1))) (zPost (dC, dI) stCl [(cI, .int), (cJ, .long), (cZ, .boolean)] [(y0, .inr (2, [.ref t0, .int (iI total), .ref ys, .ref yk, .ref yc, .ref yd, .ref yw, .ref yx, .ref yb, .ref yu])), (ys, .inl (cI, aI 14 gst)), (yk, .inl (cI, aI cap gk)), (yd, .inl (cI, aI cap gcf)), (yx, .inl (cJ, aL cap gwf)), (yb, .inl (cI, aI (6 * cap) gbe)), (t0, .inr (1, [.int (iI ((n : Nat) : Int)), .int (iI choices), .int (iI bars), .ref hs, .ref hc, .ref hf, .ref hg, .ref hb, .ref he, .ref hm])), (hs, .inl (cI, aI 12 fsz)), (hc, .inl (cI, aI 72 fco)), (he, .inl (cI, aI 2 fle))] sz (fun u : (Int → Int) × (Int → Int) => [(y0, .inr (2, [.ref t0, .int (iI total), .ref ys, .ref yk, .ref yc, .ref yd, .ref yw, .ref yx, .ref yb, .ref yu])), (ys, .inl (cI, aI 14 gst)), (yk, .inl (cI, aI cap gk)), (yd, .inl (cI, aI cap (u.2))), (yx, .inl (cJ, aL cap (u.1))), (yb, .inl (cI, aI (6 * cap) gbe)), (t0, .inr (1, [.int (iI ((n : Nat) : Int)), .int (iI choices), .int (iI bars), .ref hs, .ref hc, .ref hf, .ref hg, .ref hb, .ref he, .ref hm])), (hs, .inl (cI, aI 12 fsz)), (hc, .inl (cI, aI 72 fco)), (he, .inl (cI, aI 2 fle))])) (va_A [(y0, .inr (2, [.ref t0, .int (iI total), .ref ys, .ref yk, .ref yc, .ref yd, .ref yw, .ref yx, .ref yb, .ref yu])), (ys, .inl (cI, aI 14 gst)), (yk, .inl (cI, aI cap gk)), (yd, .inl (cI, aI cap gcf)), (yx, .inl (cJ, aL cap gwf)), (yb, .inl (cI, aI (6 * cap) gbe)), (t0, .inr (1, [.int (iI ((n : Nat) : Int)), .int (iI choices), .int (iI bars), .ref hs, .ref hc, .ref hf, .ref hg, .ref hb, .ref he, .ref hm])), (hs, .inl (cI, aI 12 fsz)), (hc, .inl (cI, aI 72 fco)), (he, .inl (cI, aI 2 fle))] sz)) 0 0 (va_A [(y0, .inr (2, [.ref t0, .int (iI total), .ref ys, .ref yk, .ref yc, .ref yd, .ref yw, .ref yx, .ref yb, .ref yu])), (ys, .inl (cI, aI 14 gst)), (yk, .inl (cI, aI cap gk)), (yd, .inl (cI, aI cap gcf)), (yx, .inl (cJ, aL cap gwf)), (yb, .inl (cI, aI (6 * cap) gbe)), (t0, .inr (1, [.int (iI ((n : Nat) : Int)), .int (iI choices), .int (iI bars), .ref hs, .ref hc, .ref hf, .ref hg, .ref hb, .ref he, .ref hm])), (hs, .inl (cI, aI 12 fsz)), (hc, .inl (cI, aI 72 fco)), (he, .inl (cI, aI 2 fle))] sz) := by
  refine met_v (by decide) rfl (Nat.le_of_ble_eq_true rfl) ?_
  intro p e s m below meth c A Q C hmn hret
  have hq0 := kgst ((n : Nat) : Int) (by omega) (by omega)
  have hq1 := kgst (((n : Nat) : Int) + 1) (by omega) (by omega)
  have hLn := kLS.1 n (Nat.le_refl n)
  refine g_aload_n C 0 std_Y_lookBack_0 rfl ?_
  refine g_get C (st_sub sti_Y) 0 rfl rfl 2 (by decide) (List.mem_cons_of_mem _ kw_1_86) rfl rfl std_Y_lookBack_1 ?_
  refine g_aload_n C 0 std_Y_lookBack_4 rfl ?_
  refine g_get C (st_sub sti_Y) 0 rfl rfl 0 (by decide) (List.mem_cons_of_mem _ kw_1_83) rfl rfl std_Y_lookBack_5 ?_
  refine g_get C (st_sub sti_T) 6 rfl rfl 0 (by decide) (List.mem_cons_of_mem _ kw_1_26) rfl rfl std_Y_lookBack_8 ?_
  refine g_iald C 1 0 rfl rfl (by omega) (by omega) (by omega) std_Y_lookBack_11 ?_
  refine g_istore_n C (lv' := [(1, .int (iI (gst ((n : Nat) : Int)))), (0, .ref y0)]) std_Y_lookBack_12 (by decide) rfl ?_
  have L13 : ∀ (nn13 : Nat) (x : Int) (GX : Int → Int) (GD : Int → Int), (gst ((n : Nat) : Int) ≤ x ∧ x ≤ total) → BK fsz fco ffu fsu fbb fmo fle n gk GX GD n (gst ((n : Nat) : Int)) x → (total - x) < (nn13 : Int) → G p l e ({ frames := 2, cells := 0, slots := 0, locals := 50 } : Room) s m ([.ref y0] : List Value).toArray below meth c (dC, dI) stCl 3 A 0 0 Q [(y0, .inr (2, [.ref t0, .int (iI total), .ref ys, .ref yk, .ref yc, .ref yd, .ref yw, .ref yx, .ref yb, .ref yu])), (ys, .inl (cI, aI 14 gst)), (yk, .inl (cI, aI cap gk)), (yd, .inl (cI, aI cap GD)), (yx, .inl (cJ, aL cap GX)), (yb, .inl (cI, aI (6 * cap) gbe)), (t0, .inr (1, [.int (iI ((n : Nat) : Int)), .int (iI choices), .int (iI bars), .ref hs, .ref hc, .ref hf, .ref hg, .ref hb, .ref he, .ref hm])), (hs, .inl (cI, aI 12 fsz)), (hc, .inl (cI, aI 72 fco)), (he, .inl (cI, aI 2 fle))] 13 [(1, .int (iI x)), (0, .ref y0)] [] := by
    intro nn13
    induction nn13 with
    | zero =>
      intro x GX GD kx kB hnn13
      exact absurd hnn13 (by omega)
    | succ nn13 ih13 =>
      intro x GX GD kx kB hnn13
      refine g_iload_n C 0 std_Y_lookBack_13 rfl ?_
      refine g_aload_n C 1 std_Y_lookBack_14 rfl ?_
      refine g_get C (st_sub sti_Y) 0 rfl rfl 1 (by decide) (List.mem_cons_of_mem _ kw_1_85) rfl rfl std_Y_lookBack_15 ?_
      refine g_icmp_ge (tgt := 75) C std_Y_lookBack_18 (by decide) ⟨by omega, by omega⟩ ⟨by omega, by omega⟩ (fun c1 => ?_) (fun c1 => ?_)
      · refine g_aload_n C 1 std_Y_lookBack_75 rfl ?_
        refine g_get C (st_sub sti_Y) 0 rfl rfl 0 (by decide) (List.mem_cons_of_mem _ kw_1_83) rfl rfl std_Y_lookBack_76 ?_
        refine g_get C (st_sub sti_T) 6 rfl rfl 0 (by decide) (List.mem_cons_of_mem _ kw_1_26) rfl rfl std_Y_lookBack_79 ?_
        refine g_iconst C std_Y_lookBack_82 ?_
        refine g_isub C std_Y_lookBack_83 ?_
        refine g_istore_n C (lv' := [(1, .int (iI (((n : Nat) : Int) - 1))), (0, .ref y0)]) std_Y_lookBack_84 (by decide) rfl ?_
        have L85 : ∀ (nn85 : Nat) (x : Int) (GX : Int → Int) (GD : Int → Int), (-1 ≤ x ∧ x < ((n : Nat) : Int)) → (∀ d : Nat, x < (d : Int) → d ≤ n → BK fsz fco ffu fsu fbb fmo fle n gk GX GD d (gst ((d : Nat) : Int)) (gst (((d : Nat) : Int) + 1))) → (x + 1) < (nn85 : Int) → G p l e ({ frames := 2, cells := 0, slots := 0, locals := 50 } : Room) s m ([.ref y0] : List Value).toArray below meth c (dC, dI) stCl 3 A 0 0 Q [(y0, .inr (2, [.ref t0, .int (iI total), .ref ys, .ref yk, .ref yc, .ref yd, .ref yw, .ref yx, .ref yb, .ref yu])), (ys, .inl (cI, aI 14 gst)), (yk, .inl (cI, aI cap gk)), (yd, .inl (cI, aI cap GD)), (yx, .inl (cJ, aL cap GX)), (yb, .inl (cI, aI (6 * cap) gbe)), (t0, .inr (1, [.int (iI ((n : Nat) : Int)), .int (iI choices), .int (iI bars), .ref hs, .ref hc, .ref hf, .ref hg, .ref hb, .ref he, .ref hm])), (hs, .inl (cI, aI 12 fsz)), (hc, .inl (cI, aI 72 fco)), (he, .inl (cI, aI 2 fle))] 85 [(1, .int (iI x)), (0, .ref y0)] [] := by
          intro nn85
          induction nn85 with
          | zero =>
            intro x GX GD kx kB hnn85
            exact absurd hnn85 (by omega)
          | succ nn85 ih85 =>
            intro x GX GD kx kB hnn85
            refine g_iload_n C 0 std_Y_lookBack_85 rfl ?_
            refine g_if_lt (tgt := 126) C std_Y_lookBack_86 (by decide) ⟨by omega, by omega⟩ (fun c2 => ?_) (fun c2 => ?_)
            · exact hret _ _ (GX, GD) (fun d hd => kB d (by omega) hd) std_Y_lookBack_126
            · obtain ⟨d0, hd0⟩ : ∃ d0 : Nat, x = (d0 : Int) := ⟨x.toNat, by omega⟩
              subst hd0
              have hLd := kLS.1 d0 (by omega)
              have hLu := kLS.1 (d0 + 1) (by omega)
              have hq5 := kgst ((d0 : Nat) : Int) (by omega) (by omega)
              have hq6 := kgst (((d0 : Nat) : Int) + 1) (by omega) (by omega)
              have hq7 := kgst (((d0 : Nat) : Int) + 2) (by omega) (by omega)
              refine g_aload_n C 1 std_Y_lookBack_89 rfl ?_
              refine g_get C (st_sub sti_Y) 0 rfl rfl 2 (by decide) (List.mem_cons_of_mem _ kw_1_86) rfl rfl std_Y_lookBack_90 ?_
              refine g_iload_n C 0 std_Y_lookBack_93 rfl ?_
              refine g_iald C 1 0 rfl rfl (by omega) (by omega) (by omega) std_Y_lookBack_94 ?_
              refine g_istore_n C (lv' := [(2, .int (iI (gst ((d0 : Nat) : Int)))), (1, .int (iI ((d0 : Nat) : Int))), (0, .ref y0)]) std_Y_lookBack_95 (by decide) rfl ?_
              have L96 : ∀ (nn96 : Nat) (y : Int) (GX : Int → Int) (GD : Int → Int), (gst ((d0 : Nat) : Int) ≤ y ∧ y ≤ gst (((d0 : Nat) : Int) + 1)) → (∀ d : Nat, ((d0 : Nat) : Int) < (d : Int) → d ≤ n → BK fsz fco ffu fsu fbb fmo fle n gk GX GD d (gst ((d : Nat) : Int)) (gst (((d : Nat) : Int) + 1))) → BK fsz fco ffu fsu fbb fmo fle n gk GX GD d0 (gst ((d0 : Nat) : Int)) y → (gst (((d0 : Nat) : Int) + 1) - y) < (nn96 : Int) → G p l e ({ frames := 2, cells := 0, slots := 0, locals := 50 } : Room) s m ([.ref y0] : List Value).toArray below meth c (dC, dI) stCl 3 A 0 0 Q [(y0, .inr (2, [.ref t0, .int (iI total), .ref ys, .ref yk, .ref yc, .ref yd, .ref yw, .ref yx, .ref yb, .ref yu])), (ys, .inl (cI, aI 14 gst)), (yk, .inl (cI, aI cap gk)), (yd, .inl (cI, aI cap GD)), (yx, .inl (cJ, aL cap GX)), (yb, .inl (cI, aI (6 * cap) gbe)), (t0, .inr (1, [.int (iI ((n : Nat) : Int)), .int (iI choices), .int (iI bars), .ref hs, .ref hc, .ref hf, .ref hg, .ref hb, .ref he, .ref hm])), (hs, .inl (cI, aI 12 fsz)), (hc, .inl (cI, aI 72 fco)), (he, .inl (cI, aI 2 fle))] 96 [(2, .int (iI y)), (1, .int (iI ((d0 : Nat) : Int))), (0, .ref y0)] [] := by
                intro nn96
                induction nn96 with
                | zero =>
                  intro y GX GD ky kB1 kB2 hnn96
                  exact absurd hnn96 (by omega)
                | succ nn96 ih96 =>
                  intro y GX GD ky kB1 kB2 hnn96
                  refine g_iload_n C 0 std_Y_lookBack_96 rfl ?_
                  refine g_aload_n C 2 std_Y_lookBack_97 rfl ?_
                  refine g_get C (st_sub sti_Y) 0 rfl rfl 2 (by decide) (List.mem_cons_of_mem _ kw_1_86) rfl rfl std_Y_lookBack_98 ?_
                  refine g_iload_n C 1 std_Y_lookBack_101 rfl ?_
                  refine g_iconst C std_Y_lookBack_102 ?_
                  refine g_iadd C std_Y_lookBack_103 ?_
                  refine g_iald C 1 0 rfl rfl (by omega) (by omega) (by omega) std_Y_lookBack_104 ?_
                  refine g_icmp_ge (tgt := 120) C std_Y_lookBack_105 (by decide) ⟨by omega, by omega⟩ ⟨by omega, by omega⟩ (fun c3 => ?_) (fun c3 => ?_)
                  · refine g_iinc C (lv' := [(1, .int (iI (((d0 : Nat) : Int) + (-1)))), (2, .int (iI y)), (0, .ref y0)]) 1 std_Y_lookBack_120 rfl (by decide) rfl ?_
                    refine g_goto (tgt := 85) C std_Y_lookBack_123 (by decide) ?_
                    refine g_lv (lv' := [(1, .int (iI (((d0 : Nat) : Int) + (-1)))), (0, .ref y0)]) [0, 2] rfl ?_
                    exact ih85 (((d0 : Nat) : Int) + (-1)) GX GD (by omega) (bk_all2 kB1 kB2 (by omega)) (by omega)
                  · have hBn : BK fsz fco ffu fsu fbb fmo fle n gk GX GD (d0 + 1) (gst (((d0 : Nat) : Int) + 1)) (gst (((d0 : Nat) : Int) + 2)) := by have h9 := kB1 (d0 + 1) (by omega) (by omega); rw [show (((d0 + 1 : Nat) : Int) + 1) = (d0 : Int) + 2 by omega] at h9; exact h9
                    refine g_aload_n C 2 std_Y_lookBack_108 rfl ?_
                    refine g_iload_n C 1 std_Y_lookBack_109 rfl ?_
                    refine g_iload_n C 0 std_Y_lookBack_110 rfl ?_
                    refine g_V_v (wc := [(y0, .inr (2, [.ref t0, .int (iI total), .ref ys, .ref yk, .ref yc, .ref yd, .ref yw, .ref yx, .ref yb, .ref yu])), (yd, .inl (cI, aI cap GD)), (yx, .inl (cJ, aL cap GX)), (yb, .inl (cI, aI (6 * cap) gbe)), (t0, .inr (1, [.int (iI ((n : Nat) : Int)), .int (iI choices), .int (iI bars), .ref hs, .ref hc, .ref hf, .ref hg, .ref hb, .ref he, .ref hm])), (hs, .inl (cI, aI 12 fsz)), (hc, .inl (cI, aI 72 fco))]) (wr := [(ys, .inl (cI, aI 14 gst)), (yk, .inl (cI, aI cap gk)), (he, .inl (cI, aI 2 fle))]) (rest := []) C (c_lookBackFrom l dC dI cI cJ cZ y0 ys yk yc yd yw yx yb yu total t0 hs hc hf hg hb he hm ((n : Nat) : Int) choices bars cap GD GX gbe fsz fco ((d0 : Nat) : Int) y (kcap) (kT.1) (by omega) (by omega) (bk_be kT (by omega) kn (kLS.2.1 d0 (by omega)) hBn (by omega) (by omega) (by omega) ky.1 (by omega)) (kT.2.1)) (st_cV C kw_2_121 kw_2_118 kw_1_3 kw_2_120 kw_0_6 sth_Y_lookBackFrom ⟨Nat.le_of_ble_eq_true rfl, Nat.le_of_ble_eq_true rfl⟩) 0 rfl rfl rfl rfl (Nat.le_of_ble_eq_true rfl) std_Y_lookBack_111 ⟨Nat.le_of_ble_eq_true rfl, Nat.le_of_ble_eq_true rfl⟩ [0, 3, 4, 5, 6, 7, 8] [1, 2, 9] rfl rfl rfl rfl (by decide) (fun u5 h6 => ?_)
                    refine g_ws (ws' := [(ys, .inl (cI, aI 14 gst)), (yk, .inl (cI, aI cap gk)), (he, .inl (cI, aI 2 fle)), (y0, .inr (2, [.ref t0, .int (iI total), .ref ys, .ref yk, .ref yc, .ref yd, .ref yw, .ref yx, .ref yb, .ref yu])), (yd, .inl (cI, aI cap (uZ GD y (lbC gbe GX GD fco ((d0 : Nat) : Int) y (fsz ((d0 : Nat) : Int)).toNat)))), (yx, .inl (cJ, aL cap (uZ GX y (lbW gbe GX y (fsz ((d0 : Nat) : Int)).toNat)))), (yb, .inl (cI, aI (6 * cap) gbe)), (t0, .inr (1, [.int (iI ((n : Nat) : Int)), .int (iI choices), .int (iI bars), .ref hs, .ref hc, .ref hf, .ref hg, .ref hb, .ref he, .ref hm])), (hs, .inl (cI, aI 12 fsz)), (hc, .inl (cI, aI 72 fco))]) rfl ?_
                    refine g_iinc C (lv' := [(2, .int (iI (y + 1))), (1, .int (iI ((d0 : Nat) : Int))), (0, .ref y0)]) 0 std_Y_lookBack_114 rfl (by decide) rfl ?_
                    refine g_goto (tgt := 96) C std_Y_lookBack_117 (by decide) ?_
                    refine g_sub (ws' := [(y0, .inr (2, [.ref t0, .int (iI total), .ref ys, .ref yk, .ref yc, .ref yd, .ref yw, .ref yx, .ref yb, .ref yu])), (ys, .inl (cI, aI 14 gst)), (yk, .inl (cI, aI cap gk)), (yd, .inl (cI, aI cap (uZ GD y (lbC gbe GX GD fco ((d0 : Nat) : Int) y (fsz ((d0 : Nat) : Int)).toNat)))), (yx, .inl (cJ, aL cap (uZ GX y (lbW gbe GX y (fsz ((d0 : Nat) : Int)).toNat)))), (yb, .inl (cI, aI (6 * cap) gbe)), (t0, .inr (1, [.int (iI ((n : Nat) : Int)), .int (iI choices), .int (iI bars), .ref hs, .ref hc, .ref hf, .ref hg, .ref hb, .ref he, .ref hm])), (hs, .inl (cI, aI 12 fsz)), (hc, .inl (cI, aI 72 fco)), (he, .inl (cI, aI 2 fle))]) [3, 0, 1, 4, 5, 6, 7, 8, 9, 2] rfl rfl ?_
                    refine g_wide (k := 0) (n := 0) (Nat.le_of_ble_eq_true rfl) (Nat.le_of_ble_eq_true rfl) ?_
                    exact ih96 (y + 1) (uZ GX y (lbW gbe GX y (fsz ((d0 : Nat) : Int)).toNat)) (uZ GD y (lbC gbe GX GD fco ((d0 : Nat) : Int) y (fsz ((d0 : Nat) : Int)).toNat)) (by omega) (fun d d1 d2 => bk_keep (kB1 d d1 d2) (Or.inl (by have := ls_lt kLS (i := d0) (d := d) (by omega) d2; omega))) (bk_step kT (by omega) kn (kLS.2.1 d0 (by omega)) hBn (fun i i1 i2 => (hLd.2.1.1 i i1 i2).1) (by omega) ky.1 (by omega) kB2) (by omega)
              obtain ⟨nn0, hnn0⟩ : ∃ nn0 : Nat, (gst (((d0 : Nat) : Int) + 1) - (gst ((d0 : Nat) : Int))) < (nn0 : Int) := z_nat _
              exact L96 nn0 (gst ((d0 : Nat) : Int)) GX GD (by omega) (kB) (fun i i1 i2 => by omega) hnn0
        obtain ⟨nn0, hnn0⟩ : ∃ nn0 : Nat, ((((n : Nat) : Int) - 1) + 1) < (nn0 : Int) := z_nat _
        exact L85 nn0 (((n : Nat) : Int) - 1) GX GD (by omega) (bk_all1 kB (by omega) kt) hnn0
      · have hvx := vk_all (hLn.2.1.1 x kx.1 (by omega)).1
        refine g_aload_n C 1 std_Y_lookBack_21 rfl ?_
        refine g_get C (st_sub sti_Y) 0 rfl rfl 0 (by decide) (List.mem_cons_of_mem _ kw_1_83) rfl rfl std_Y_lookBack_22 ?_
        refine g_aload_n C 1 std_Y_lookBack_25 rfl ?_
        refine g_get C (st_sub sti_Y) 0 rfl rfl 3 (by decide) (List.mem_cons_of_mem _ kw_1_88) rfl rfl std_Y_lookBack_26 ?_
        refine g_iload_n C 0 std_Y_lookBack_29 rfl ?_
        refine g_iald C 2 0 rfl rfl (by omega) (by omega) (by omega) std_Y_lookBack_30 ?_
        refine g_SN_i (wc := []) (wr := [(y0, .inr (2, [.ref t0, .int (iI total), .ref ys, .ref yk, .ref yc, .ref yd, .ref yw, .ref yx, .ref yb, .ref yu])), (ys, .inl (cI, aI 14 gst)), (yk, .inl (cI, aI cap gk)), (yd, .inl (cI, aI cap GD)), (yx, .inl (cJ, aL cap GX)), (yb, .inl (cI, aI (6 * cap) gbe)), (t0, .inr (1, [.int (iI ((n : Nat) : Int)), .int (iI choices), .int (iI bars), .ref hs, .ref hc, .ref hf, .ref hg, .ref hb, .ref he, .ref hm])), (hs, .inl (cI, aI 12 fsz)), (hc, .inl (cI, aI 72 fco)), (he, .inl (cI, aI 2 fle))]) (rest := [.ref t0]) C (c_usedOfFirst l dC dI cI cJ cZ (gk x) (by omega)) (st_cSN C kw_2_86 (List.mem_of_getElem? (i := 5) rfl) kw_1_1 kw_2_85 sth_S_usedOfFirst ⟨Nat.le_of_ble_eq_true rfl, Nat.le_of_ble_eq_true rfl⟩) rfl rfl (Nat.le_of_ble_eq_true rfl) std_Y_lookBack_31 ⟨Nat.le_of_ble_eq_true rfl, Nat.le_of_ble_eq_true rfl⟩ [] [0, 1, 2, 3, 4, 5, 6, 7, 8, 9] rfl rfl rfl rfl (by decide) (fun r7 u8 h9 => ?_)
        subst h9
        refine g_ws (ws' := [(y0, .inr (2, [.ref t0, .int (iI total), .ref ys, .ref yk, .ref yc, .ref yd, .ref yw, .ref yx, .ref yb, .ref yu])), (ys, .inl (cI, aI 14 gst)), (yk, .inl (cI, aI cap gk)), (yd, .inl (cI, aI cap GD)), (yx, .inl (cJ, aL cap GX)), (yb, .inl (cI, aI (6 * cap) gbe)), (t0, .inr (1, [.int (iI ((n : Nat) : Int)), .int (iI choices), .int (iI bars), .ref hs, .ref hc, .ref hf, .ref hg, .ref hb, .ref he, .ref hm])), (hs, .inl (cI, aI 12 fsz)), (hc, .inl (cI, aI 72 fco)), (he, .inl (cI, aI 2 fle))]) rfl ?_
        refine g_aload_n C 1 std_Y_lookBack_34 rfl ?_
        refine g_get C (st_sub sti_Y) 0 rfl rfl 3 (by decide) (List.mem_cons_of_mem _ kw_1_88) rfl rfl std_Y_lookBack_35 ?_
        refine g_iload_n C 0 std_Y_lookBack_38 rfl ?_
        refine g_iald C 2 0 rfl rfl (by omega) (by omega) (by omega) std_Y_lookBack_39 ?_
        refine g_SN_i (wc := []) (wr := [(y0, .inr (2, [.ref t0, .int (iI total), .ref ys, .ref yk, .ref yc, .ref yd, .ref yw, .ref yx, .ref yb, .ref yu])), (ys, .inl (cI, aI 14 gst)), (yk, .inl (cI, aI cap gk)), (yd, .inl (cI, aI cap GD)), (yx, .inl (cJ, aL cap GX)), (yb, .inl (cI, aI (6 * cap) gbe)), (t0, .inr (1, [.int (iI ((n : Nat) : Int)), .int (iI choices), .int (iI bars), .ref hs, .ref hc, .ref hf, .ref hg, .ref hb, .ref he, .ref hm])), (hs, .inl (cI, aI 12 fsz)), (hc, .inl (cI, aI 72 fco)), (he, .inl (cI, aI 2 fle))]) (rest := [.int (iI ((gk x) / 512)), .ref t0]) C (c_usedOfSecond l dC dI cI cJ cZ (gk x) (by omega)) (st_cSN C kw_2_89 (List.mem_of_getElem? (i := 6) rfl) kw_1_1 kw_2_88 sth_S_usedOfSecond ⟨Nat.le_of_ble_eq_true rfl, Nat.le_of_ble_eq_true rfl⟩) rfl rfl (Nat.le_of_ble_eq_true rfl) std_Y_lookBack_40 ⟨Nat.le_of_ble_eq_true rfl, Nat.le_of_ble_eq_true rfl⟩ [] [0, 1, 2, 3, 4, 5, 6, 7, 8, 9] rfl rfl rfl rfl (by decide) (fun r10 u11 h12 => ?_)
        subst h12
        refine g_ws (ws' := [(y0, .inr (2, [.ref t0, .int (iI total), .ref ys, .ref yk, .ref yc, .ref yd, .ref yw, .ref yx, .ref yb, .ref yu])), (ys, .inl (cI, aI 14 gst)), (yk, .inl (cI, aI cap gk)), (yd, .inl (cI, aI cap GD)), (yx, .inl (cJ, aL cap GX)), (yb, .inl (cI, aI (6 * cap) gbe)), (t0, .inr (1, [.int (iI ((n : Nat) : Int)), .int (iI choices), .int (iI bars), .ref hs, .ref hc, .ref hf, .ref hg, .ref hb, .ref he, .ref hm])), (hs, .inl (cI, aI 12 fsz)), (hc, .inl (cI, aI 72 fco)), (he, .inl (cI, aI 2 fle))]) rfl ?_
        refine g_V_i (wc := [(t0, .inr (1, [.int (iI ((n : Nat) : Int)), .int (iI choices), .int (iI bars), .ref hs, .ref hc, .ref hf, .ref hg, .ref hb, .ref he, .ref hm])), (he, .inl (cI, aI 2 fle))]) (wr := [(y0, .inr (2, [.ref t0, .int (iI total), .ref ys, .ref yk, .ref yc, .ref yd, .ref yw, .ref yx, .ref yb, .ref yu])), (ys, .inl (cI, aI 14 gst)), (yk, .inl (cI, aI cap gk)), (yd, .inl (cI, aI cap GD)), (yx, .inl (cJ, aL cap GX)), (yb, .inl (cI, aI (6 * cap) gbe)), (hs, .inl (cI, aI 12 fsz)), (hc, .inl (cI, aI 72 fco))]) (rest := []) C (c_isEnough l dC dI cI cJ cZ t0 hs hc hf hg hb he hm ((n : Nat) : Int) choices bars fle ((gk x) / 512) (((gk x) / 8) % 64) (kle) (by omega) (by omega)) (st_cV C kw_2_117 kw_2_114 kw_1_2 kw_2_115 kw_2_116 sth_T_isEnough ⟨Nat.le_of_ble_eq_true rfl, Nat.le_of_ble_eq_true rfl⟩) 0 rfl rfl rfl rfl (Nat.le_of_ble_eq_true rfl) std_Y_lookBack_43 ⟨Nat.le_of_ble_eq_true rfl, Nat.le_of_ble_eq_true rfl⟩ [6, 9] [0, 1, 2, 3, 4, 5, 7, 8] rfl rfl rfl rfl (by decide) (fun r13 u14 h15 => ?_)
        subst h15
        refine g_ws (ws' := [(y0, .inr (2, [.ref t0, .int (iI total), .ref ys, .ref yk, .ref yc, .ref yd, .ref yw, .ref yx, .ref yb, .ref yu])), (ys, .inl (cI, aI 14 gst)), (yk, .inl (cI, aI cap gk)), (yd, .inl (cI, aI cap GD)), (yx, .inl (cJ, aL cap GX)), (yb, .inl (cI, aI (6 * cap) gbe)), (hs, .inl (cI, aI 12 fsz)), (hc, .inl (cI, aI 72 fco)), (t0, .inr (1, [.int (iI ((n : Nat) : Int)), .int (iI choices), .int (iI bars), .ref hs, .ref hc, .ref hf, .ref hg, .ref hb, .ref he, .ref hm])), (he, .inl (cI, aI 2 fle))]) rfl ?_
        refine g_istore_n C (lv' := [(2, .int (iI (bI (fle 0 ≤ ((gk x) / 512) ∧ fle 1 ≤ (((gk x) / 8) % 64))))), (1, .int (iI x)), (0, .ref y0)]) std_Y_lookBack_46 (by decide) rfl ?_
        refine g_aload_n C 2 std_Y_lookBack_47 rfl ?_
        refine g_get C (st_sub sti_Y) 0 rfl rfl 7 (by decide) (List.mem_cons_of_mem _ kw_1_96) rfl rfl std_Y_lookBack_48 ?_
        refine g_iload_n C 1 std_Y_lookBack_51 rfl ?_
        refine g_iload_n C 0 std_Y_lookBack_52 rfl ?_
        refine g_ifeq_b (tgt := 60) C std_Y_lookBack_53 (by decide) (fun c16 => ?_) (fun c16 => ?_)
        · have hen := c16
          refine g_lconst C (z := 0) std_Y_lookBack_60 (by decide) ?_
          refine g_last C (ws' := [(y0, .inr (2, [.ref t0, .int (iI total), .ref ys, .ref yk, .ref yc, .ref yd, .ref yw, .ref yx, .ref yb, .ref yu])), (ys, .inl (cI, aI 14 gst)), (yk, .inl (cI, aI cap gk)), (yd, .inl (cI, aI cap GD)), (yx, .inl (cJ, aL cap (uZ GX x 0))), (yb, .inl (cI, aI (6 * cap) gbe)), (hs, .inl (cI, aI 12 fsz)), (hc, .inl (cI, aI 72 fco)), (t0, .inr (1, [.int (iI ((n : Nat) : Int)), .int (iI choices), .int (iI bars), .ref hs, .ref hc, .ref hf, .ref hg, .ref hb, .ref he, .ref hm])), (he, .inl (cI, aI 2 fle))]) 4 1 rfl rfl (by omega) (by omega) (by omega) std_Y_lookBack_61 rfl ?_
          refine g_aload_n C 2 std_Y_lookBack_62 rfl ?_
          refine g_get C (st_sub sti_Y) 0 rfl rfl 5 (by decide) (List.mem_cons_of_mem _ kw_1_92) rfl rfl std_Y_lookBack_63 ?_
          refine g_iload_n C 1 std_Y_lookBack_66 rfl ?_
          refine g_iconst C std_Y_lookBack_67 ?_
          refine g_iast C (ws' := [(y0, .inr (2, [.ref t0, .int (iI total), .ref ys, .ref yk, .ref yc, .ref yd, .ref yw, .ref yx, .ref yb, .ref yu])), (ys, .inl (cI, aI 14 gst)), (yk, .inl (cI, aI cap gk)), (yd, .inl (cI, aI cap (uZ GD x 0))), (yx, .inl (cJ, aL cap (uZ GX x 0))), (yb, .inl (cI, aI (6 * cap) gbe)), (hs, .inl (cI, aI 12 fsz)), (hc, .inl (cI, aI 72 fco)), (t0, .inr (1, [.int (iI ((n : Nat) : Int)), .int (iI choices), .int (iI bars), .ref hs, .ref hc, .ref hf, .ref hg, .ref hb, .ref he, .ref hm])), (he, .inl (cI, aI 2 fle))]) 3 0 rfl rfl (by omega) (by omega) (by omega) std_Y_lookBack_68 rfl ?_
          refine g_iinc C (lv' := [(1, .int (iI (x + 1))), (2, .int (iI (bI (fle 0 ≤ ((gk x) / 512) ∧ fle 1 ≤ (((gk x) / 8) % 64))))), (0, .ref y0)]) 1 std_Y_lookBack_69 rfl (by decide) rfl ?_
          refine g_goto (tgt := 13) C std_Y_lookBack_72 (by decide) ?_
          refine g_sub (ws' := [(y0, .inr (2, [.ref t0, .int (iI total), .ref ys, .ref yk, .ref yc, .ref yd, .ref yw, .ref yx, .ref yb, .ref yu])), (ys, .inl (cI, aI 14 gst)), (yk, .inl (cI, aI cap gk)), (yd, .inl (cI, aI cap (uZ GD x 0))), (yx, .inl (cJ, aL cap (uZ GX x 0))), (yb, .inl (cI, aI (6 * cap) gbe)), (t0, .inr (1, [.int (iI ((n : Nat) : Int)), .int (iI choices), .int (iI bars), .ref hs, .ref hc, .ref hf, .ref hg, .ref hb, .ref he, .ref hm])), (hs, .inl (cI, aI 12 fsz)), (hc, .inl (cI, aI 72 fco)), (he, .inl (cI, aI 2 fle))]) [0, 1, 2, 3, 4, 5, 8, 6, 7, 9] rfl rfl ?_
          refine g_lv (lv' := [(1, .int (iI (x + 1))), (0, .ref y0)]) [0, 2] rfl ?_
          refine g_wide (k := 0) (n := 0) (Nat.le_of_ble_eq_true rfl) (Nat.le_of_ble_eq_true rfl) ?_
          exact ih13 (x + 1) (uZ GX x 0) (uZ GD x 0) (by omega) (bk_last kB (wf0_f hen)) (by omega)
        · have hen := c16
          refine g_lconst C (z := 1) std_Y_lookBack_56 (by decide) ?_
          refine g_goto (tgt := 61) C std_Y_lookBack_57 (by decide) ?_
          refine g_last C (ws' := [(y0, .inr (2, [.ref t0, .int (iI total), .ref ys, .ref yk, .ref yc, .ref yd, .ref yw, .ref yx, .ref yb, .ref yu])), (ys, .inl (cI, aI 14 gst)), (yk, .inl (cI, aI cap gk)), (yd, .inl (cI, aI cap GD)), (yx, .inl (cJ, aL cap (uZ GX x 1))), (yb, .inl (cI, aI (6 * cap) gbe)), (hs, .inl (cI, aI 12 fsz)), (hc, .inl (cI, aI 72 fco)), (t0, .inr (1, [.int (iI ((n : Nat) : Int)), .int (iI choices), .int (iI bars), .ref hs, .ref hc, .ref hf, .ref hg, .ref hb, .ref he, .ref hm])), (he, .inl (cI, aI 2 fle))]) 4 1 rfl rfl (by omega) (by omega) (by omega) std_Y_lookBack_61 rfl ?_
          refine g_aload_n C 2 std_Y_lookBack_62 rfl ?_
          refine g_get C (st_sub sti_Y) 0 rfl rfl 5 (by decide) (List.mem_cons_of_mem _ kw_1_92) rfl rfl std_Y_lookBack_63 ?_
          refine g_iload_n C 1 std_Y_lookBack_66 rfl ?_
          refine g_iconst C std_Y_lookBack_67 ?_
          refine g_iast C (ws' := [(y0, .inr (2, [.ref t0, .int (iI total), .ref ys, .ref yk, .ref yc, .ref yd, .ref yw, .ref yx, .ref yb, .ref yu])), (ys, .inl (cI, aI 14 gst)), (yk, .inl (cI, aI cap gk)), (yd, .inl (cI, aI cap (uZ GD x 0))), (yx, .inl (cJ, aL cap (uZ GX x 1))), (yb, .inl (cI, aI (6 * cap) gbe)), (hs, .inl (cI, aI 12 fsz)), (hc, .inl (cI, aI 72 fco)), (t0, .inr (1, [.int (iI ((n : Nat) : Int)), .int (iI choices), .int (iI bars), .ref hs, .ref hc, .ref hf, .ref hg, .ref hb, .ref he, .ref hm])), (he, .inl (cI, aI 2 fle))]) 3 0 rfl rfl (by omega) (by omega) (by omega) std_Y_lookBack_68 rfl ?_
          refine g_iinc C (lv' := [(1, .int (iI (x + 1))), (2, .int (iI (bI (fle 0 ≤ ((gk x) / 512) ∧ fle 1 ≤ (((gk x) / 8) % 64))))), (0, .ref y0)]) 1 std_Y_lookBack_69 rfl (by decide) rfl ?_
          refine g_goto (tgt := 13) C std_Y_lookBack_72 (by decide) ?_
          refine g_sub (ws' := [(y0, .inr (2, [.ref t0, .int (iI total), .ref ys, .ref yk, .ref yc, .ref yd, .ref yw, .ref yx, .ref yb, .ref yu])), (ys, .inl (cI, aI 14 gst)), (yk, .inl (cI, aI cap gk)), (yd, .inl (cI, aI cap (uZ GD x 0))), (yx, .inl (cJ, aL cap (uZ GX x 1))), (yb, .inl (cI, aI (6 * cap) gbe)), (t0, .inr (1, [.int (iI ((n : Nat) : Int)), .int (iI choices), .int (iI bars), .ref hs, .ref hc, .ref hf, .ref hg, .ref hb, .ref he, .ref hm])), (hs, .inl (cI, aI 12 fsz)), (hc, .inl (cI, aI 72 fco)), (he, .inl (cI, aI 2 fle))]) [0, 1, 2, 3, 4, 5, 8, 6, 7, 9] rfl rfl ?_
          refine g_lv (lv' := [(1, .int (iI (x + 1))), (0, .ref y0)]) [0, 2] rfl ?_
          refine g_wide (k := 0) (n := 0) (Nat.le_of_ble_eq_true rfl) (Nat.le_of_ble_eq_true rfl) ?_
          exact ih13 (x + 1) (uZ GX x 1) (uZ GD x 0) (by omega) (bk_last kB (wf0_t hen)) (by omega)
  obtain ⟨nn0, hnn0⟩ : ∃ nn0 : Nat, (total - (gst ((n : Nat) : Int))) < (nn0 : Int) := z_nat _
  exact L13 nn0 (gst ((n : Nat) : Int)) gwf gcf (by omega) (fun i i1 i2 => by omega) hnn0

