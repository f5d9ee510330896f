/-! FirstPlans.find -/
abbrev sty_F_find : MethodName := ⟨"StateTables$FirstPlans", "find", "()V"⟩
abbrev stc_F_find : ByteArray := prog_2_method_5_code
theorem sth_F_find : (sty_F_find).cls ≠ "java/lang/invoke/MethodHandle" ∧ (sty_F_find).cls ≠ "java/lang/invoke/VarHandle" ∧ (parseMethodDescriptor (sty_F_find).desc).map (fun d => d.parameters.length) = some 0 := by decide +kernel
theorem std_F_find_0 : decode stc_F_find 0 = .ok (.aload_n 0, 1) := by decide +kernel
theorem std_F_find_1 : decode stc_F_find 1 = .ok (.iconst 0, 1) := by decide +kernel
theorem std_F_find_2 : decode stc_F_find 2 = .ok (.putfield 37, 3) := by decide +kernel
theorem std_F_find_5 : decode stc_F_find 5 = .ok (.aload_n 0, 1) := by decide +kernel
theorem std_F_find_6 : decode stc_F_find 6 = .ok (.getfield 29, 3) := by decide +kernel
theorem std_F_find_9 : decode stc_F_find 9 = .ok (.getfield 41, 3) := by decide +kernel
theorem std_F_find_12 : decode stc_F_find 12 = .ok (.iconst 0, 1) := by decide +kernel
theorem std_F_find_13 : decode stc_F_find 13 = .ok (.laload, 1) := by decide +kernel
theorem std_F_find_14 : decode stc_F_find 14 = .ok (.lconst 0, 1) := by decide +kernel
theorem std_F_find_15 : decode stc_F_find 15 = .ok (.lcmp, 1) := by decide +kernel
theorem std_F_find_16 : decode stc_F_find 16 = .ok (.ifCond .ne 4, 3) := by decide +kernel
theorem std_F_find_20 : decode stc_F_find 20 = .ok (.aload_n 0, 1) := by decide +kernel
theorem std_F_find_21 : decode stc_F_find 21 = .ok (.getfield 11, 3) := by decide +kernel
theorem std_F_find_24 : decode stc_F_find 24 = .ok (.iconst 0, 1) := by decide +kernel
theorem std_F_find_25 : decode stc_F_find 25 = .ok (.aload_n 0, 1) := by decide +kernel
theorem std_F_find_26 : decode stc_F_find 26 = .ok (.getfield 29, 3) := by decide +kernel
theorem std_F_find_29 : decode stc_F_find 29 = .ok (.getfield 46, 3) := by decide +kernel
theorem std_F_find_32 : decode stc_F_find 32 = .ok (.iconst 0, 1) := by decide +kernel
theorem std_F_find_33 : decode stc_F_find 33 = .ok (.iaload, 1) := by decide +kernel
theorem std_F_find_34 : decode stc_F_find 34 = .ok (.sipush 12000, 3) := by decide +kernel
theorem std_F_find_37 : decode stc_F_find 37 = .ok (.iadd, 1) := by decide +kernel
theorem std_F_find_38 : decode stc_F_find 38 = .ok (.i2l, 1) := by decide +kernel
theorem std_F_find_39 : decode stc_F_find 39 = .ok (.bipush 36, 2) := by decide +kernel
theorem std_F_find_41 : decode stc_F_find 41 = .ok (.lshl, 1) := by decide +kernel
theorem std_F_find_42 : decode stc_F_find 42 = .ok (.lastore, 1) := by decide +kernel
theorem std_F_find_43 : decode stc_F_find 43 = .ok (.aload_n 0, 1) := by decide +kernel
theorem std_F_find_44 : decode stc_F_find 44 = .ok (.getfield 15, 3) := by decide +kernel
theorem std_F_find_47 : decode stc_F_find 47 = .ok (.iconst 0, 1) := by decide +kernel
theorem std_F_find_48 : decode stc_F_find 48 = .ok (.iconst 0, 1) := by decide +kernel
theorem std_F_find_49 : decode stc_F_find 49 = .ok (.iastore, 1) := by decide +kernel
theorem std_F_find_50 : decode stc_F_find 50 = .ok (.aload_n 0, 1) := by decide +kernel
theorem std_F_find_51 : decode stc_F_find 51 = .ok (.iconst 1, 1) := by decide +kernel
theorem std_F_find_52 : decode stc_F_find 52 = .ok (.putfield 37, 3) := by decide +kernel
theorem std_F_find_55 : decode stc_F_find 55 = .ok (.iconst 0, 1) := by decide +kernel
theorem std_F_find_56 : decode stc_F_find 56 = .ok (.istore_n 1, 1) := by decide +kernel
theorem std_F_find_57 : decode stc_F_find 57 = .ok (.iload_n 1, 1) := by decide +kernel
theorem std_F_find_58 : decode stc_F_find 58 = .ok (.aload_n 0, 1) := by decide +kernel
theorem std_F_find_59 : decode stc_F_find 59 = .ok (.getfield 25, 3) := by decide +kernel
theorem std_F_find_62 : decode stc_F_find 62 = .ok (.getfield 49, 3) := by decide +kernel
theorem kw_1_27 : Cond.fieldLink "StateTables$FirstPlans" 49 "StateTables$Told" "steps" "I" ∈ stGW := st_t1 (List.mem_of_getElem? (i := 27) (by decide +kernel)) (by decide +kernel)
theorem std_F_find_65 : decode stc_F_find 65 = .ok (.if_icmp .ge 14, 3) := by decide +kernel
theorem std_F_find_79 : decode stc_F_find 79 = .ok (.return_, 1) := by decide +kernel
theorem std_F_find_68 : decode stc_F_find 68 = .ok (.aload_n 0, 1) := by decide +kernel
theorem std_F_find_69 : decode stc_F_find 69 = .ok (.iload_n 1, 1) := by decide +kernel
theorem std_F_find_70 : decode stc_F_find 70 = .ok (.invokevirtual 54, 3) := by decide +kernel
theorem kw_2_129 : Cond.code sty_F_lengthenAll stc_F_lengthenAll 4 none ∈ stGW := st_t2 (List.mem_of_getElem? (i := 129) (by decide +kernel)) (by decide +kernel)
theorem kw_2_126 : Cond.methodLink "StateTables$FirstPlans" 54 (sty_F_lengthenAll) ∈ stGW := st_t2 (List.mem_of_getElem? (i := 126) (by decide +kernel)) (by decide +kernel)
theorem kw_2_128 : Cond.instanceMethod (sty_F_lengthenAll) ∈ stGW := st_t2 (List.mem_of_getElem? (i := 128) (by decide +kernel)) (by decide +kernel)
theorem kw_0_7 : Cond.selects "StateTables$FirstPlans" (sty_F_lengthenAll) (sty_F_lengthenAll) ∈ stGW := st_t0 (List.mem_of_getElem? (i := 7) (by decide +kernel)) (by decide +kernel)
theorem std_F_find_73 : decode stc_F_find 73 = .ok (.iinc 1 1, 3) := by decide +kernel
theorem std_F_find_76 : decode stc_F_find 76 = .ok (.goto (-19), 3) := by decide +kernel
theorem std_F_find_19 : decode stc_F_find 19 = .ok (.return_, 1) := by decide +kernel
set_option maxHeartbeats 4000000 in
set_option maxRecDepth 100000 in
theorem c_find (l : Launch) (dC : Nat → ClassId) (dI : Nat → Nat → Nat) (cI cJ cZ : ClassId) (f0 : Nat) (r1 : Nat) (e1 : Nat) (r2 : Nat) (e2 : Nat) (fo : Int) (lf : Int) (y0 : Nat) (ys : Nat) (yk : Nat) (yc : Nat) (yd : Nat) (yw : Nat) (yx : Nat) (yb : Nat) (yu : Nat) (total : Int) (t0 : Nat) (hs : Nat) (hc : Nat) (hf : Nat) (hg : Nat) (hb : Nat) (he : Nat) (hm : Nat) (choices : Int) (bars : Int) (cap : Nat) (n : Nat) (fr1 : Int → Int) (fe1 : Int → Int) (fr2 : Int → Int) (fe2 : Int → Int) (gst : Int → Int) (gk : Int → Int) (gwt : Int → Int) (gct : Int → Int) (gbe : Int → Int) (gwf : Int → Int) (gcf : Int → Int) (fle : Int → Int) (fsz : Int → Int) (fco : Int → Int) (ffu : Int → Int) (fsu : Int → Int) (fbb : Int → Int) (fmo : Int → Int) (kcap : cap ≤ 4801) (kgst : ∀ j, 0 ≤ j → j < 14 → 0 ≤ gst j ∧ gst j ≤ cap) (kn : n ≤ 12) (kc0 : 1 ≤ cap) (kT : TB fsz fco ffu fsu fbb fmo) (kLS : LYS fsz fco ffu fsu fbb fmo n gst gk gwt gct gbe) (kB : ∀ d : Nat, d ≤ n → BK fsz fco ffu fsu fbb fmo fle n gk gwf gcf d (gst ((d : Nat) : Int)) (gst (((d : Nat) : Int) + 1))) : ∀ sz, Met l sty_F_find (Cond.code sty_F_find stc_F_find 2 none :: stGW) ({ frames := 3, cells := 0, slots := 0, locals := 75 } : Room) (va_Pc [.ref f0] (zPre (dC, dI) stCl [(cI, .int), (cJ, .long), (cZ, .boolean)] st_nw [(f0, .inr (3, [.ref t0, .ref y0, .int (iI fo), .ref r1, .ref e1, .int (iI lf), .ref r2, .ref e2])), (r1, .inl (cJ, aL 20 fr1)), (e1, .inl (cI, aI 20 fe1)), (r2, .inl (cJ, aL 20 fr2)), (e2, .inl (cI, aI 20 fe2)), (y0, .inr (2, [.ref t0, .int (iI total), .ref ys, .ref yk, .ref yc, .ref yd, .ref yw, .ref yx, .ref yb, .ref yu])), (yb, .inl (cI, aI (6 * cap) gbe)), (yx, .inl (cJ, aL cap gwf)), (yd, .inl (cI, aI cap gcf)), (t0, .inr (1, [.int (iI ((n : Nat) : Int)), .int (iI choices), .int (iI bars), .ref hs, .ref hc, .ref hf, .ref hg, .ref hb, .ref he, .ref hm])), (hc, .inl (cI, aI 72 fco)), (hs, .inl (cI, aI 12 fsz))] sz)) (va_Qv (fun (u : Nat × Nat × Nat × Nat × (Int → Int) × (Int → Int) × (Int → Int) × (Int → Int) × Int × Int) => FS (PC fsz fco ffu fsu fbb fmo fle n gst gk n) u.2.2.2.2.2.2.2.2.1 u.2.2.2.2.1 u.2.2.2.2.2.1) (zPost (dC, dI) stCl [(cI, .int), (cJ, .long), (cZ, .boolean)] [(f0, .inr (3, [.ref t0, .ref y0, .int (iI fo), .ref r1, .ref e1, .int (iI lf), .ref r2, .ref e2])), (r1, .inl (cJ, aL 20 fr1)), (e1, .inl (cI, aI 20 fe1)), (r2, .inl (cJ, aL 20 fr2)), (e2, .inl (cI, aI 20 fe2)), (y0, .inr (2, [.ref t0, .int (iI total), .ref ys, .ref yk, .ref yc, .ref yd, .ref yw, .ref yx, .ref yb, .ref yu])), (yb, .inl (cI, aI (6 * cap) gbe)), (yx, .inl (cJ, aL cap gwf)), (yd, .inl (cI, aI cap gcf)), (t0, .inr (1, [.int (iI ((n : Nat) : Int)), .int (iI choices), .int (iI bars), .ref hs, .ref hc, .ref hf, .ref hg, .ref hb, .ref he, .ref hm])), (hc, .inl (cI, aI 72 fco)), (hs, .inl (cI, aI 12 fsz))] sz (fun u : Nat × Nat × Nat × Nat × (Int → Int) × (Int → Int) × (Int → Int) × (Int → Int) × Int × Int => [(f0, .inr (3, [.ref t0, .ref y0, .int (iI (u.2.2.2.2.2.2.2.2.1)), .ref u.1, .ref u.2.1, .int (iI (u.2.2.2.2.2.2.2.2.2)), .ref u.2.2.1, .ref u.2.2.2.1])), (u.1, .inl (cJ, aL 20 (u.2.2.2.2.1))), (u.2.1, .inl (cI, aI 20 (u.2.2.2.2.2.1))), (u.2.2.1, .inl (cJ, aL 20 (u.2.2.2.2.2.2.1))), (u.2.2.2.1, .inl (cI, aI 20 (u.2.2.2.2.2.2.2.1))), (y0, .inr (2, [.ref t0, .int (iI total), .ref ys, .ref yk, .ref yc, .ref yd, .ref yw, .ref yx, .ref yb, .ref yu])), (yb, .inl (cI, aI (6 * cap) gbe)), (yx, .inl (cJ, aL cap gwf)), (yd, .inl (cI, aI cap gcf)), (t0, .inr (1, [.int (iI ((n : Nat) : Int)), .int (iI choices), .int (iI bars), .ref hs, .ref hc, .ref hf, .ref hg, .ref hb, .ref he, .ref hm])), (hc, .inl (cI, aI 72 fco)), (hs, .inl (cI, aI 12 fsz))])) (va_A [(f0, .inr (3, [.ref t0, .ref y0, .int (iI fo), .ref r1, .ref e1, .int (iI lf), .ref r2, .ref e2])), (r1, .inl (cJ, aL 20 fr1)), (e1, .inl (cI, aI 20 fe1)), (r2, .inl (cJ, aL 20 fr2)), (e2, .inl (cI, aI 20 fe2)), (y0, .inr (2, [.ref t0, .int (iI total), .ref ys, .ref yk, .ref yc, .ref yd, .ref yw, .ref yx, .ref yb, .ref yu])), (yb, .inl (cI, aI (6 * cap) gbe)), (yx, .inl (cJ, aL cap gwf)), (yd, .inl (cI, aI cap gcf)), (t0, .inr (1, [.int (iI ((n : Nat) : Int)), .int (iI choices), .int (iI bars), .ref hs, .ref hc, .ref hf, .ref hg, .ref hb, .ref he, .ref hm])), (hc, .inl (cI, aI 72 fco)), (hs, .inl (cI, aI 12 fsz))] sz)) 0 0 (va_A [(f0, .inr (3, [.ref t0, .ref y0, .int (iI fo), .ref r1, .ref e1, .int (iI lf), .ref r2, .ref e2])), (r1, .inl (cJ, aL 20 fr1)), (e1, .inl (cI, aI 20 fe1)), (r2, .inl (cJ, aL 20 fr2)), (e2, .inl (cI, aI 20 fe2)), (y0, .inr (2, [.ref t0, .int (iI total), .ref ys, .ref yk, .ref yc, .ref yd, .ref yw, .ref yx, .ref yb, .ref yu])), (yb, .inl (cI, aI (6 * cap) gbe)), (yx, .inl (cJ, aL cap gwf)), (yd, .inl (cI, aI cap gcf)), (t0, .inr (1, [.int (iI ((n : Nat) : Int)), .int (iI choices), .int (iI bars), .ref hs, .ref hc, .ref hf, .ref hg, .ref hb, .ref he, .ref hm])), (hc, .inl (cI, aI 72 fco)), (hs, .inl (cI, aI 12 fsz))] sz) := by
  refine met_v (by decide) rfl (Nat.le_of_ble_eq_true rfl) ?_
  intro p e s m below meth c A Q C hmn hret
  have hroot := ls_root kLS
  have hB0 := kB 0 (Nat.zero_le n) 0 (by show gst 0 ≤ 0; omega) (by show 0 < gst (0 + 1); exact hroot.2.1)
  rw [hroot.2.2, Nat.sub_zero] at hB0
  have hwn := wf_nn (fsz := fsz) (ffu := ffu) (fsu := fsu) (fbb := fbb) (fmo := fmo) (fle := fle) n 0 0
  have hwb := wf_big (fle := fle) kT (j := n) (d := 0) (k := 0) (by omega)
  refine g_aload_n C 0 std_F_find_0 rfl ?_
  refine g_iconst C std_F_find_1 ?_
  refine g_put C (ws' := [(f0, .inr (3, [.ref t0, .ref y0, .int (iI 0), .ref r1, .ref e1, .int (iI lf), .ref r2, .ref e2])), (r1, .inl (cJ, aL 20 fr1)), (e1, .inl (cI, aI 20 fe1)), (r2, .inl (cJ, aL 20 fr2)), (e2, .inl (cI, aI 20 fe2)), (y0, .inr (2, [.ref t0, .int (iI total), .ref ys, .ref yk, .ref yc, .ref yd, .ref yw, .ref yx, .ref yb, .ref yu])), (yb, .inl (cI, aI (6 * cap) gbe)), (yx, .inl (cJ, aL cap gwf)), (yd, .inl (cI, aI cap gcf)), (t0, .inr (1, [.int (iI ((n : Nat) : Int)), .int (iI choices), .int (iI bars), .ref hs, .ref hc, .ref hf, .ref hg, .ref hb, .ref he, .ref hm])), (hc, .inl (cI, aI 72 fco)), (hs, .inl (cI, aI 12 fsz))]) (st_sub sti_F) stt_F sto_F stn_F 0 rfl rfl 2 (by decide) (List.mem_cons_of_mem _ kw_1_131) rfl rfl rfl rfl (Nat.le_of_ble_eq_true rfl) std_F_find_2 rfl ?_
  refine g_aload_n C 0 std_F_find_5 rfl ?_
  refine g_get C (st_sub sti_F) 0 rfl rfl 1 (by decide) (List.mem_cons_of_mem _ kw_1_130) rfl rfl std_F_find_6 ?_
  refine g_get C (st_sub sti_Y) 5 rfl rfl 7 (by decide) (List.mem_cons_of_mem _ kw_1_97) rfl rfl std_F_find_9 ?_
  refine g_iconst C std_F_find_12 ?_
  refine g_lald C 7 1 rfl rfl (by omega) (by omega) (by omega) std_F_find_13 ?_
  refine g_lconst C (z := 0) std_F_find_14 (by decide) ?_
  refine g_lcmp_ne (tgt := 20) C std_F_find_15 std_F_find_16 (by decide) ⟨by omega, by omega⟩ ⟨by omega, by omega⟩ (fun c1 => ?_) (fun c1 => ?_)
  · have hc0 := hB0.2.1 (by omega)
    refine g_aload_n C 0 std_F_find_20 rfl ?_
    refine g_get C (st_sub sti_F) 0 rfl rfl 3 (by decide) (List.mem_cons_of_mem _ kw_1_133) rfl rfl std_F_find_21 ?_
    refine g_iconst C std_F_find_24 ?_
    refine g_aload_n C 0 std_F_find_25 rfl ?_
    refine g_get C (st_sub sti_F) 0 rfl rfl 1 (by decide) (List.mem_cons_of_mem _ kw_1_130) rfl rfl std_F_find_26 ?_
    refine g_get C (st_sub sti_Y) 5 rfl rfl 5 (by decide) (List.mem_cons_of_mem _ kw_1_93) rfl rfl std_F_find_29 ?_
    refine g_iconst C std_F_find_32 ?_
    refine g_iald C 8 0 rfl rfl (by omega) (by omega) (by omega) std_F_find_33 ?_
    refine g_sipush C std_F_find_34 (by decide) ?_
    refine g_iadd C std_F_find_37 ?_
    refine g_i2l C std_F_find_38 ⟨by omega, by omega⟩ ?_
    refine g_bipush C std_F_find_39 (by decide) ?_
    refine g_lshl C (z := (((gcf 0) + 12000) * 68719476736)) std_F_find_41 (lI_shl (by decide) (by decide) (by decide)) ?_
    refine g_last C (ws' := [(f0, .inr (3, [.ref t0, .ref y0, .int (iI 0), .ref r1, .ref e1, .int (iI lf), .ref r2, .ref e2])), (r1, .inl (cJ, aL 20 (uZ fr1 0 (((gcf 0) + 12000) * 68719476736)))), (e1, .inl (cI, aI 20 fe1)), (r2, .inl (cJ, aL 20 fr2)), (e2, .inl (cI, aI 20 fe2)), (y0, .inr (2, [.ref t0, .int (iI total), .ref ys, .ref yk, .ref yc, .ref yd, .ref yw, .ref yx, .ref yb, .ref yu])), (yb, .inl (cI, aI (6 * cap) gbe)), (yx, .inl (cJ, aL cap gwf)), (yd, .inl (cI, aI cap gcf)), (t0, .inr (1, [.int (iI ((n : Nat) : Int)), .int (iI choices), .int (iI bars), .ref hs, .ref hc, .ref hf, .ref hg, .ref hb, .ref he, .ref hm])), (hc, .inl (cI, aI 72 fco)), (hs, .inl (cI, aI 12 fsz))]) 1 1 rfl rfl (by omega) (by omega) (by omega) std_F_find_42 rfl ?_
    refine g_aload_n C 0 std_F_find_43 rfl ?_
    refine g_get C (st_sub sti_F) 0 rfl rfl 4 (by decide) (List.mem_cons_of_mem _ kw_1_134) rfl rfl std_F_find_44 ?_
    refine g_iconst C std_F_find_47 ?_
    refine g_iconst C std_F_find_48 ?_
    refine g_iast C (ws' := [(f0, .inr (3, [.ref t0, .ref y0, .int (iI 0), .ref r1, .ref e1, .int (iI lf), .ref r2, .ref e2])), (r1, .inl (cJ, aL 20 (uZ fr1 0 (((gcf 0) + 12000) * 68719476736)))), (e1, .inl (cI, aI 20 (uZ fe1 0 0))), (r2, .inl (cJ, aL 20 fr2)), (e2, .inl (cI, aI 20 fe2)), (y0, .inr (2, [.ref t0, .int (iI total), .ref ys, .ref yk, .ref yc, .ref yd, .ref yw, .ref yx, .ref yb, .ref yu])), (yb, .inl (cI, aI (6 * cap) gbe)), (yx, .inl (cJ, aL cap gwf)), (yd, .inl (cI, aI cap gcf)), (t0, .inr (1, [.int (iI ((n : Nat) : Int)), .int (iI choices), .int (iI bars), .ref hs, .ref hc, .ref hf, .ref hg, .ref hb, .ref he, .ref hm])), (hc, .inl (cI, aI 72 fco)), (hs, .inl (cI, aI 12 fsz))]) 2 0 rfl rfl (by omega) (by omega) (by omega) std_F_find_49 rfl ?_
    refine g_aload_n C 0 std_F_find_50 rfl ?_
    refine g_iconst C std_F_find_51 ?_
    refine g_put C (ws' := [(f0, .inr (3, [.ref t0, .ref y0, .int (iI 1), .ref r1, .ref e1, .int (iI lf), .ref r2, .ref e2])), (r1, .inl (cJ, aL 20 (uZ fr1 0 (((gcf 0) + 12000) * 68719476736)))), (e1, .inl (cI, aI 20 (uZ fe1 0 0))), (r2, .inl (cJ, aL 20 fr2)), (e2, .inl (cI, aI 20 fe2)), (y0, .inr (2, [.ref t0, .int (iI total), .ref ys, .ref yk, .ref yc, .ref yd, .ref yw, .ref yx, .ref yb, .ref yu])), (yb, .inl (cI, aI (6 * cap) gbe)), (yx, .inl (cJ, aL cap gwf)), (yd, .inl (cI, aI cap gcf)), (t0, .inr (1, [.int (iI ((n : Nat) : Int)), .int (iI choices), .int (iI bars), .ref hs, .ref hc, .ref hf, .ref hg, .ref hb, .ref he, .ref hm])), (hc, .inl (cI, aI 72 fco)), (hs, .inl (cI, aI 12 fsz))]) (st_sub sti_F) stt_F sto_F stn_F 0 rfl rfl 2 (by decide) (List.mem_cons_of_mem _ kw_1_131) rfl rfl rfl rfl (Nat.le_of_ble_eq_true rfl) std_F_find_52 rfl ?_
    refine g_iconst C std_F_find_55 ?_
    refine g_istore_n C (lv' := [(1, .int (iI 0)), (0, .ref f0)]) std_F_find_56 (by decide) rfl ?_
    have L57 : ∀ (nn57 : Nat) (d : Nat) (a1 : Nat) (b1 : Nat) (a2 : Nat) (b2 : Nat) (FR : Int → Int) (FE : Int → Int) (GR : Int → Int) (GE : Int → Int) (mm : Int) (ml : Int), d ≤ n → FS (PC fsz fco ffu fsu fbb fmo fle n gst gk d) mm FR FE → ((n : Int) - (d : Int)) < (nn57 : Int) → G p l e ({ frames := 3, cells := 0, slots := 0, locals := 75 } : Room) s m ([.ref f0] : List Value).toArray below meth c (dC, dI) stCl 2 A 0 0 Q [(f0, .inr (3, [.ref t0, .ref y0, .int (iI mm), .ref a1, .ref b1, .int (iI ml), .ref a2, .ref b2])), (a1, .inl (cJ, aL 20 FR)), (b1, .inl (cI, aI 20 FE)), (a2, .inl (cJ, aL 20 GR)), (b2, .inl (cI, aI 20 GE)), (y0, .inr (2, [.ref t0, .int (iI total), .ref ys, .ref yk, .ref yc, .ref yd, .ref yw, .ref yx, .ref yb, .ref yu])), (yb, .inl (cI, aI (6 * cap) gbe)), (yx, .inl (cJ, aL cap gwf)), (yd, .inl (cI, aI cap gcf)), (t0, .inr (1, [.int (iI ((n : Nat) : Int)), .int (iI choices), .int (iI bars), .ref hs, .ref hc, .ref hf, .ref hg, .ref hb, .ref he, .ref hm])), (hc, .inl (cI, aI 72 fco)), (hs, .inl (cI, aI 12 fsz))] 57 [(1, .int (iI ((d : Nat) : Int))), (0, .ref f0)] [] := by
      intro nn57
      induction nn57 with
      | zero =>
        intro d a1 b1 a2 b2 FR FE GR GE mm ml kd kF hnn57
        exact absurd hnn57 (by omega)
      | succ nn57 ih57 =>
        intro d a1 b1 a2 b2 FR FE GR GE mm ml kd kF hnn57
        refine g_iload_n C 0 std_F_find_57 rfl ?_
        refine g_aload_n C 1 std_F_find_58 rfl ?_
        refine g_get C (st_sub sti_F) 0 rfl rfl 0 (by decide) (List.mem_cons_of_mem _ kw_1_129) rfl rfl std_F_find_59 ?_
        refine g_get C (st_sub sti_T) 9 rfl rfl 0 (by decide) (List.mem_cons_of_mem _ kw_1_27) rfl rfl std_F_find_62 ?_
        refine g_icmp_ge (tgt := 79) C std_F_find_65 (by decide) ⟨by omega, by omega⟩ ⟨by omega, by omega⟩ (fun c2 => ?_) (fun c2 => ?_)
        · exact hret _ _ (a1, b1, a2, b2, FR, FE, GR, GE, mm, ml) ((show d = n by omega) ▸ kF) std_F_find_79
        · refine g_aload_n C 1 std_F_find_68 rfl ?_
          refine g_iload_n C 0 std_F_find_69 rfl ?_
          refine g_V_v (wc := [(f0, .inr (3, [.ref t0, .ref y0, .int (iI mm), .ref a1, .ref b1, .int (iI ml), .ref a2, .ref b2])), (a1, .inl (cJ, aL 20 FR)), (b1, .inl (cI, aI 20 FE)), (a2, .inl (cJ, aL 20 GR)), (b2, .inl (cI, aI 20 GE)), (y0, .inr (2, [.ref t0, .int (iI total), .ref ys, .ref yk, .ref yc, .ref yd, .ref yw, .ref yx, .ref yb, .ref yu])), (yb, .inl (cI, aI (6 * cap) gbe)), (yx, .inl (cJ, aL cap gwf)), (yd, .inl (cI, aI cap gcf)), (t0, .inr (1, [.int (iI ((n : Nat) : Int)), .int (iI choices), .int (iI bars), .ref hs, .ref hc, .ref hf, .ref hg, .ref hb, .ref he, .ref hm])), (hc, .inl (cI, aI 72 fco)), (hs, .inl (cI, aI 12 fsz))]) (wr := []) (rest := []) C (c_lengthenAll l dC dI cI cJ cZ f0 a1 b1 a2 b2 mm ml y0 ys yk yc yd yw yx yb yu total t0 hs hc hf hg hb he hm ((n : Nat) : Int) choices bars cap n d FR FE GR GE gst gk gwt gct gbe gwf gcf fle fsz fco ffu fsu fbb fmo (kcap) (kgst) (kn) (by omega) (kT) (kLS) (kB) (kF)) (st_cV C kw_2_129 kw_2_126 kw_1_4 kw_2_128 kw_0_7 sth_F_lengthenAll ⟨Nat.le_of_ble_eq_true rfl, Nat.le_of_ble_eq_true rfl⟩) 0 rfl rfl rfl rfl (Nat.le_of_ble_eq_true rfl) std_F_find_70 ⟨Nat.le_of_ble_eq_true rfl, Nat.le_of_ble_eq_true rfl⟩ [0, 1, 2, 3, 4, 5, 6, 7, 8, 9, 10, 11] [] rfl rfl rfl rfl (by decide) (fun u4 h5 => ?_)
          obtain ⟨LR6, LE7, m8⟩ := u4
          dsimp only at h5
          refine g_ws (ws' := [(f0, .inr (3, [.ref t0, .ref y0, .int (iI m8), .ref a2, .ref b2, .int (iI m8), .ref a1, .ref b1])), (a1, .inl (cJ, aL 20 FR)), (b1, .inl (cI, aI 20 FE)), (a2, .inl (cJ, aL 20 LR6)), (b2, .inl (cI, aI 20 LE7)), (y0, .inr (2, [.ref t0, .int (iI total), .ref ys, .ref yk, .ref yc, .ref yd, .ref yw, .ref yx, .ref yb, .ref yu])), (yb, .inl (cI, aI (6 * cap) gbe)), (yx, .inl (cJ, aL cap gwf)), (yd, .inl (cI, aI cap gcf)), (t0, .inr (1, [.int (iI ((n : Nat) : Int)), .int (iI choices), .int (iI bars), .ref hs, .ref hc, .ref hf, .ref hg, .ref hb, .ref he, .ref hm])), (hc, .inl (cI, aI 72 fco)), (hs, .inl (cI, aI 12 fsz))]) rfl ?_
          refine g_iinc C (lv' := [(1, .int (iI (((d : Nat) : Int) + 1))), (0, .ref f0)]) 0 std_F_find_73 rfl (by decide) rfl ?_
          refine g_goto (tgt := 57) C std_F_find_76 (by decide) ?_
          refine g_sub (ws' := [(f0, .inr (3, [.ref t0, .ref y0, .int (iI m8), .ref a2, .ref b2, .int (iI m8), .ref a1, .ref b1])), (a2, .inl (cJ, aL 20 LR6)), (b2, .inl (cI, aI 20 LE7)), (a1, .inl (cJ, aL 20 FR)), (b1, .inl (cI, aI 20 FE)), (y0, .inr (2, [.ref t0, .int (iI total), .ref ys, .ref yk, .ref yc, .ref yd, .ref yw, .ref yx, .ref yb, .ref yu])), (yb, .inl (cI, aI (6 * cap) gbe)), (yx, .inl (cJ, aL cap gwf)), (yd, .inl (cI, aI cap gcf)), (t0, .inr (1, [.int (iI ((n : Nat) : Int)), .int (iI choices), .int (iI bars), .ref hs, .ref hc, .ref hf, .ref hg, .ref hb, .ref he, .ref hm])), (hc, .inl (cI, aI 72 fco)), (hs, .inl (cI, aI 12 fsz))]) [0, 3, 4, 1, 2, 5, 6, 7, 8, 9, 10, 11] rfl rfl ?_
          refine g_wide (k := 0) (n := 0) (Nat.le_of_ble_eq_true rfl) (Nat.le_of_ble_eq_true rfl) ?_
          exact ih57 (d + 1) a2 b2 a1 b1 LR6 LE7 FR FE m8 m8 (by omega) (h5) (by omega)
    obtain ⟨nn0, hnn0⟩ : ∃ nn0 : Nat, ((n : Int) - (0 : Int)) < (nn0 : Int) := z_nat _
    exact L57 nn0 0 r1 e1 r2 e2 (uZ fr1 0 (((gcf 0) + 12000) * 68719476736)) (uZ fe1 0 0) fr2 fe2 1 lf (by omega) (fs_first hroot (by omega) (by rw [hc0])) hnn0
  · exact hret _ _ (r1, e1, r2, e2, fr1, fe1, fr2, fe2, 0, lf) (fs_none (by omega)) std_F_find_19

