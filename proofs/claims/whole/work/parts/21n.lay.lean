/-! Layers.lay -/
abbrev sty_Y_lay : MethodName := ⟨"StateTables$Layers", "lay", "()Z"⟩
abbrev stc_Y_lay : ByteArray := prog_3_method_7_code
theorem sth_Y_lay : (sty_Y_lay).cls ≠ "java/lang/invoke/MethodHandle" ∧ (sty_Y_lay).cls ≠ "java/lang/invoke/VarHandle" ∧ (parseMethodDescriptor (sty_Y_lay).desc).map (fun d => d.parameters.length) = some 0 := by decide +kernel
theorem std_Y_lay_0 : decode stc_Y_lay 0 = .ok (.aload_n 0, 1) := by decide +kernel
theorem std_Y_lay_1 : decode stc_Y_lay 1 = .ok (.getfield 15, 3) := by decide +kernel
theorem std_Y_lay_4 : decode stc_Y_lay 4 = .ok (.iconst 0, 1) := by decide +kernel
theorem std_Y_lay_5 : decode stc_Y_lay 5 = .ok (.iconst 0, 1) := by decide +kernel
theorem std_Y_lay_6 : decode stc_Y_lay 6 = .ok (.iconst 0, 1) := by decide +kernel
theorem std_Y_lay_7 : decode stc_Y_lay 7 = .ok (.iconst (-1), 1) := by decide +kernel
theorem std_Y_lay_8 : decode stc_Y_lay 8 = .ok (.invokestatic 56, 3) := by decide +kernel
theorem std_Y_lay_11 : decode stc_Y_lay 11 = .ok (.iastore, 1) := by decide +kernel
theorem std_Y_lay_12 : decode stc_Y_lay 12 = .ok (.aload_n 0, 1) := by decide +kernel
theorem std_Y_lay_13 : decode stc_Y_lay 13 = .ok (.getfield 18, 3) := by decide +kernel
theorem std_Y_lay_16 : decode stc_Y_lay 16 = .ok (.iconst 0, 1) := by decide +kernel
theorem std_Y_lay_17 : decode stc_Y_lay 17 = .ok (.iconst 0, 1) := by decide +kernel
theorem std_Y_lay_18 : decode stc_Y_lay 18 = .ok (.iastore, 1) := by decide +kernel
theorem std_Y_lay_19 : decode stc_Y_lay 19 = .ok (.aload_n 0, 1) := by decide +kernel
theorem std_Y_lay_20 : decode stc_Y_lay 20 = .ok (.getfield 24, 3) := by decide +kernel
theorem std_Y_lay_23 : decode stc_Y_lay 23 = .ok (.iconst 0, 1) := by decide +kernel
theorem std_Y_lay_24 : decode stc_Y_lay 24 = .ok (.lconst 1, 1) := by decide +kernel
theorem std_Y_lay_25 : decode stc_Y_lay 25 = .ok (.lastore, 1) := by decide +kernel
theorem std_Y_lay_26 : decode stc_Y_lay 26 = .ok (.aload_n 0, 1) := by decide +kernel
theorem std_Y_lay_27 : decode stc_Y_lay 27 = .ok (.getfield 9, 3) := by decide +kernel
theorem std_Y_lay_30 : decode stc_Y_lay 30 = .ok (.iconst 0, 1) := by decide +kernel
theorem std_Y_lay_31 : decode stc_Y_lay 31 = .ok (.iconst 0, 1) := by decide +kernel
theorem std_Y_lay_32 : decode stc_Y_lay 32 = .ok (.iastore, 1) := by decide +kernel
theorem std_Y_lay_33 : decode stc_Y_lay 33 = .ok (.aload_n 0, 1) := by decide +kernel
theorem std_Y_lay_34 : decode stc_Y_lay 34 = .ok (.getfield 9, 3) := by decide +kernel
theorem std_Y_lay_37 : decode stc_Y_lay 37 = .ok (.iconst 1, 1) := by decide +kernel
theorem std_Y_lay_38 : decode stc_Y_lay 38 = .ok (.iconst 1, 1) := by decide +kernel
theorem std_Y_lay_39 : decode stc_Y_lay 39 = .ok (.iastore, 1) := by decide +kernel
theorem std_Y_lay_40 : decode stc_Y_lay 40 = .ok (.aload_n 0, 1) := by decide +kernel
theorem std_Y_lay_41 : decode stc_Y_lay 41 = .ok (.iconst 1, 1) := by decide +kernel
theorem std_Y_lay_42 : decode stc_Y_lay 42 = .ok (.putfield 60, 3) := by decide +kernel
theorem std_Y_lay_45 : decode stc_Y_lay 45 = .ok (.iconst 0, 1) := by decide +kernel
theorem std_Y_lay_46 : decode stc_Y_lay 46 = .ok (.istore_n 1, 1) := by decide +kernel
theorem std_Y_lay_47 : decode stc_Y_lay 47 = .ok (.iload_n 1, 1) := by decide +kernel
theorem std_Y_lay_48 : decode stc_Y_lay 48 = .ok (.aload_n 0, 1) := by decide +kernel
theorem std_Y_lay_49 : decode stc_Y_lay 49 = .ok (.getfield 37, 3) := by decide +kernel
theorem std_Y_lay_52 : decode stc_Y_lay 52 = .ok (.getfield 41, 3) := by decide +kernel
theorem std_Y_lay_55 : decode stc_Y_lay 55 = .ok (.if_icmp .ge 19, 3) := by decide +kernel
theorem std_Y_lay_74 : decode stc_Y_lay 74 = .ok (.iconst 1, 1) := by decide +kernel
theorem std_Y_lay_75 : decode stc_Y_lay 75 = .ok (.ireturn, 1) := by decide +kernel
theorem std_Y_lay_58 : decode stc_Y_lay 58 = .ok (.aload_n 0, 1) := by decide +kernel
theorem std_Y_lay_59 : decode stc_Y_lay 59 = .ok (.iload_n 1, 1) := by decide +kernel
theorem std_Y_lay_60 : decode stc_Y_lay 60 = .ok (.invokevirtual 63, 3) := by decide +kernel
theorem kw_2_39 : Cond.code sty_Y_layBehind stc_Y_layBehind 4 (some .boolean) ∈ stGW := st_t2 (List.mem_of_getElem? (i := 39) (by decide +kernel)) (by decide +kernel)
theorem kw_2_36 : Cond.methodLink "StateTables$Layers" 63 (sty_Y_layBehind) ∈ stGW := st_t2 (List.mem_of_getElem? (i := 36) (by decide +kernel)) (by decide +kernel)
theorem kw_2_38 : Cond.instanceMethod (sty_Y_layBehind) ∈ stGW := st_t2 (List.mem_of_getElem? (i := 38) (by decide +kernel)) (by decide +kernel)
theorem kw_0_0 : Cond.selects "StateTables$Layers" (sty_Y_layBehind) (sty_Y_layBehind) ∈ stGW := st_t0 (List.mem_of_getElem? (i := 0) (by decide +kernel)) (by decide +kernel)
theorem std_Y_lay_63 : decode stc_Y_lay 63 = .ok (.ifCond .ne 5, 3) := by decide +kernel
theorem std_Y_lay_68 : decode stc_Y_lay 68 = .ok (.iinc 1 1, 3) := by decide +kernel
theorem std_Y_lay_71 : decode stc_Y_lay 71 = .ok (.goto (-24), 3) := by decide +kernel
theorem std_Y_lay_66 : decode stc_Y_lay 66 = .ok (.iconst 0, 1) := by decide +kernel
theorem std_Y_lay_67 : decode stc_Y_lay 67 = .ok (.ireturn, 1) := by decide +kernel
set_option maxHeartbeats 4000000 in
set_option maxRecDepth 100000 in
theorem c_lay (l : Launch) (dC : Nat → ClassId) (dI : Nat → Nat → Nat) (cI cJ cZ : ClassId) (y0 : Nat) (ys : Nat) (yk : Nat) (yc : Nat) (yd : Nat) (yw : Nat) (yx : Nat) (yb : Nat) (yu : Nat) (total : Int) (t0 : Nat) (hs : Nat) (hc : Nat) (hf : Nat) (hg : Nat) (hb : Nat) (he : Nat) (hm : Nat) (steps : Int) (choices : Int) (bars : Int) (cap : Nat) (N : Nat) (q : Nat) (n : Nat) (gst : Int → Int) (gk : Int → Int) (gct : Int → Int) (gcf : Int → Int) (gwt : Int → Int) (gwf : Int → Int) (gbe : Int → Int) (gcu : Int → Int) (fsz : Int → Int) (fco : Int → Int) (ffu : Int → Int) (fsu : Int → Int) (fbb : Int → Int) (fmo : Int → Int) (kcap : cap ≤ 4801) (kgst : ∀ j, 0 ≤ j → j < 14 → 0 ≤ gst j ∧ gst j ≤ cap) (kn : steps = (n : Int) ∧ n ≤ 12) (kT : TB fsz fco ffu fsu fbb fmo) (kc0 : 1 ≤ cap) (kN : N = layC fsz ffu fsu fbb fmo n 0 cap) (kq : q = layS fsz ffu fsu fbb fmo n 0 cap) : ∀ sz, Met l sty_Y_lay (Cond.code sty_Y_lay stc_Y_lay 2 (some .boolean) :: stGW) ({ frames := 4, cells := 72, slots := q, locals := 107 } : Room) (va_Pc [.ref y0] (zPre (dC, dI) stCl [(cI, .int), (cJ, .long), (cZ, .boolean)] st_nw [(y0, .inr (2, [.ref t0, .int (iI total), .ref ys, .ref yk, .ref yc, .ref yd, .ref yw, .ref yx, .ref yb, .ref yu])), (ys, .inl (cI, aI 14 gst)), (yk, .inl (cI, aI cap gk)), (yc, .inl (cI, aI cap gct)), (yd, .inl (cI, aI cap gcf)), (yw, .inl (cJ, aL cap gwt)), (yx, .inl (cJ, aL cap gwf)), (yb, .inl (cI, aI (6 * cap) gbe)), (yu, .inl (cI, aI 6 gcu)), (t0, .inr (1, [.int (iI steps), .int (iI choices), .int (iI bars), .ref hs, .ref hc, .ref hf, .ref hg, .ref hb, .ref he, .ref hm])), (hs, .inl (cI, aI 12 fsz)), (hc, .inl (cI, aI 72 fco)), (hf, .inl (cI, aI 72 ffu)), (hg, .inl (cI, aI 72 fsu)), (hb, .inl (cI, aI 72 fbb)), (hm, .inl (cI, aI 2 fmo))] sz)) (va_Qi (fun (r : Int32) (u : Nat × Nat × Nat × Nat × Nat × Nat × (Int → Int) × (Int → Int) × (Int → Int) × (Int → Int) × (Int → Int) × (Int → Int) × (Int → Int) × (Int → Int) × Int) => r = iI (bI (∀ i : Nat, i ≤ n → cn fsz ffu fsu fbb fmo i ≤ 400)) ∧ (∀ j, 0 ≤ j → j < 14 → 0 ≤ u.2.2.2.2.2.2.1 j ∧ u.2.2.2.2.2.2.1 j ≤ (N : Int)) ∧ ((∀ i : Nat, i ≤ n → cn fsz ffu fsu fbb fmo i ≤ 400) → LYS fsz fco ffu fsu fbb fmo n u.2.2.2.2.2.2.1 u.2.2.2.2.2.2.2.1 u.2.2.2.2.2.2.2.2.2.2.1 u.2.2.2.2.2.2.2.2.1 u.2.2.2.2.2.2.2.2.2.2.2.2.1 ∧ u.2.2.2.2.2.2.2.2.2.2.2.2.2.2 = u.2.2.2.2.2.2.1 ((n : Int) + 1))) (zPost (dC, dI) stCl [(cI, .int), (cJ, .long), (cZ, .boolean)] [(y0, .inr (2, [.ref t0, .int (iI total), .ref ys, .ref yk, .ref yc, .ref yd, .ref yw, .ref yx, .ref yb, .ref yu])), (ys, .inl (cI, aI 14 gst)), (yk, .inl (cI, aI cap gk)), (yc, .inl (cI, aI cap gct)), (yd, .inl (cI, aI cap gcf)), (yw, .inl (cJ, aL cap gwt)), (yx, .inl (cJ, aL cap gwf)), (yb, .inl (cI, aI (6 * cap) gbe)), (yu, .inl (cI, aI 6 gcu)), (t0, .inr (1, [.int (iI steps), .int (iI choices), .int (iI bars), .ref hs, .ref hc, .ref hf, .ref hg, .ref hb, .ref he, .ref hm])), (hs, .inl (cI, aI 12 fsz)), (hc, .inl (cI, aI 72 fco)), (hf, .inl (cI, aI 72 ffu)), (hg, .inl (cI, aI 72 fsu)), (hb, .inl (cI, aI 72 fbb)), (hm, .inl (cI, aI 2 fmo))] sz (fun u : Nat × Nat × Nat × Nat × Nat × Nat × (Int → Int) × (Int → Int) × (Int → Int) × (Int → Int) × (Int → Int) × (Int → Int) × (Int → Int) × (Int → Int) × Int => [(y0, .inr (2, [.ref t0, .int (iI (u.2.2.2.2.2.2.2.2.2.2.2.2.2.2)), .ref ys, .ref u.1, .ref u.2.1, .ref u.2.2.1, .ref u.2.2.2.1, .ref u.2.2.2.2.1, .ref u.2.2.2.2.2.1, .ref yu])), (ys, .inl (cI, aI 14 (u.2.2.2.2.2.2.1))), (u.1, .inl (cI, aI N (u.2.2.2.2.2.2.2.1))), (u.2.1, .inl (cI, aI N (u.2.2.2.2.2.2.2.2.1))), (u.2.2.1, .inl (cI, aI N (u.2.2.2.2.2.2.2.2.2.1))), (u.2.2.2.1, .inl (cJ, aL N (u.2.2.2.2.2.2.2.2.2.2.1))), (u.2.2.2.2.1, .inl (cJ, aL N (u.2.2.2.2.2.2.2.2.2.2.2.1))), (u.2.2.2.2.2.1, .inl (cI, aI (6 * N) (u.2.2.2.2.2.2.2.2.2.2.2.2.1))), (yu, .inl (cI, aI 6 (u.2.2.2.2.2.2.2.2.2.2.2.2.2.1))), (t0, .inr (1, [.int (iI steps), .int (iI choices), .int (iI bars), .ref hs, .ref hc, .ref hf, .ref hg, .ref hb, .ref he, .ref hm])), (hs, .inl (cI, aI 12 fsz)), (hc, .inl (cI, aI 72 fco)), (hf, .inl (cI, aI 72 ffu)), (hg, .inl (cI, aI 72 fsu)), (hb, .inl (cI, aI 72 fbb)), (hm, .inl (cI, aI 2 fmo))])) (va_A [(y0, .inr (2, [.ref t0, .int (iI total), .ref ys, .ref yk, .ref yc, .ref yd, .ref yw, .ref yx, .ref yb, .ref yu])), (ys, .inl (cI, aI 14 gst)), (yk, .inl (cI, aI cap gk)), (yc, .inl (cI, aI cap gct)), (yd, .inl (cI, aI cap gcf)), (yw, .inl (cJ, aL cap gwt)), (yx, .inl (cJ, aL cap gwf)), (yb, .inl (cI, aI (6 * cap) gbe)), (yu, .inl (cI, aI 6 gcu)), (t0, .inr (1, [.int (iI steps), .int (iI choices), .int (iI bars), .ref hs, .ref hc, .ref hf, .ref hg, .ref hb, .ref he, .ref hm])), (hs, .inl (cI, aI 12 fsz)), (hc, .inl (cI, aI 72 fco)), (hf, .inl (cI, aI 72 ffu)), (hg, .inl (cI, aI 72 fsu)), (hb, .inl (cI, aI 72 fbb)), (hm, .inl (cI, aI 2 fmo))] sz)) 72 q (va_A [(y0, .inr (2, [.ref t0, .int (iI total), .ref ys, .ref yk, .ref yc, .ref yd, .ref yw, .ref yx, .ref yb, .ref yu])), (ys, .inl (cI, aI 14 gst)), (yk, .inl (cI, aI cap gk)), (yc, .inl (cI, aI cap gct)), (yd, .inl (cI, aI cap gcf)), (yw, .inl (cJ, aL cap gwt)), (yx, .inl (cJ, aL cap gwf)), (yb, .inl (cI, aI (6 * cap) gbe)), (yu, .inl (cI, aI 6 gcu)), (t0, .inr (1, [.int (iI steps), .int (iI choices), .int (iI bars), .ref hs, .ref hc, .ref hf, .ref hg, .ref hb, .ref he, .ref hm])), (hs, .inl (cI, aI 12 fsz)), (hc, .inl (cI, aI 72 fco)), (hf, .inl (cI, aI 72 ffu)), (hg, .inl (cI, aI 72 fsu)), (hb, .inl (cI, aI 72 fbb)), (hm, .inl (cI, aI 2 fmo))] sz) := by
  refine met_z (by decide) rfl (Nat.le_of_ble_eq_true rfl) ?_
  intro p e s m below meth c A Q C hmn hret
  refine g_aload_n C 0 std_Y_lay_0 rfl ?_
  refine g_get C (st_sub sti_Y) 0 rfl rfl 3 (by decide) (List.mem_cons_of_mem _ kw_1_88) rfl rfl std_Y_lay_1 ?_
  refine g_iconst C std_Y_lay_4 ?_
  refine g_iconst C std_Y_lay_5 ?_
  refine g_iconst C std_Y_lay_6 ?_
  refine g_iconst C std_Y_lay_7 ?_
  refine g_SN_i (wc := []) (wr := [(y0, .inr (2, [.ref t0, .int (iI total), .ref ys, .ref yk, .ref yc, .ref yd, .ref yw, .ref yx, .ref yb, .ref yu])), (ys, .inl (cI, aI 14 gst)), (yk, .inl (cI, aI cap gk)), (yc, .inl (cI, aI cap gct)), (yd, .inl (cI, aI cap gcf)), (yw, .inl (cJ, aL cap gwt)), (yx, .inl (cJ, aL cap gwf)), (yb, .inl (cI, aI (6 * cap) gbe)), (yu, .inl (cI, aI 6 gcu)), (t0, .inr (1, [.int (iI steps), .int (iI choices), .int (iI bars), .ref hs, .ref hc, .ref hf, .ref hg, .ref hb, .ref he, .ref hm])), (hs, .inl (cI, aI 12 fsz)), (hc, .inl (cI, aI 72 fco)), (hf, .inl (cI, aI 72 ffu)), (hg, .inl (cI, aI 72 fsu)), (hb, .inl (cI, aI 72 fbb)), (hm, .inl (cI, aI 2 fmo))]) (rest := [.int (iI 0), .ref yk]) C (c_keyOf l dC dI cI cJ cZ 0 0 (-1) (by omega) (by omega) (by omega)) (st_cSN C kw_2_35 (List.mem_of_getElem? (i := 2) rfl) kw_1_1 kw_2_34 sth_S_keyOf ⟨Nat.le_of_ble_eq_true rfl, Nat.le_of_ble_eq_true rfl⟩) rfl rfl (Nat.le_of_ble_eq_true rfl) std_Y_lay_8 ⟨by show _ ≤ 72; omega, by show _ ≤ q; omega⟩ [] [0, 1, 2, 3, 4, 5, 6, 7, 8, 9, 10, 11, 12, 13, 14, 15] rfl rfl rfl rfl (by decide) (fun r1 u2 h3 => ?_)
  subst h3
  refine g_ws (ws' := [(y0, .inr (2, [.ref t0, .int (iI total), .ref ys, .ref yk, .ref yc, .ref yd, .ref yw, .ref yx, .ref yb, .ref yu])), (ys, .inl (cI, aI 14 gst)), (yk, .inl (cI, aI cap gk)), (yc, .inl (cI, aI cap gct)), (yd, .inl (cI, aI cap gcf)), (yw, .inl (cJ, aL cap gwt)), (yx, .inl (cJ, aL cap gwf)), (yb, .inl (cI, aI (6 * cap) gbe)), (yu, .inl (cI, aI 6 gcu)), (t0, .inr (1, [.int (iI steps), .int (iI choices), .int (iI bars), .ref hs, .ref hc, .ref hf, .ref hg, .ref hb, .ref he, .ref hm])), (hs, .inl (cI, aI 12 fsz)), (hc, .inl (cI, aI 72 fco)), (hf, .inl (cI, aI 72 ffu)), (hg, .inl (cI, aI 72 fsu)), (hb, .inl (cI, aI 72 fbb)), (hm, .inl (cI, aI 2 fmo))]) rfl ?_
  refine g_iast C (ws' := [(y0, .inr (2, [.ref t0, .int (iI total), .ref ys, .ref yk, .ref yc, .ref yd, .ref yw, .ref yx, .ref yb, .ref yu])), (ys, .inl (cI, aI 14 gst)), (yk, .inl (cI, aI cap (uZ gk 0 (((0 * 512) + (0 * 8)) + ((-1) + 1))))), (yc, .inl (cI, aI cap gct)), (yd, .inl (cI, aI cap gcf)), (yw, .inl (cJ, aL cap gwt)), (yx, .inl (cJ, aL cap gwf)), (yb, .inl (cI, aI (6 * cap) gbe)), (yu, .inl (cI, aI 6 gcu)), (t0, .inr (1, [.int (iI steps), .int (iI choices), .int (iI bars), .ref hs, .ref hc, .ref hf, .ref hg, .ref hb, .ref he, .ref hm])), (hs, .inl (cI, aI 12 fsz)), (hc, .inl (cI, aI 72 fco)), (hf, .inl (cI, aI 72 ffu)), (hg, .inl (cI, aI 72 fsu)), (hb, .inl (cI, aI 72 fbb)), (hm, .inl (cI, aI 2 fmo))]) 2 0 rfl rfl (by omega) (by omega) (by omega) std_Y_lay_11 rfl ?_
  refine g_aload_n C 0 std_Y_lay_12 rfl ?_
  refine g_get C (st_sub sti_Y) 0 rfl rfl 4 (by decide) (List.mem_cons_of_mem _ kw_1_90) rfl rfl std_Y_lay_13 ?_
  refine g_iconst C std_Y_lay_16 ?_
  refine g_iconst C std_Y_lay_17 ?_
  refine g_iast C (ws' := [(y0, .inr (2, [.ref t0, .int (iI total), .ref ys, .ref yk, .ref yc, .ref yd, .ref yw, .ref yx, .ref yb, .ref yu])), (ys, .inl (cI, aI 14 gst)), (yk, .inl (cI, aI cap (uZ gk 0 (((0 * 512) + (0 * 8)) + ((-1) + 1))))), (yc, .inl (cI, aI cap (uZ gct 0 0))), (yd, .inl (cI, aI cap gcf)), (yw, .inl (cJ, aL cap gwt)), (yx, .inl (cJ, aL cap gwf)), (yb, .inl (cI, aI (6 * cap) gbe)), (yu, .inl (cI, aI 6 gcu)), (t0, .inr (1, [.int (iI steps), .int (iI choices), .int (iI bars), .ref hs, .ref hc, .ref hf, .ref hg, .ref hb, .ref he, .ref hm])), (hs, .inl (cI, aI 12 fsz)), (hc, .inl (cI, aI 72 fco)), (hf, .inl (cI, aI 72 ffu)), (hg, .inl (cI, aI 72 fsu)), (hb, .inl (cI, aI 72 fbb)), (hm, .inl (cI, aI 2 fmo))]) 3 0 rfl rfl (by omega) (by omega) (by omega) std_Y_lay_18 rfl ?_
  refine g_aload_n C 0 std_Y_lay_19 rfl ?_
  refine g_get C (st_sub sti_Y) 0 rfl rfl 6 (by decide) (List.mem_cons_of_mem _ kw_1_94) rfl rfl std_Y_lay_20 ?_
  refine g_iconst C std_Y_lay_23 ?_
  refine g_lconst C (z := 1) std_Y_lay_24 (by decide) ?_
  refine g_last C (ws' := [(y0, .inr (2, [.ref t0, .int (iI total), .ref ys, .ref yk, .ref yc, .ref yd, .ref yw, .ref yx, .ref yb, .ref yu])), (ys, .inl (cI, aI 14 gst)), (yk, .inl (cI, aI cap (uZ gk 0 (((0 * 512) + (0 * 8)) + ((-1) + 1))))), (yc, .inl (cI, aI cap (uZ gct 0 0))), (yd, .inl (cI, aI cap gcf)), (yw, .inl (cJ, aL cap (uZ gwt 0 1))), (yx, .inl (cJ, aL cap gwf)), (yb, .inl (cI, aI (6 * cap) gbe)), (yu, .inl (cI, aI 6 gcu)), (t0, .inr (1, [.int (iI steps), .int (iI choices), .int (iI bars), .ref hs, .ref hc, .ref hf, .ref hg, .ref hb, .ref he, .ref hm])), (hs, .inl (cI, aI 12 fsz)), (hc, .inl (cI, aI 72 fco)), (hf, .inl (cI, aI 72 ffu)), (hg, .inl (cI, aI 72 fsu)), (hb, .inl (cI, aI 72 fbb)), (hm, .inl (cI, aI 2 fmo))]) 5 1 rfl rfl (by omega) (by omega) (by omega) std_Y_lay_25 rfl ?_
  refine g_aload_n C 0 std_Y_lay_26 rfl ?_
  refine g_get C (st_sub sti_Y) 0 rfl rfl 2 (by decide) (List.mem_cons_of_mem _ kw_1_86) rfl rfl std_Y_lay_27 ?_
  refine g_iconst C std_Y_lay_30 ?_
  refine g_iconst C std_Y_lay_31 ?_
  refine g_iast C (ws' := [(y0, .inr (2, [.ref t0, .int (iI total), .ref ys, .ref yk, .ref yc, .ref yd, .ref yw, .ref yx, .ref yb, .ref yu])), (ys, .inl (cI, aI 14 (uZ gst 0 0))), (yk, .inl (cI, aI cap (uZ gk 0 (((0 * 512) + (0 * 8)) + ((-1) + 1))))), (yc, .inl (cI, aI cap (uZ gct 0 0))), (yd, .inl (cI, aI cap gcf)), (yw, .inl (cJ, aL cap (uZ gwt 0 1))), (yx, .inl (cJ, aL cap gwf)), (yb, .inl (cI, aI (6 * cap) gbe)), (yu, .inl (cI, aI 6 gcu)), (t0, .inr (1, [.int (iI steps), .int (iI choices), .int (iI bars), .ref hs, .ref hc, .ref hf, .ref hg, .ref hb, .ref he, .ref hm])), (hs, .inl (cI, aI 12 fsz)), (hc, .inl (cI, aI 72 fco)), (hf, .inl (cI, aI 72 ffu)), (hg, .inl (cI, aI 72 fsu)), (hb, .inl (cI, aI 72 fbb)), (hm, .inl (cI, aI 2 fmo))]) 1 0 rfl rfl (by omega) (by omega) (by omega) std_Y_lay_32 rfl ?_
  refine g_aload_n C 0 std_Y_lay_33 rfl ?_
  refine g_get C (st_sub sti_Y) 0 rfl rfl 2 (by decide) (List.mem_cons_of_mem _ kw_1_86) rfl rfl std_Y_lay_34 ?_
  refine g_iconst C std_Y_lay_37 ?_
  refine g_iconst C std_Y_lay_38 ?_
  refine g_iast C (ws' := [(y0, .inr (2, [.ref t0, .int (iI total), .ref ys, .ref yk, .ref yc, .ref yd, .ref yw, .ref yx, .ref yb, .ref yu])), (ys, .inl (cI, aI 14 (uZ (uZ gst 0 0) 1 1))), (yk, .inl (cI, aI cap (uZ gk 0 (((0 * 512) + (0 * 8)) + ((-1) + 1))))), (yc, .inl (cI, aI cap (uZ gct 0 0))), (yd, .inl (cI, aI cap gcf)), (yw, .inl (cJ, aL cap (uZ gwt 0 1))), (yx, .inl (cJ, aL cap gwf)), (yb, .inl (cI, aI (6 * cap) gbe)), (yu, .inl (cI, aI 6 gcu)), (t0, .inr (1, [.int (iI steps), .int (iI choices), .int (iI bars), .ref hs, .ref hc, .ref hf, .ref hg, .ref hb, .ref he, .ref hm])), (hs, .inl (cI, aI 12 fsz)), (hc, .inl (cI, aI 72 fco)), (hf, .inl (cI, aI 72 ffu)), (hg, .inl (cI, aI 72 fsu)), (hb, .inl (cI, aI 72 fbb)), (hm, .inl (cI, aI 2 fmo))]) 1 0 rfl rfl (by omega) (by omega) (by omega) std_Y_lay_39 rfl ?_
  refine g_aload_n C 0 std_Y_lay_40 rfl ?_
  refine g_iconst C std_Y_lay_41 ?_
  refine g_put C (ws' := [(y0, .inr (2, [.ref t0, .int (iI 1), .ref ys, .ref yk, .ref yc, .ref yd, .ref yw, .ref yx, .ref yb, .ref yu])), (ys, .inl (cI, aI 14 (uZ (uZ gst 0 0) 1 1))), (yk, .inl (cI, aI cap (uZ gk 0 (((0 * 512) + (0 * 8)) + ((-1) + 1))))), (yc, .inl (cI, aI cap (uZ gct 0 0))), (yd, .inl (cI, aI cap gcf)), (yw, .inl (cJ, aL cap (uZ gwt 0 1))), (yx, .inl (cJ, aL cap gwf)), (yb, .inl (cI, aI (6 * cap) gbe)), (yu, .inl (cI, aI 6 gcu)), (t0, .inr (1, [.int (iI steps), .int (iI choices), .int (iI bars), .ref hs, .ref hc, .ref hf, .ref hg, .ref hb, .ref he, .ref hm])), (hs, .inl (cI, aI 12 fsz)), (hc, .inl (cI, aI 72 fco)), (hf, .inl (cI, aI 72 ffu)), (hg, .inl (cI, aI 72 fsu)), (hb, .inl (cI, aI 72 fbb)), (hm, .inl (cI, aI 2 fmo))]) (st_sub sti_Y) stt_Y sto_Y stn_Y 0 rfl rfl 1 (by decide) (List.mem_cons_of_mem _ kw_1_85) rfl rfl rfl rfl (Nat.le_of_ble_eq_true rfl) std_Y_lay_42 rfl ?_
  refine g_iconst C std_Y_lay_45 ?_
  refine g_istore_n C (lv' := [(1, .int (iI 0)), (0, .ref y0)]) std_Y_lay_46 (by decide) rfl ?_
  have L47 : ∀ (nn47 : Nat) (d : Nat) (cp : Nat) (sl : Nat) (k1 : Nat) (k2 : Nat) (k3 : Nat) (k4 : Nat) (k5 : Nat) (k6 : Nat) (T : Int) (ST : Int → Int) (GK : Int → Int) (GC : Int → Int) (GD : Int → Int) (GW : Int → Int) (GX : Int → Int) (GB : Int → Int) (CU : Int → Int), d ≤ n → (1 ≤ cp ∧ cp ≤ 4801) → (∀ j, 0 ≤ j → j < 14 → 0 ≤ ST j ∧ ST j ≤ (cp : Int)) → LYS fsz fco ffu fsu fbb fmo d ST GK GW GC GB → T = ST (((d : Nat) : Int) + 1) → layC fsz ffu fsu fbb fmo (n - d) d cp = N → sl + layS fsz ffu fsu fbb fmo (n - d) d cp ≤ q → ((n : Int) - (d : Int)) < (nn47 : Int) → G p l e ({ frames := 4, cells := 72, slots := q, locals := 107 } : Room) s m ([.ref y0] : List Value).toArray below meth c (dC, dI) stCl 2 A (6 * d) sl Q [(y0, .inr (2, [.ref t0, .int (iI T), .ref ys, .ref k1, .ref k2, .ref k3, .ref k4, .ref k5, .ref k6, .ref yu])), (ys, .inl (cI, aI 14 ST)), (k1, .inl (cI, aI cp GK)), (k2, .inl (cI, aI cp GC)), (k3, .inl (cI, aI cp GD)), (k4, .inl (cJ, aL cp GW)), (k5, .inl (cJ, aL cp GX)), (k6, .inl (cI, aI (6 * cp) GB)), (yu, .inl (cI, aI 6 CU)), (t0, .inr (1, [.int (iI steps), .int (iI choices), .int (iI bars), .ref hs, .ref hc, .ref hf, .ref hg, .ref hb, .ref he, .ref hm])), (hs, .inl (cI, aI 12 fsz)), (hc, .inl (cI, aI 72 fco)), (hf, .inl (cI, aI 72 ffu)), (hg, .inl (cI, aI 72 fsu)), (hb, .inl (cI, aI 72 fbb)), (hm, .inl (cI, aI 2 fmo))] 47 [(1, .int (iI ((d : Nat) : Int))), (0, .ref y0)] [] := by
    intro nn47
    induction nn47 with
    | zero =>
      intro d cp sl k1 k2 k3 k4 k5 k6 T ST GK GC GD GW GX GB CU kd kc kst kLS kT1 kN1 kq1 hnn47
      exact absurd hnn47 (by omega)
    | succ nn47 ih47 =>
      intro d cp sl k1 k2 k3 k4 k5 k6 T ST GK GC GD GW GX GB CU kd kc kst kLS kT1 kN1 kq1 hnn47
      refine g_iload_n C 0 std_Y_lay_47 rfl ?_
      refine g_aload_n C 1 std_Y_lay_48 rfl ?_
      refine g_get C (st_sub sti_Y) 0 rfl rfl 0 (by decide) (List.mem_cons_of_mem _ kw_1_83) rfl rfl std_Y_lay_49 ?_
      refine g_get C (st_sub sti_T) 9 rfl rfl 0 (by decide) (List.mem_cons_of_mem _ kw_1_26) rfl rfl std_Y_lay_52 ?_
      refine g_icmp_ge (tgt := 74) C std_Y_lay_55 (by decide) ⟨by omega, by omega⟩ ⟨by omega, by omega⟩ (fun c4 => ?_) (fun c4 => ?_)
      · refine g_iconst C std_Y_lay_74 ?_
        refine g_wide (k := 72) (n := q) (by omega) (by omega) ?_
        have hdn : d = n := by omega
        have kN2 : cp = N := by rw [hdn, Nat.sub_self] at kN1; exact kN1
        have hall : (∀ i : Nat, i ≤ n → cn fsz ffu fsu fbb fmo i ≤ 400) := fun i hi => (kLS.1 i (by omega)).2.2
        refine g_ws (ws' := [(y0, .inr (2, [.ref t0, .int (iI T), .ref ys, .ref k1, .ref k2, .ref k3, .ref k4, .ref k5, .ref k6, .ref yu])), (ys, .inl (cI, aI 14 ST)), (k1, .inl (cI, aI N GK)), (k2, .inl (cI, aI N GC)), (k3, .inl (cI, aI N GD)), (k4, .inl (cJ, aL N GW)), (k5, .inl (cJ, aL N GX)), (k6, .inl (cI, aI (6 * N) GB)), (yu, .inl (cI, aI 6 CU)), (t0, .inr (1, [.int (iI steps), .int (iI choices), .int (iI bars), .ref hs, .ref hc, .ref hf, .ref hg, .ref hb, .ref he, .ref hm])), (hs, .inl (cI, aI 12 fsz)), (hc, .inl (cI, aI 72 fco)), (hf, .inl (cI, aI 72 ffu)), (hg, .inl (cI, aI 72 fsu)), (hb, .inl (cI, aI 72 fbb)), (hm, .inl (cI, aI 2 fmo))]) (by rw [kN2]) ?_
        exact hret _ _ _ (k1, k2, k3, k4, k5, k6, ST, GK, GC, GD, GW, GX, GB, CU, T) (⟨by rw [bI_t hall], by rw [← kN2]; exact kst, fun _ => ⟨hdn ▸ kLS, by rw [← hdn]; exact kT1⟩⟩) (by decide) std_Y_lay_75
      · obtain ⟨kk, hkk⟩ : ∃ kk : Nat, n - d = kk + 1 := ⟨n - d - 1, by omega⟩
        have hkk2 : n - (d + 1) = kk := by omega
        rw [hkk, layC_s] at kN1
        rw [hkk, layS_s] at kq1
        have hLd := kLS.1 d (Nat.le_refl d)
        have hnb := ls_nb kT (by omega) kLS
        have hgb := gN_b hnb.1 hnb.2 kc
        have hnd : T + min 400 ((ST (((d : Nat) : Int) + 1) - ST ((d : Nat) : Int)) * fsz ((d : Nat) : Int)) = (need fsz ffu fsu fbb fmo d) := by rw [kT1]; exact ls_need kLS
        refine g_aload_n C 1 std_Y_lay_58 rfl ?_
        refine g_iload_n C 0 std_Y_lay_59 rfl ?_
        refine g_V_i (wc := [(y0, .inr (2, [.ref t0, .int (iI T), .ref ys, .ref k1, .ref k2, .ref k3, .ref k4, .ref k5, .ref k6, .ref yu])), (ys, .inl (cI, aI 14 ST)), (k1, .inl (cI, aI cp GK)), (k2, .inl (cI, aI cp GC)), (k3, .inl (cI, aI cp GD)), (k4, .inl (cJ, aL cp GW)), (k5, .inl (cJ, aL cp GX)), (k6, .inl (cI, aI (6 * cp) GB)), (yu, .inl (cI, aI 6 CU)), (t0, .inr (1, [.int (iI steps), .int (iI choices), .int (iI bars), .ref hs, .ref hc, .ref hf, .ref hg, .ref hb, .ref he, .ref hm])), (hs, .inl (cI, aI 12 fsz)), (hc, .inl (cI, aI 72 fco)), (hf, .inl (cI, aI 72 ffu)), (hg, .inl (cI, aI 72 fsu)), (hb, .inl (cI, aI 72 fbb)), (hm, .inl (cI, aI 2 fmo))]) (wr := []) (rest := []) C (c_layBehind l dC dI cI cJ cZ y0 ys k1 k2 k3 k4 k5 k6 yu T t0 hs hc hf hg hb he hm steps choices bars cp (gN cp (need fsz ffu fsu fbb fmo d)) (gS cp (need fsz ffu fsu fbb fmo d)) d ST GK GC GD GW GX GB CU fsz fco ffu fsu fbb fmo (kc.2) (kst) (by omega) (kT) (⟨hLd.1.2.1, kT1.symm, by rw [kT1]; exact hLd.1.2.2.1⟩) (hLd.2.1) (by rw [hnd]; exact gN_kN hnb.1) (by rw [hnd]; exact gS_kq)) (st_cV C kw_2_39 kw_2_36 kw_1_3 kw_2_38 kw_0_0 sth_Y_layBehind ⟨Nat.le_of_ble_eq_true rfl, Nat.le_of_ble_eq_true rfl⟩) 0 rfl rfl rfl rfl (Nat.le_of_ble_eq_true rfl) std_Y_lay_60 ⟨by show _ ≤ 72; omega, by show _ ≤ q; omega⟩ [0, 1, 2, 3, 4, 5, 6, 7, 8, 9, 10, 11, 12, 13, 14, 15] [] rfl rfl rfl rfl (by decide) (fun r5 u6 h7 => ?_)
        obtain ⟨q8, q9, q10, q11, q12, q13, ST14, GK15, GC16, GD17, GW18, GX19, GB20, CU21, T22⟩ := u6
        dsimp only at h7
        obtain ⟨h7r, h7p⟩ := h7
        subst h7r
        refine g_ws (ws' := [(y0, .inr (2, [.ref t0, .int (iI T22), .ref ys, .ref q8, .ref q9, .ref q10, .ref q11, .ref q12, .ref q13, .ref yu])), (ys, .inl (cI, aI 14 ST14)), (q8, .inl (cI, aI (gN cp (need fsz ffu fsu fbb fmo d)) GK15)), (q9, .inl (cI, aI (gN cp (need fsz ffu fsu fbb fmo d)) GC16)), (q10, .inl (cI, aI (gN cp (need fsz ffu fsu fbb fmo d)) GD17)), (q11, .inl (cJ, aL (gN cp (need fsz ffu fsu fbb fmo d)) GW18)), (q12, .inl (cJ, aL (gN cp (need fsz ffu fsu fbb fmo d)) GX19)), (q13, .inl (cI, aI (6 * (gN cp (need fsz ffu fsu fbb fmo d))) GB20)), (yu, .inl (cI, aI 6 CU21)), (t0, .inr (1, [.int (iI steps), .int (iI choices), .int (iI bars), .ref hs, .ref hc, .ref hf, .ref hg, .ref hb, .ref he, .ref hm])), (hs, .inl (cI, aI 12 fsz)), (hc, .inl (cI, aI 72 fco)), (hf, .inl (cI, aI 72 ffu)), (hg, .inl (cI, aI 72 fsu)), (hb, .inl (cI, aI 72 fbb)), (hm, .inl (cI, aI 2 fmo))]) rfl ?_
        refine g_ifne_b (tgt := 68) C std_Y_lay_63 (by decide) (fun c23 => ?_) (fun c23 => ?_)
        · have hcn := c23
          obtain ⟨e1, e2, e3, e4, e5, e6⟩ := h7p.2 hcn
          subst e1
          rw [← hkk2] at kN1 kq1
          refine g_iinc C (lv' := [(1, .int (iI (((d : Nat) : Int) + 1))), (0, .ref y0)]) 0 std_Y_lay_68 rfl (by decide) rfl ?_
          refine g_goto (tgt := 47) C std_Y_lay_71 (by decide) ?_
          refine g_wide (k := (6 * (d + 1))) (n := (sl + gS cp (need fsz ffu fsu fbb fmo d))) (by omega) (by omega) ?_
          exact ih47 (d + 1) (gN cp (need fsz ffu fsu fbb fmo d)) (sl + gS cp (need fsz ffu fsu fbb fmo d)) q8 q9 q10 q11 q12 q13 T22 (uZ ST (((d : Nat) : Int) + 2) T22) GK15 GC16 GD17 GW18 GX19 GB20 CU21 (by omega) (hgb) (h7p.1) (ls_step kT (by omega) kLS hcn e2 e3 e4 e5 e6) (by rw [show (((d + 1 : Nat) : Int) + 1) = (d : Int) + 2 by omega, uZ_s]) (by rw [if_pos hcn] at kN1; exact kN1) (by rw [if_pos hcn] at kq1; omega) (by omega)
        · refine g_iconst C std_Y_lay_66 ?_
          refine g_wide (k := 72) (n := q) (by omega) (by omega) ?_
          have hcn := c23
          rw [if_neg hcn] at kN1 kq1
          have kN2 := kN1
          refine g_ws (ws' := [(y0, .inr (2, [.ref t0, .int (iI T22), .ref ys, .ref q8, .ref q9, .ref q10, .ref q11, .ref q12, .ref q13, .ref yu])), (ys, .inl (cI, aI 14 ST14)), (q8, .inl (cI, aI N GK15)), (q9, .inl (cI, aI N GC16)), (q10, .inl (cI, aI N GD17)), (q11, .inl (cJ, aL N GW18)), (q12, .inl (cJ, aL N GX19)), (q13, .inl (cI, aI (6 * N) GB20)), (yu, .inl (cI, aI 6 CU21)), (t0, .inr (1, [.int (iI steps), .int (iI choices), .int (iI bars), .ref hs, .ref hc, .ref hf, .ref hg, .ref hb, .ref he, .ref hm])), (hs, .inl (cI, aI 12 fsz)), (hc, .inl (cI, aI 72 fco)), (hf, .inl (cI, aI 72 ffu)), (hg, .inl (cI, aI 72 fsu)), (hb, .inl (cI, aI 72 fbb)), (hm, .inl (cI, aI 2 fmo))]) (by rw [kN2]) ?_
          exact hret _ _ _ (q8, q9, q10, q11, q12, q13, ST14, GK15, GC16, GD17, GW18, GX19, GB20, CU21, T22) (⟨by rw [bI_f (fun h => hcn (h (d + 1) (by omega)))], by rw [← kN2]; exact h7p.1, fun h => absurd (h (d + 1) (by omega)) hcn⟩) (by decide) std_Y_lay_67
  refine g_wide (k := (6 * 0)) (n := 0) (by omega) (by omega) ?_
  obtain ⟨nn0, hnn0⟩ : ∃ nn0 : Nat, ((n : Int) - (0 : Int)) < (nn0 : Int) := z_nat _
  exact L47 nn0 0 cap 0 yk yc yd yw yx yb 1 (uZ (uZ gst 0 0) 1 1) (uZ gk 0 (((0 * 512) + (0 * 8)) + ((-1) + 1))) (uZ gct 0 0) gcf (uZ gwt 0 1) gwf gbe gcu (by omega) (⟨by omega, kcap⟩) (st_le (st_le kgst (by omega)) (by omega)) (ls_0 (by rw [uZ_n (by omega), uZ_s]) uZ_s uZ_s uZ_s uZ_s) ((uZ_s (k := 1)).symm) (kN.symm) (by rw [Nat.sub_zero]; omega) hnn0

