/-! Layers.firstThatDominates -/
abbrev sty_Y_firstThatDominates : MethodName := ⟨"StateTables$Layers", "firstThatDominates", "(II)I"⟩
abbrev stc_Y_firstThatDominates : ByteArray := prog_3_method_16_code
theorem sth_Y_firstThatDominates : (sty_Y_firstThatDominates).cls ≠ "java/lang/invoke/MethodHandle" ∧ (sty_Y_firstThatDominates).cls ≠ "java/lang/invoke/VarHandle" ∧ (parseMethodDescriptor (sty_Y_firstThatDominates).desc).map (fun d => d.parameters.length) = some 2 := by decide +kernel
theorem std_Y_firstThatDominates_0 : decode stc_Y_firstThatDominates 0 = .ok (.aload_n 0, 1) := by decide +kernel
theorem std_Y_firstThatDominates_1 : decode stc_Y_firstThatDominates 1 = .ok (.getfield 9, 3) := by decide +kernel
theorem std_Y_firstThatDominates_4 : decode stc_Y_firstThatDominates 4 = .ok (.iload_n 1, 1) := by decide +kernel
theorem std_Y_firstThatDominates_5 : decode stc_Y_firstThatDominates 5 = .ok (.iaload, 1) := by decide +kernel
theorem std_Y_firstThatDominates_6 : decode stc_Y_firstThatDominates 6 = .ok (.iload_n 2, 1) := by decide +kernel
theorem std_Y_firstThatDominates_7 : decode stc_Y_firstThatDominates 7 = .ok (.iadd, 1) := by decide +kernel
theorem std_Y_firstThatDominates_8 : decode stc_Y_firstThatDominates 8 = .ok (.istore_n 3, 1) := by decide +kernel
theorem std_Y_firstThatDominates_9 : decode stc_Y_firstThatDominates 9 = .ok (.aload_n 0, 1) := by decide +kernel
theorem std_Y_firstThatDominates_10 : decode stc_Y_firstThatDominates 10 = .ok (.getfield 9, 3) := by decide +kernel
theorem std_Y_firstThatDominates_13 : decode stc_Y_firstThatDominates 13 = .ok (.iload_n 1, 1) := by decide +kernel
theorem std_Y_firstThatDominates_14 : decode stc_Y_firstThatDominates 14 = .ok (.iaload, 1) := by decide +kernel
theorem std_Y_firstThatDominates_15 : decode stc_Y_firstThatDominates 15 = .ok (.istore 4, 2) := by decide +kernel
theorem std_Y_firstThatDominates_17 : decode stc_Y_firstThatDominates 17 = .ok (.iload 4, 2) := by decide +kernel
theorem std_Y_firstThatDominates_19 : decode stc_Y_firstThatDominates 19 = .ok (.iload_n 3, 1) := by decide +kernel
theorem std_Y_firstThatDominates_20 : decode stc_Y_firstThatDominates 20 = .ok (.if_icmp .ge 29, 3) := by decide +kernel
theorem std_Y_firstThatDominates_49 : decode stc_Y_firstThatDominates 49 = .ok (.ldc 55, 2) := by decide +kernel
theorem std_Y_firstThatDominates_51 : decode stc_Y_firstThatDominates 51 = .ok (.ireturn, 1) := by decide +kernel
theorem std_Y_firstThatDominates_23 : decode stc_Y_firstThatDominates 23 = .ok (.aload_n 0, 1) := by decide +kernel
theorem std_Y_firstThatDominates_24 : decode stc_Y_firstThatDominates 24 = .ok (.iload 4, 2) := by decide +kernel
theorem std_Y_firstThatDominates_26 : decode stc_Y_firstThatDominates 26 = .ok (.iload_n 3, 1) := by decide +kernel
theorem std_Y_firstThatDominates_27 : decode stc_Y_firstThatDominates 27 = .ok (.invokevirtual 141, 3) := by decide +kernel
theorem kw_2_211 : Cond.code sty_Y_isAsGood stc_Y_isAsGood 3 (some .boolean) ∈ stGW := st_t2 (List.mem_of_getElem? (i := 211) (by decide +kernel)) (by decide +kernel)
theorem kw_2_208 : Cond.methodLink "StateTables$Layers" 141 (sty_Y_isAsGood) ∈ stGW := st_t2 (List.mem_of_getElem? (i := 208) (by decide +kernel)) (by decide +kernel)
theorem kw_2_210 : Cond.instanceMethod (sty_Y_isAsGood) ∈ stGW := st_t2 (List.mem_of_getElem? (i := 210) (by decide +kernel)) (by decide +kernel)
theorem kw_0_10 : Cond.selects "StateTables$Layers" (sty_Y_isAsGood) (sty_Y_isAsGood) ∈ stGW := st_t0 (List.mem_of_getElem? (i := 10) (by decide +kernel)) (by decide +kernel)
theorem std_Y_firstThatDominates_30 : decode stc_Y_firstThatDominates 30 = .ok (.ifCond .eq 13, 3) := by decide +kernel
theorem std_Y_firstThatDominates_43 : decode stc_Y_firstThatDominates 43 = .ok (.iinc 4 1, 3) := by decide +kernel
theorem std_Y_firstThatDominates_46 : decode stc_Y_firstThatDominates 46 = .ok (.goto (-29), 3) := by decide +kernel
theorem std_Y_firstThatDominates_33 : decode stc_Y_firstThatDominates 33 = .ok (.iload 4, 2) := by decide +kernel
theorem std_Y_firstThatDominates_35 : decode stc_Y_firstThatDominates 35 = .ok (.aload_n 0, 1) := by decide +kernel
theorem std_Y_firstThatDominates_36 : decode stc_Y_firstThatDominates 36 = .ok (.getfield 9, 3) := by decide +kernel
theorem std_Y_firstThatDominates_39 : decode stc_Y_firstThatDominates 39 = .ok (.iload_n 1, 1) := by decide +kernel
theorem std_Y_firstThatDominates_40 : decode stc_Y_firstThatDominates 40 = .ok (.iaload, 1) := by decide +kernel
theorem std_Y_firstThatDominates_41 : decode stc_Y_firstThatDominates 41 = .ok (.isub, 1) := by decide +kernel
theorem std_Y_firstThatDominates_42 : decode stc_Y_firstThatDominates 42 = .ok (.ireturn, 1) := by decide +kernel
set_option maxHeartbeats 4000000 in
set_option maxRecDepth 100000 in
theorem c_firstThatDominates (l : Launch) (dC : Nat → ClassId) (dI : Nat → Nat → Nat) (cI cJ cZ : ClassId) (y0 : Nat) (ys : Nat) (yk : Nat) (yc : Nat) (yd : Nat) (yw : Nat) (yx : Nat) (yb : Nat) (yu : Nat) (total : Int) (t0 : Nat) (hs : Nat) (hc : Nat) (hf : Nat) (hg : Nat) (hb : Nat) (he : Nat) (hm : Nat) (steps : Int) (choices : Int) (bars : Int) (cap : Nat) (gst : Int → Int) (gk : Int → Int) (gct : Int → Int) (fle : Int → Int) (a : Int) (b : Int) (kcap : cap ≤ 4801) (kgst : ∀ j, 0 ≤ j → j < 14 → 0 ≤ gst j ∧ gst j ≤ cap) (kle : ∀ j, 0 ≤ j → j < 2 → 0 ≤ fle j ∧ fle j ≤ 40) (ka : 0 ≤ a ∧ a < 13) (kb : 0 ≤ b ∧ gst a + b < gst (a + 1)) (kk : ∀ i, gst a ≤ i → i < gst (a + 1) → (0 ≤ gk i ∧ gk i < 32768) ∧ -100000 ≤ gct i ∧ gct i ≤ 100000) : ∀ sz, Met l sty_Y_firstThatDominates (Cond.code sty_Y_firstThatDominates stc_Y_firstThatDominates 5 (some .int) :: stGW) ({ frames := 2, cells := 0, slots := 0, locals := 45 } : Room) (va_Pc [.ref y0, .int (iI a), .int (iI b)] (zPre (dC, dI) stCl [(cI, .int), (cJ, .long), (cZ, .boolean)] st_nw [(y0, .inr (2, [.ref t0, .int (iI total), .ref ys, .ref yk, .ref yc, .ref yd, .ref yw, .ref yx, .ref yb, .ref yu])), (ys, .inl (cI, aI 14 gst)), (yk, .inl (cI, aI cap gk)), (yc, .inl (cI, aI cap gct)), (t0, .inr (1, [.int (iI steps), .int (iI choices), .int (iI bars), .ref hs, .ref hc, .ref hf, .ref hg, .ref hb, .ref he, .ref hm])), (he, .inl (cI, aI 2 fle))] sz)) (va_Qi (fun (r : Int32) (z : Int) => r = iI z ∧ FDp fle gk gct (gst a) b z) (zPost (dC, dI) stCl [(cI, .int), (cJ, .long), (cZ, .boolean)] [(y0, .inr (2, [.ref t0, .int (iI total), .ref ys, .ref yk, .ref yc, .ref yd, .ref yw, .ref yx, .ref yb, .ref yu])), (ys, .inl (cI, aI 14 gst)), (yk, .inl (cI, aI cap gk)), (yc, .inl (cI, aI cap gct)), (t0, .inr (1, [.int (iI steps), .int (iI choices), .int (iI bars), .ref hs, .ref hc, .ref hf, .ref hg, .ref hb, .ref he, .ref hm])), (he, .inl (cI, aI 2 fle))] sz (fun _ : Int => [(y0, .inr (2, [.ref t0, .int (iI total), .ref ys, .ref yk, .ref yc, .ref yd, .ref yw, .ref yx, .ref yb, .ref yu])), (ys, .inl (cI, aI 14 gst)), (yk, .inl (cI, aI cap gk)), (yc, .inl (cI, aI cap gct)), (t0, .inr (1, [.int (iI steps), .int (iI choices), .int (iI bars), .ref hs, .ref hc, .ref hf, .ref hg, .ref hb, .ref he, .ref hm])), (he, .inl (cI, aI 2 fle))])) (va_A [(y0, .inr (2, [.ref t0, .int (iI total), .ref ys, .ref yk, .ref yc, .ref yd, .ref yw, .ref yx, .ref yb, .ref yu])), (ys, .inl (cI, aI 14 gst)), (yk, .inl (cI, aI cap gk)), (yc, .inl (cI, aI cap gct)), (t0, .inr (1, [.int (iI steps), .int (iI choices), .int (iI bars), .ref hs, .ref hc, .ref hf, .ref hg, .ref hb, .ref he, .ref hm])), (he, .inl (cI, aI 2 fle))] sz)) 0 0 (va_A [(y0, .inr (2, [.ref t0, .int (iI total), .ref ys, .ref yk, .ref yc, .ref yd, .ref yw, .ref yx, .ref yb, .ref yu])), (ys, .inl (cI, aI 14 gst)), (yk, .inl (cI, aI cap gk)), (yc, .inl (cI, aI cap gct)), (t0, .inr (1, [.int (iI steps), .int (iI choices), .int (iI bars), .ref hs, .ref hc, .ref hf, .ref hg, .ref hb, .ref he, .ref hm])), (he, .inl (cI, aI 2 fle))] sz) := by
  refine met_i (by decide) rfl (Nat.le_of_ble_eq_true rfl) ?_
  intro p e s m below meth c A Q C hmn hret
  have hq0 := kgst a (by omega) (by omega)
  have hq1 := kgst (a + 1) (by omega) (by omega)
  have hq2 := kk (gst a + b) (by omega) (by omega)
  refine g_aload_n C 0 std_Y_firstThatDominates_0 rfl ?_
  refine g_get C (st_sub sti_Y) 0 rfl rfl 2 (by decide) (List.mem_cons_of_mem _ kw_1_86) rfl rfl std_Y_firstThatDominates_1 ?_
  refine g_iload_n C 1 std_Y_firstThatDominates_4 rfl ?_
  refine g_iald C 1 0 rfl rfl (by omega) (by omega) (by omega) std_Y_firstThatDominates_5 ?_
  refine g_iload_n C 2 std_Y_firstThatDominates_6 rfl ?_
  refine g_iadd C std_Y_firstThatDominates_7 ?_
  refine g_istore_n C (lv' := [(3, .int (iI ((gst a) + b))), (0, .ref y0), (1, .int (iI a)), (2, .int (iI b))]) std_Y_firstThatDominates_8 (by decide) rfl ?_
  refine g_aload_n C 1 std_Y_firstThatDominates_9 rfl ?_
  refine g_get C (st_sub sti_Y) 0 rfl rfl 2 (by decide) (List.mem_cons_of_mem _ kw_1_86) rfl rfl std_Y_firstThatDominates_10 ?_
  refine g_iload_n C 2 std_Y_firstThatDominates_13 rfl ?_
  refine g_iald C 1 0 rfl rfl (by omega) (by omega) (by omega) std_Y_firstThatDominates_14 ?_
  refine g_istore C (lv' := [(4, .int (iI (gst a))), (3, .int (iI ((gst a) + b))), (0, .ref y0), (1, .int (iI a)), (2, .int (iI b))]) std_Y_firstThatDominates_15 (by decide) rfl ?_
  have L17 : ∀ (nn17 : Nat) (x : Int), (gst a ≤ x ∧ x ≤ gst a + b) → (∀ j, gst a ≤ j → j < x → ¬ AGp fle gk gct j (gst a + b)) → (gst a + b - x) < (nn17 : Int) → G p l e ({ frames := 2, cells := 0, slots := 0, locals := 45 } : Room) s m ([.ref y0, .int (iI a), .int (iI b)] : List Value).toArray below meth c (dC, dI) stCl 5 A 0 0 Q [(y0, .inr (2, [.ref t0, .int (iI total), .ref ys, .ref yk, .ref yc, .ref yd, .ref yw, .ref yx, .ref yb, .ref yu])), (ys, .inl (cI, aI 14 gst)), (yk, .inl (cI, aI cap gk)), (yc, .inl (cI, aI cap gct)), (t0, .inr (1, [.int (iI steps), .int (iI choices), .int (iI bars), .ref hs, .ref hc, .ref hf, .ref hg, .ref hb, .ref he, .ref hm])), (he, .inl (cI, aI 2 fle))] 17 [(4, .int (iI x)), (3, .int (iI ((gst a) + b))), (0, .ref y0), (1, .int (iI a)), (2, .int (iI b))] [] := by
    intro nn17
    induction nn17 with
    | zero =>
      intro x kx kJ hnn17
      exact absurd hnn17 (by omega)
    | succ nn17 ih17 =>
      intro x kx kJ hnn17
      refine g_iload C 0 std_Y_firstThatDominates_17 rfl ?_
      refine g_iload_n C 1 std_Y_firstThatDominates_19 rfl ?_
      refine g_icmp_ge (tgt := 49) C std_Y_firstThatDominates_20 (by decide) ⟨by omega, by omega⟩ ⟨by omega, by omega⟩ (fun c1 => ?_) (fun c1 => ?_)
      · refine g_ldc C (z := (-1000000)) (List.mem_cons_of_mem _ kw_2_151) (by decide) std_Y_firstThatDominates_49 ?_
        exact hret _ _ _ (-1000000) (⟨rfl, Or.inl ⟨rfl, fun j j1 j2 => kJ j j1 (by omega)⟩⟩) std_Y_firstThatDominates_51
      · have hq3 := kk x (by omega) (by omega)
        refine g_aload_n C 2 std_Y_firstThatDominates_23 rfl ?_
        refine g_iload C 0 std_Y_firstThatDominates_24 rfl ?_
        refine g_iload_n C 1 std_Y_firstThatDominates_26 rfl ?_
        refine g_V_i (wc := [(y0, .inr (2, [.ref t0, .int (iI total), .ref ys, .ref yk, .ref yc, .ref yd, .ref yw, .ref yx, .ref yb, .ref yu])), (t0, .inr (1, [.int (iI steps), .int (iI choices), .int (iI bars), .ref hs, .ref hc, .ref hf, .ref hg, .ref hb, .ref he, .ref hm])), (he, .inl (cI, aI 2 fle)), (yk, .inl (cI, aI cap gk)), (yc, .inl (cI, aI cap gct))]) (wr := [(ys, .inl (cI, aI 14 gst))]) (rest := []) C (c_isAsGood l dC dI cI cJ cZ y0 ys yk yc yd yw yx yb yu total t0 hs hc hf hg hb he hm steps choices bars cap fle gk gct x ((gst a) + b) (kle) (kcap) (by omega) (by omega) (by omega)) (st_cV C kw_2_211 kw_2_208 kw_1_3 kw_2_210 kw_0_10 sth_Y_isAsGood ⟨Nat.le_of_ble_eq_true rfl, Nat.le_of_ble_eq_true rfl⟩) 0 rfl rfl rfl rfl (Nat.le_of_ble_eq_true rfl) std_Y_firstThatDominates_27 ⟨Nat.le_of_ble_eq_true rfl, Nat.le_of_ble_eq_true rfl⟩ [0, 4, 5, 2, 3] [1] rfl rfl rfl rfl (by decide) (fun r2 u3 h4 => ?_)
        subst h4
        refine g_ws (ws' := [(ys, .inl (cI, aI 14 gst)), (y0, .inr (2, [.ref t0, .int (iI total), .ref ys, .ref yk, .ref yc, .ref yd, .ref yw, .ref yx, .ref yb, .ref yu])), (t0, .inr (1, [.int (iI steps), .int (iI choices), .int (iI bars), .ref hs, .ref hc, .ref hf, .ref hg, .ref hb, .ref he, .ref hm])), (he, .inl (cI, aI 2 fle)), (yk, .inl (cI, aI cap gk)), (yc, .inl (cI, aI cap gct))]) rfl ?_
        refine g_ifeq_b (tgt := 43) C std_Y_firstThatDominates_30 (by decide) (fun c5 => ?_) (fun c5 => ?_)
        · refine g_iinc C (lv' := [(4, .int (iI (x + 1))), (3, .int (iI ((gst a) + b))), (0, .ref y0), (1, .int (iI a)), (2, .int (iI b))]) 0 std_Y_firstThatDominates_43 rfl (by decide) rfl ?_
          refine g_goto (tgt := 17) C std_Y_firstThatDominates_46 (by decide) ?_
          refine g_sub (ws' := [(y0, .inr (2, [.ref t0, .int (iI total), .ref ys, .ref yk, .ref yc, .ref yd, .ref yw, .ref yx, .ref yb, .ref yu])), (ys, .inl (cI, aI 14 gst)), (yk, .inl (cI, aI cap gk)), (yc, .inl (cI, aI cap gct)), (t0, .inr (1, [.int (iI steps), .int (iI choices), .int (iI bars), .ref hs, .ref hc, .ref hf, .ref hg, .ref hb, .ref he, .ref hm])), (he, .inl (cI, aI 2 fle))]) [1, 0, 4, 5, 2, 3] rfl rfl ?_
          refine g_wide (k := 0) (n := 0) (Nat.le_of_ble_eq_true rfl) (Nat.le_of_ble_eq_true rfl) ?_
          exact ih17 (x + 1) (by omega) (fd_not kJ c5) (by omega)
        · refine g_iload C 0 std_Y_firstThatDominates_33 rfl ?_
          refine g_aload_n C 2 std_Y_firstThatDominates_35 rfl ?_
          refine g_get C (st_sub sti_Y) 1 rfl rfl 2 (by decide) (List.mem_cons_of_mem _ kw_1_86) rfl rfl std_Y_firstThatDominates_36 ?_
          refine g_iload_n C 3 std_Y_firstThatDominates_39 rfl ?_
          refine g_iald C 0 0 rfl rfl (by omega) (by omega) (by omega) std_Y_firstThatDominates_40 ?_
          refine g_isub C std_Y_firstThatDominates_41 ?_
          refine g_sub (ws' := [(y0, .inr (2, [.ref t0, .int (iI total), .ref ys, .ref yk, .ref yc, .ref yd, .ref yw, .ref yx, .ref yb, .ref yu])), (ys, .inl (cI, aI 14 gst)), (yk, .inl (cI, aI cap gk)), (yc, .inl (cI, aI cap gct)), (t0, .inr (1, [.int (iI steps), .int (iI choices), .int (iI bars), .ref hs, .ref hc, .ref hf, .ref hg, .ref hb, .ref he, .ref hm])), (he, .inl (cI, aI 2 fle))]) [1, 0, 4, 5, 2, 3] rfl rfl ?_
          refine g_wide (k := 0) (n := 0) (Nat.le_of_ble_eq_true rfl) (Nat.le_of_ble_eq_true rfl) ?_
          exact hret _ _ _ (x - gst a) (⟨rfl, fd_yes kJ kx.1 (by omega) c5⟩) std_Y_firstThatDominates_42
  obtain ⟨nn0, hnn0⟩ : ∃ nn0 : Nat, (gst a + b - (gst a)) < (nn0 : Int) := z_nat _
  exact L17 nn0 (gst a) (by omega) (fun j j1 j2 => by omega) hnn0

