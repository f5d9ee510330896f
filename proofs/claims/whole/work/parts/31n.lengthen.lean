/-! FirstPlans.lengthen, lengthenAll -/
abbrev sty_F_lengthen : MethodName := ⟨"StateTables$FirstPlans", "lengthen", "(III)V"⟩
abbrev stc_F_lengthen : ByteArray := prog_2_method_7_code
theorem sth_F_lengthen : (sty_F_lengthen).cls ≠ "java/lang/invoke/MethodHandle" ∧ (sty_F_lengthen).cls ≠ "java/lang/invoke/VarHandle" ∧ (parseMethodDescriptor (sty_F_lengthen).desc).map (fun d => d.parameters.length) = some 3 := by decide +kernel
theorem std_F_lengthen_0 : decode stc_F_lengthen 0 = .ok (.aload_n 0, 1) := by decide +kernel
theorem std_F_lengthen_1 : decode stc_F_lengthen 1 = .ok (.getfield 15, 3) := by decide +kernel
theorem kw_1_134 : Cond.fieldLink "StateTables$FirstPlans" 15 "StateTables$FirstPlans" "ends" "[I" ∈ stGW := st_t1 (List.mem_of_getElem? (i := 134) (by decide +kernel)) (by decide +kernel)
theorem std_F_lengthen_4 : decode stc_F_lengthen 4 = .ok (.iload_n 1, 1) := by decide +kernel
theorem std_F_lengthen_5 : decode stc_F_lengthen 5 = .ok (.iaload, 1) := by decide +kernel
theorem std_F_lengthen_6 : decode stc_F_lengthen 6 = .ok (.istore 4, 2) := by decide +kernel
theorem std_F_lengthen_8 : decode stc_F_lengthen 8 = .ok (.aload_n 0, 1) := by decide +kernel
theorem std_F_lengthen_9 : decode stc_F_lengthen 9 = .ok (.getfield 29, 3) := by decide +kernel
theorem kw_1_130 : Cond.fieldLink "StateTables$FirstPlans" 29 "StateTables$FirstPlans" "layers" "LStateTables$Layers;" ∈ stGW := st_t1 (List.mem_of_getElem? (i := 130) (by decide +kernel)) (by decide +kernel)
theorem std_F_lengthen_12 : decode stc_F_lengthen 12 = .ok (.iload 4, 2) := by decide +kernel
theorem std_F_lengthen_14 : decode stc_F_lengthen 14 = .ok (.iload_n 3, 1) := by decide +kernel
theorem std_F_lengthen_15 : decode stc_F_lengthen 15 = .ok (.invokevirtual 68, 3) := by decide +kernel
theorem kw_2_134 : Cond.methodLink "StateTables$FirstPlans" 68 (sty_Y_nodeBehind) ∈ stGW := st_t2 (List.mem_of_getElem? (i := 134) (by decide +kernel)) (by decide +kernel)
theorem std_F_lengthen_18 : decode stc_F_lengthen 18 = .ok (.istore 5, 2) := by decide +kernel
theorem std_F_lengthen_20 : decode stc_F_lengthen 20 = .ok (.iload 5, 2) := by decide +kernel
theorem std_F_lengthen_22 : decode stc_F_lengthen 22 = .ok (.ifCond .lt 18, 3) := by decide +kernel
theorem std_F_lengthen_40 : decode stc_F_lengthen 40 = .ok (.return_, 1) := by decide +kernel
theorem std_F_lengthen_25 : decode stc_F_lengthen 25 = .ok (.aload_n 0, 1) := by decide +kernel
theorem std_F_lengthen_26 : decode stc_F_lengthen 26 = .ok (.getfield 29, 3) := by decide +kernel
theorem std_F_lengthen_29 : decode stc_F_lengthen 29 = .ok (.getfield 41, 3) := by decide +kernel
theorem kw_1_97 : Cond.fieldLink "StateTables$FirstPlans" 41 "StateTables$Layers" "waysFrom" "[J" ∈ stGW := st_t1 (List.mem_of_getElem? (i := 97) (by decide +kernel)) (by decide +kernel)
theorem std_F_lengthen_32 : decode stc_F_lengthen 32 = .ok (.iload 5, 2) := by decide +kernel
theorem std_F_lengthen_34 : decode stc_F_lengthen 34 = .ok (.laload, 1) := by decide +kernel
theorem std_F_lengthen_35 : decode stc_F_lengthen 35 = .ok (.lconst 0, 1) := by decide +kernel
theorem std_F_lengthen_36 : decode stc_F_lengthen 36 = .ok (.lcmp, 1) := by decide +kernel
theorem std_F_lengthen_37 : decode stc_F_lengthen 37 = .ok (.ifCond .ne 4, 3) := by decide +kernel
theorem std_F_lengthen_41 : decode stc_F_lengthen 41 = .ok (.aload_n 0, 1) := by decide +kernel
theorem std_F_lengthen_42 : decode stc_F_lengthen 42 = .ok (.getfield 25, 3) := by decide +kernel
theorem kw_1_129 : Cond.fieldLink "StateTables$FirstPlans" 25 "StateTables$FirstPlans" "told" "LStateTables$Told;" ∈ stGW := st_t1 (List.mem_of_getElem? (i := 129) (by decide +kernel)) (by decide +kernel)
theorem std_F_lengthen_45 : decode stc_F_lengthen 45 = .ok (.getfield 72, 3) := by decide +kernel
theorem kw_1_39 : Cond.fieldLink "StateTables$FirstPlans" 72 "StateTables$Told" "costs" "[I" ∈ stGW := st_t1 (List.mem_of_getElem? (i := 39) (by decide +kernel)) (by decide +kernel)
theorem std_F_lengthen_48 : decode stc_F_lengthen 48 = .ok (.iload_n 2, 1) := by decide +kernel
theorem std_F_lengthen_49 : decode stc_F_lengthen 49 = .ok (.iload_n 3, 1) := by decide +kernel
theorem std_F_lengthen_50 : decode stc_F_lengthen 50 = .ok (.invokestatic 75, 3) := by decide +kernel
theorem std_F_lengthen_53 : decode stc_F_lengthen 53 = .ok (.iaload, 1) := by decide +kernel
theorem std_F_lengthen_54 : decode stc_F_lengthen 54 = .ok (.aload_n 0, 1) := by decide +kernel
theorem std_F_lengthen_55 : decode stc_F_lengthen 55 = .ok (.getfield 29, 3) := by decide +kernel
theorem std_F_lengthen_58 : decode stc_F_lengthen 58 = .ok (.getfield 46, 3) := by decide +kernel
theorem kw_1_93 : Cond.fieldLink "StateTables$FirstPlans" 46 "StateTables$Layers" "costFrom" "[I" ∈ stGW := st_t1 (List.mem_of_getElem? (i := 93) (by decide +kernel)) (by decide +kernel)
theorem std_F_lengthen_61 : decode stc_F_lengthen 61 = .ok (.iload 5, 2) := by decide +kernel
theorem std_F_lengthen_63 : decode stc_F_lengthen 63 = .ok (.iaload, 1) := by decide +kernel
theorem std_F_lengthen_64 : decode stc_F_lengthen 64 = .ok (.iadd, 1) := by decide +kernel
theorem std_F_lengthen_65 : decode stc_F_lengthen 65 = .ok (.aload_n 0, 1) := by decide +kernel
theorem std_F_lengthen_66 : decode stc_F_lengthen 66 = .ok (.getfield 29, 3) := by decide +kernel
theorem std_F_lengthen_69 : decode stc_F_lengthen 69 = .ok (.getfield 46, 3) := by decide +kernel
theorem std_F_lengthen_72 : decode stc_F_lengthen 72 = .ok (.iload 4, 2) := by decide +kernel
theorem std_F_lengthen_74 : decode stc_F_lengthen 74 = .ok (.iaload, 1) := by decide +kernel
theorem std_F_lengthen_75 : decode stc_F_lengthen 75 = .ok (.isub, 1) := by decide +kernel
theorem std_F_lengthen_76 : decode stc_F_lengthen 76 = .ok (.istore 6, 2) := by decide +kernel
theorem std_F_lengthen_78 : decode stc_F_lengthen 78 = .ok (.aload_n 0, 1) := by decide +kernel
theorem std_F_lengthen_79 : decode stc_F_lengthen 79 = .ok (.getfield 11, 3) := by decide +kernel
theorem std_F_lengthen_82 : decode stc_F_lengthen 82 = .ok (.iload_n 1, 1) := by decide +kernel
theorem std_F_lengthen_83 : decode stc_F_lengthen 83 = .ok (.laload, 1) := by decide +kernel
theorem std_F_lengthen_84 : decode stc_F_lengthen 84 = .ok (.iload 6, 2) := by decide +kernel
theorem std_F_lengthen_86 : decode stc_F_lengthen 86 = .ok (.i2l, 1) := by decide +kernel
theorem std_F_lengthen_87 : decode stc_F_lengthen 87 = .ok (.bipush 36, 2) := by decide +kernel
theorem std_F_lengthen_89 : decode stc_F_lengthen 89 = .ok (.lshl, 1) := by decide +kernel
theorem std_F_lengthen_90 : decode stc_F_lengthen 90 = .ok (.ladd, 1) := by decide +kernel
theorem std_F_lengthen_91 : decode stc_F_lengthen 91 = .ok (.iload_n 3, 1) := by decide +kernel
theorem std_F_lengthen_92 : decode stc_F_lengthen 92 = .ok (.i2l, 1) := by decide +kernel
theorem std_F_lengthen_93 : decode stc_F_lengthen 93 = .ok (.iload_n 2, 1) := by decide +kernel
theorem std_F_lengthen_94 : decode stc_F_lengthen 94 = .ok (.invokestatic 33, 3) := by decide +kernel
theorem std_F_lengthen_97 : decode stc_F_lengthen 97 = .ok (.lshl, 1) := by decide +kernel
theorem std_F_lengthen_98 : decode stc_F_lengthen 98 = .ok (.ladd, 1) := by decide +kernel
theorem std_F_lengthen_99 : decode stc_F_lengthen 99 = .ok (.lstore 7, 2) := by decide +kernel
theorem std_F_lengthen_101 : decode stc_F_lengthen 101 = .ok (.aload_n 0, 1) := by decide +kernel
theorem std_F_lengthen_102 : decode stc_F_lengthen 102 = .ok (.lload 7, 2) := by decide +kernel
theorem std_F_lengthen_104 : decode stc_F_lengthen 104 = .ok (.iload 5, 2) := by decide +kernel
theorem std_F_lengthen_106 : decode stc_F_lengthen 106 = .ok (.invokevirtual 78, 3) := by decide +kernel
theorem kw_2_142 : Cond.code sty_F_keepIfAmongFirst stc_F_keepIfAmongFirst 5 none ∈ stGW := st_t2 (List.mem_of_getElem? (i := 142) (by decide +kernel)) (by decide +kernel)
theorem kw_2_139 : Cond.methodLink "StateTables$FirstPlans" 78 (sty_F_keepIfAmongFirst) ∈ stGW := st_t2 (List.mem_of_getElem? (i := 139) (by decide +kernel)) (by decide +kernel)
theorem kw_2_141 : Cond.instanceMethod (sty_F_keepIfAmongFirst) ∈ stGW := st_t2 (List.mem_of_getElem? (i := 141) (by decide +kernel)) (by decide +kernel)
theorem kw_0_9 : Cond.selects "StateTables$FirstPlans" (sty_F_keepIfAmongFirst) (sty_F_keepIfAmongFirst) ∈ stGW := st_t0 (List.mem_of_getElem? (i := 9) (by decide +kernel)) (by decide +kernel)
theorem std_F_lengthen_109 : decode stc_F_lengthen 109 = .ok (.return_, 1) := by decide +kernel
set_option maxHeartbeats 4000000 in
set_option maxRecDepth 100000 in
theorem c_lengthen (l : Launch) (dC : Nat → ClassId) (dI : Nat → Nat → Nat) (cI cJ cZ : ClassId) (f0 : Nat) (r1 : Nat) (e1 : Nat) (r2 : Nat) (e2 : Nat) (fo : Int) (lf : Int) (y0 : Nat) (ys : Nat) (yk : Nat) (yc : Nat) (yd : Nat) (yw : Nat) (yx : Nat) (yb : Nat) (yu : Nat) (total : Int) (t0 : Nat) (hs : Nat) (hc : Nat) (hf : Nat) (hg : Nat) (hb : Nat) (he : Nat) (hm : Nat) (steps : Int) (choices : Int) (bars : Int) (cap : Nat) (fr1 : Int → Int) (fe1 : Int → Int) (fr2 : Int → Int) (fe2 : Int → Int) (gbe : Int → Int) (gwf : Int → Int) (gcf : Int → Int) (fco : Int → Int) (Xs : Int → Int → Prop) (a : Int) (sd : Int) (b : Int) (kcap : cap ≤ 4801) (ka : 0 ≤ a ∧ a < 20) (ksd : 0 ≤ sd ∧ sd < 12) (kb : 0 ≤ b ∧ b < 6) (kv : 0 ≤ fe1 a ∧ fe1 a < (cap : Int)) (kNX : (-1 ≤ (gbe ((fe1 a * 6) + b)) ∧ (gbe ((fe1 a * 6) + b)) < (cap : Int)) ∧ (0 ≤ (gbe ((fe1 a * 6) + b)) → (0 ≤ gwf (gbe ((fe1 a * 6) + b)) ∧ gwf (gbe ((fe1 a * 6) + b)) ≤ 1000000000000) ∧ -1000000 ≤ gcf (gbe ((fe1 a * 6) + b)) ∧ gcf (gbe ((fe1 a * 6) + b)) ≤ 1000000)) (kg : -1000000 ≤ gcf (fe1 a) ∧ gcf (fe1 a) ≤ 1000000) (kco : ∀ j, 0 ≤ j → j < 72 → -1000 ≤ fco j ∧ fco j ≤ 1000) (kF : FS Xs lf fr2 fe2) (kne : (0 ≤ (gbe ((fe1 a * 6) + b)) ∧ ¬ gwf (gbe ((fe1 a * 6) + b)) = 0) → ∀ i, 0 ≤ i → i < lf → ¬ fr2 i = (rowf fco gbe gcf fr1 fe1 sd a b)) (kR : ∀ i, 0 ≤ i → i < lf → 0 ≤ fr2 i ∧ fr2 i < 4611686018427387904) (kw : (0 ≤ (gbe ((fe1 a * 6) + b)) ∧ ¬ gwf (gbe ((fe1 a * 6) + b)) = 0) → 0 ≤ (rowf fco gbe gcf fr1 fe1 sd a b) ∧ (rowf fco gbe gcf fr1 fe1 sd a b) < 4611686018427387904) : ∀ sz, Met l sty_F_lengthen (Cond.code sty_F_lengthen stc_F_lengthen 9 none :: stGW) ({ frames := 1, cells := 0, slots := 0, locals := 24 } : Room) (va_Pc [.ref f0, .int (iI a), .int (iI sd), .int (iI b)] (zPre (dC, dI) stCl [(cI, .int), (cJ, .long), (cZ, .boolean)] st_nw [(f0, .inr (3, [.ref t0, .ref y0, .int (iI fo), .ref r1, .ref e1, .int (iI lf), .ref r2, .ref e2])), (r1, .inl (cJ, aL 20 fr1)), (e1, .inl (cI, aI 20 fe1)), (r2, .inl (cJ, aL 20 fr2)), (e2, .inl (cI, aI 20 fe2)), (y0, .inr (2, [.ref t0, .int (iI total), .ref ys, .ref yk, .ref yc, .ref yd, .ref yw, .ref yx, .ref yb, .ref yu])), (yb, .inl (cI, aI (6 * cap) gbe)), (yx, .inl (cJ, aL cap gwf)), (yd, .inl (cI, aI cap gcf)), (t0, .inr (1, [.int (iI steps), .int (iI choices), .int (iI bars), .ref hs, .ref hc, .ref hf, .ref hg, .ref hb, .ref he, .ref hm])), (hc, .inl (cI, aI 72 fco))] sz)) (va_Qv (fun (u : (Int → Int) × (Int → Int) × Int) => FS (fun E v => Xs E v ∨ ((0 ≤ (gbe ((fe1 a * 6) + b)) ∧ ¬ gwf (gbe ((fe1 a * 6) + b)) = 0) ∧ E = (rowf fco gbe gcf fr1 fe1 sd a b) ∧ v = (gbe ((fe1 a * 6) + b)))) u.2.2 u.1 u.2.1) (zPost (dC, dI) stCl [(cI, .int), (cJ, .long), (cZ, .boolean)] [(f0, .inr (3, [.ref t0, .ref y0, .int (iI fo), .ref r1, .ref e1, .int (iI lf), .ref r2, .ref e2])), (r1, .inl (cJ, aL 20 fr1)), (e1, .inl (cI, aI 20 fe1)), (r2, .inl (cJ, aL 20 fr2)), (e2, .inl (cI, aI 20 fe2)), (y0, .inr (2, [.ref t0, .int (iI total), .ref ys, .ref yk, .ref yc, .ref yd, .ref yw, .ref yx, .ref yb, .ref yu])), (yb, .inl (cI, aI (6 * cap) gbe)), (yx, .inl (cJ, aL cap gwf)), (yd, .inl (cI, aI cap gcf)), (t0, .inr (1, [.int (iI steps), .int (iI choices), .int (iI bars), .ref hs, .ref hc, .ref hf, .ref hg, .ref hb, .ref he, .ref hm])), (hc, .inl (cI, aI 72 fco))] sz (fun u : (Int → Int) × (Int → Int) × Int => [(f0, .inr (3, [.ref t0, .ref y0, .int (iI fo), .ref r1, .ref e1, .int (iI (u.2.2)), .ref r2, .ref e2])), (r1, .inl (cJ, aL 20 fr1)), (e1, .inl (cI, aI 20 fe1)), (r2, .inl (cJ, aL 20 (u.1))), (e2, .inl (cI, aI 20 (u.2.1))), (y0, .inr (2, [.ref t0, .int (iI total), .ref ys, .ref yk, .ref yc, .ref yd, .ref yw, .ref yx, .ref yb, .ref yu])), (yb, .inl (cI, aI (6 * cap) gbe)), (yx, .inl (cJ, aL cap gwf)), (yd, .inl (cI, aI cap gcf)), (t0, .inr (1, [.int (iI steps), .int (iI choices), .int (iI bars), .ref hs, .ref hc, .ref hf, .ref hg, .ref hb, .ref he, .ref hm])), (hc, .inl (cI, aI 72 fco))])) (va_A [(f0, .inr (3, [.ref t0, .ref y0, .int (iI fo), .ref r1, .ref e1, .int (iI lf), .ref r2, .ref e2])), (r1, .inl (cJ, aL 20 fr1)), (e1, .inl (cI, aI 20 fe1)), (r2, .inl (cJ, aL 20 fr2)), (e2, .inl (cI, aI 20 fe2)), (y0, .inr (2, [.ref t0, .int (iI total), .ref ys, .ref yk, .ref yc, .ref yd, .ref yw, .ref yx, .ref yb, .ref yu])), (yb, .inl (cI, aI (6 * cap) gbe)), (yx, .inl (cJ, aL cap gwf)), (yd, .inl (cI, aI cap gcf)), (t0, .inr (1, [.int (iI steps), .int (iI choices), .int (iI bars), .ref hs, .ref hc, .ref hf, .ref hg, .ref hb, .ref he, .ref hm])), (hc, .inl (cI, aI 72 fco))] sz)) 0 0 (va_A [(f0, .inr (3, [.ref t0, .ref y0, .int (iI fo), .ref r1, .ref e1, .int (iI lf), .ref r2, .ref e2])), (r1, .inl (cJ, aL 20 fr1)), (e1, .inl (cI, aI 20 fe1)), (r2, .inl (cJ, aL 20 fr2)), (e2, .inl (cI, aI 20 fe2)), (y0, .inr (2, [.ref t0, .int (iI total), .ref ys, .ref yk, .ref yc, .ref yd, .ref yw, .ref yx, .ref yb, .ref yu])), (yb, .inl (cI, aI (6 * cap) gbe)), (yx, .inl (cJ, aL cap gwf)), (yd, .inl (cI, aI cap gcf)), (t0, .inr (1, [.int (iI steps), .int (iI choices), .int (iI bars), .ref hs, .ref hc, .ref hf, .ref hg, .ref hb, .ref he, .ref hm])), (hc, .inl (cI, aI 72 fco))] sz) := by
  refine met_v (by decide) rfl (Nat.le_of_ble_eq_true rfl) ?_
  intro p e s m below meth c A Q C hmn hret
  refine g_aload_n C 0 std_F_lengthen_0 rfl ?_
  refine g_get C (st_sub sti_F) 0 rfl rfl 4 (by decide) (List.mem_cons_of_mem _ kw_1_134) rfl rfl std_F_lengthen_1 ?_
  refine g_iload_n C 1 std_F_lengthen_4 rfl ?_
  refine g_iald C 2 0 rfl rfl (by omega) (by omega) (by omega) std_F_lengthen_5 ?_
  refine g_istore C (lv' := [(4, .int (iI (fe1 a))), (0, .ref f0), (1, .int (iI a)), (2, .int (iI sd)), (3, .int (iI b))]) std_F_lengthen_6 (by decide) rfl ?_
  refine g_aload_n C 1 std_F_lengthen_8 rfl ?_
  refine g_get C (st_sub sti_F) 0 rfl rfl 1 (by decide) (List.mem_cons_of_mem _ kw_1_130) rfl rfl std_F_lengthen_9 ?_
  refine g_iload C 0 std_F_lengthen_12 rfl ?_
  refine g_iload_n C 4 std_F_lengthen_14 rfl ?_
  refine g_V_i (wc := [(y0, .inr (2, [.ref t0, .int (iI total), .ref ys, .ref yk, .ref yc, .ref yd, .ref yw, .ref yx, .ref yb, .ref yu])), (yb, .inl (cI, aI (6 * cap) gbe))]) (wr := [(f0, .inr (3, [.ref t0, .ref y0, .int (iI fo), .ref r1, .ref e1, .int (iI lf), .ref r2, .ref e2])), (r1, .inl (cJ, aL 20 fr1)), (e1, .inl (cI, aI 20 fe1)), (r2, .inl (cJ, aL 20 fr2)), (e2, .inl (cI, aI 20 fe2)), (yx, .inl (cJ, aL cap gwf)), (yd, .inl (cI, aI cap gcf)), (t0, .inr (1, [.int (iI steps), .int (iI choices), .int (iI bars), .ref hs, .ref hc, .ref hf, .ref hg, .ref hb, .ref he, .ref hm])), (hc, .inl (cI, aI 72 fco))]) (rest := []) C (c_nodeBehind l dC dI cI cJ cZ y0 ys yk yc yd yw yx yb yu total t0 cap gbe (fe1 a) b (kcap) (by omega)) (st_cV C kw_2_101 kw_2_134 kw_1_3 kw_2_99 kw_2_100 sth_Y_nodeBehind ⟨Nat.le_of_ble_eq_true rfl, Nat.le_of_ble_eq_true rfl⟩) 0 rfl rfl rfl rfl (Nat.le_of_ble_eq_true rfl) std_F_lengthen_15 ⟨Nat.le_of_ble_eq_true rfl, Nat.le_of_ble_eq_true rfl⟩ [5, 6] [0, 1, 2, 3, 4, 7, 8, 9, 10] rfl rfl rfl rfl (by decide) (fun r1 u2 h3 => ?_)
  subst h3
  refine g_ws (ws' := [(f0, .inr (3, [.ref t0, .ref y0, .int (iI fo), .ref r1, .ref e1, .int (iI lf), .ref r2, .ref e2])), (r1, .inl (cJ, aL 20 fr1)), (e1, .inl (cI, aI 20 fe1)), (r2, .inl (cJ, aL 20 fr2)), (e2, .inl (cI, aI 20 fe2)), (yx, .inl (cJ, aL cap gwf)), (yd, .inl (cI, aI cap gcf)), (t0, .inr (1, [.int (iI steps), .int (iI choices), .int (iI bars), .ref hs, .ref hc, .ref hf, .ref hg, .ref hb, .ref he, .ref hm])), (hc, .inl (cI, aI 72 fco)), (y0, .inr (2, [.ref t0, .int (iI total), .ref ys, .ref yk, .ref yc, .ref yd, .ref yw, .ref yx, .ref yb, .ref yu])), (yb, .inl (cI, aI (6 * cap) gbe))]) rfl ?_
  refine g_istore C (lv' := [(5, .int (iI (gbe (((fe1 a) * 6) + b)))), (4, .int (iI (fe1 a))), (0, .ref f0), (1, .int (iI a)), (2, .int (iI sd)), (3, .int (iI b))]) std_F_lengthen_18 (by decide) rfl ?_
  refine g_iload C 0 std_F_lengthen_20 rfl ?_
  refine g_if_lt (tgt := 40) C std_F_lengthen_22 (by decide) ⟨by omega, by omega⟩ (fun c4 => ?_) (fun c4 => ?_)
  · refine g_sub (ws' := [(f0, .inr (3, [.ref t0, .ref y0, .int (iI fo), .ref r1, .ref e1, .int (iI lf), .ref r2, .ref e2])), (r1, .inl (cJ, aL 20 fr1)), (e1, .inl (cI, aI 20 fe1)), (r2, .inl (cJ, aL 20 fr2)), (e2, .inl (cI, aI 20 fe2)), (y0, .inr (2, [.ref t0, .int (iI total), .ref ys, .ref yk, .ref yc, .ref yd, .ref yw, .ref yx, .ref yb, .ref yu])), (yb, .inl (cI, aI (6 * cap) gbe)), (yx, .inl (cJ, aL cap gwf)), (yd, .inl (cI, aI cap gcf)), (t0, .inr (1, [.int (iI steps), .int (iI choices), .int (iI bars), .ref hs, .ref hc, .ref hf, .ref hg, .ref hb, .ref he, .ref hm])), (hc, .inl (cI, aI 72 fco))]) [0, 1, 2, 3, 4, 9, 10, 5, 6, 7, 8] rfl rfl ?_
    refine g_wide (k := 0) (n := 0) (Nat.le_of_ble_eq_true rfl) (Nat.le_of_ble_eq_true rfl) ?_
    exact hret _ _ (fr2, fe2, lf) (fs_skip (Ys := fun E v => (0 ≤ (gbe ((fe1 a * 6) + b)) ∧ ¬ gwf (gbe ((fe1 a * 6) + b)) = 0) ∧ E = (rowf fco gbe gcf fr1 fe1 sd a b) ∧ v = (gbe ((fe1 a * 6) + b))) kF (fun E v z => by have := z.1; omega)) std_F_lengthen_40
  · refine g_aload_n C 2 std_F_lengthen_25 rfl ?_
    refine g_get C (st_sub sti_F) 0 rfl rfl 1 (by decide) (List.mem_cons_of_mem _ kw_1_130) rfl rfl std_F_lengthen_26 ?_
    refine g_get C (st_sub sti_Y) 9 rfl rfl 7 (by decide) (List.mem_cons_of_mem _ kw_1_97) rfl rfl std_F_lengthen_29 ?_
    refine g_iload C 0 std_F_lengthen_32 rfl ?_
    refine g_lald C 5 1 rfl rfl (by omega) (by omega) (by omega) std_F_lengthen_34 ?_
    have hq1 := (kNX.2 (by omega)).1
    refine g_lconst C (z := 0) std_F_lengthen_35 (by decide) ?_
    refine g_lcmp_ne (tgt := 41) C std_F_lengthen_36 std_F_lengthen_37 (by decide) ⟨by omega, by omega⟩ ⟨by omega, by omega⟩ (fun c5 => ?_) (fun c5 => ?_)
    · have hcnd : (0 ≤ (gbe ((fe1 a * 6) + b)) ∧ ¬ gwf (gbe ((fe1 a * 6) + b)) = 0) := ⟨by omega, by omega⟩
      have hq2 := (kNX.2 (by omega)).2
      have hq3 := kco ((sd * 6) + b) (by omega) (by omega)
      refine g_aload_n C 2 std_F_lengthen_41 rfl ?_
      refine g_get C (st_sub sti_F) 0 rfl rfl 0 (by decide) (List.mem_cons_of_mem _ kw_1_129) rfl rfl std_F_lengthen_42 ?_
      refine g_get C (st_sub sti_T) 7 rfl rfl 4 (by decide) (List.mem_cons_of_mem _ kw_1_39) rfl rfl std_F_lengthen_45 ?_
      refine g_iload_n C 4 std_F_lengthen_48 rfl ?_
      refine g_iload_n C 5 std_F_lengthen_49 rfl ?_
      refine g_SN_i (wc := []) (wr := [(f0, .inr (3, [.ref t0, .ref y0, .int (iI fo), .ref r1, .ref e1, .int (iI lf), .ref r2, .ref e2])), (r1, .inl (cJ, aL 20 fr1)), (e1, .inl (cI, aI 20 fe1)), (r2, .inl (cJ, aL 20 fr2)), (e2, .inl (cI, aI 20 fe2)), (yx, .inl (cJ, aL cap gwf)), (yd, .inl (cI, aI cap gcf)), (t0, .inr (1, [.int (iI steps), .int (iI choices), .int (iI bars), .ref hs, .ref hc, .ref hf, .ref hg, .ref hb, .ref he, .ref hm])), (hc, .inl (cI, aI 72 fco)), (y0, .inr (2, [.ref t0, .int (iI total), .ref ys, .ref yk, .ref yc, .ref yd, .ref yw, .ref yx, .ref yb, .ref yu])), (yb, .inl (cI, aI (6 * cap) gbe))]) (rest := [.ref hc]) C (c_placeOf l dC dI cI cJ cZ sd b ) (st_cSN C kw_1_235 (List.mem_of_getElem? (i := 7) rfl) kw_1_1 kw_1_234 sth_S_placeOf ⟨Nat.le_of_ble_eq_true rfl, Nat.le_of_ble_eq_true rfl⟩) rfl rfl (Nat.le_of_ble_eq_true rfl) std_F_lengthen_50 ⟨Nat.le_of_ble_eq_true rfl, Nat.le_of_ble_eq_true rfl⟩ [] [0, 1, 2, 3, 4, 5, 6, 7, 8, 9, 10] rfl rfl rfl rfl (by decide) (fun r6 u7 h8 => ?_)
      subst h8
      refine g_ws (ws' := [(f0, .inr (3, [.ref t0, .ref y0, .int (iI fo), .ref r1, .ref e1, .int (iI lf), .ref r2, .ref e2])), (r1, .inl (cJ, aL 20 fr1)), (e1, .inl (cI, aI 20 fe1)), (r2, .inl (cJ, aL 20 fr2)), (e2, .inl (cI, aI 20 fe2)), (yx, .inl (cJ, aL cap gwf)), (yd, .inl (cI, aI cap gcf)), (t0, .inr (1, [.int (iI steps), .int (iI choices), .int (iI bars), .ref hs, .ref hc, .ref hf, .ref hg, .ref hb, .ref he, .ref hm])), (hc, .inl (cI, aI 72 fco)), (y0, .inr (2, [.ref t0, .int (iI total), .ref ys, .ref yk, .ref yc, .ref yd, .ref yw, .ref yx, .ref yb, .ref yu])), (yb, .inl (cI, aI (6 * cap) gbe))]) rfl ?_
      refine g_iald C 8 0 rfl rfl (by omega) (by omega) (by omega) std_F_lengthen_53 ?_
      refine g_aload_n C 2 std_F_lengthen_54 rfl ?_
      refine g_get C (st_sub sti_F) 0 rfl rfl 1 (by decide) (List.mem_cons_of_mem _ kw_1_130) rfl rfl std_F_lengthen_55 ?_
      refine g_get C (st_sub sti_Y) 9 rfl rfl 5 (by decide) (List.mem_cons_of_mem _ kw_1_93) rfl rfl std_F_lengthen_58 ?_
      refine g_iload C 0 std_F_lengthen_61 rfl ?_
      refine g_iald C 6 0 rfl rfl (by omega) (by omega) (by omega) std_F_lengthen_63 ?_
      refine g_iadd C std_F_lengthen_64 ?_
      refine g_aload_n C 2 std_F_lengthen_65 rfl ?_
      refine g_get C (st_sub sti_F) 0 rfl rfl 1 (by decide) (List.mem_cons_of_mem _ kw_1_130) rfl rfl std_F_lengthen_66 ?_
      refine g_get C (st_sub sti_Y) 9 rfl rfl 5 (by decide) (List.mem_cons_of_mem _ kw_1_93) rfl rfl std_F_lengthen_69 ?_
      refine g_iload C 1 std_F_lengthen_72 rfl ?_
      refine g_iald C 6 0 rfl rfl (by omega) (by omega) (by omega) std_F_lengthen_74 ?_
      refine g_isub C std_F_lengthen_75 ?_
      refine g_istore C (lv' := [(6, .int (iI (((fco ((sd * 6) + b)) + (gcf (gbe (((fe1 a) * 6) + b)))) - (gcf (fe1 a))))), (5, .int (iI (gbe (((fe1 a) * 6) + b)))), (4, .int (iI (fe1 a))), (0, .ref f0), (1, .int (iI a)), (2, .int (iI sd)), (3, .int (iI b))]) std_F_lengthen_76 (by decide) rfl ?_
      refine g_aload_n C 3 std_F_lengthen_78 rfl ?_
      refine g_get C (st_sub sti_F) 0 rfl rfl 3 (by decide) (List.mem_cons_of_mem _ kw_1_133) rfl rfl std_F_lengthen_79 ?_
      refine g_iload_n C 4 std_F_lengthen_82 rfl ?_
      refine g_lald C 1 1 rfl rfl (by omega) (by omega) (by omega) std_F_lengthen_83 ?_
      refine g_iload C 0 std_F_lengthen_84 rfl ?_
      refine g_i2l C std_F_lengthen_86 ⟨by omega, by omega⟩ ?_
      refine g_bipush C std_F_lengthen_87 (by decide) ?_
      refine g_lshl C (z := ((((fco ((sd * 6) + b)) + (gcf (gbe (((fe1 a) * 6) + b)))) - (gcf (fe1 a))) * 68719476736)) std_F_lengthen_89 (lI_shl (by decide) (by decide) (by decide)) ?_
      refine g_ladd C std_F_lengthen_90 ?_
      refine g_iload_n C 6 std_F_lengthen_91 rfl ?_
      refine g_i2l C std_F_lengthen_92 ⟨by omega, by omega⟩ ?_
      refine g_iload_n C 5 std_F_lengthen_93 rfl ?_
      refine g_S_i (wc := []) (wr := [(f0, .inr (3, [.ref t0, .ref y0, .int (iI fo), .ref r1, .ref e1, .int (iI lf), .ref r2, .ref e2])), (r1, .inl (cJ, aL 20 fr1)), (e1, .inl (cI, aI 20 fe1)), (r2, .inl (cJ, aL 20 fr2)), (e2, .inl (cI, aI 20 fe2)), (yx, .inl (cJ, aL cap gwf)), (yd, .inl (cI, aI cap gcf)), (t0, .inr (1, [.int (iI steps), .int (iI choices), .int (iI bars), .ref hs, .ref hc, .ref hf, .ref hg, .ref hb, .ref he, .ref hm])), (hc, .inl (cI, aI 72 fco)), (y0, .inr (2, [.ref t0, .int (iI total), .ref ys, .ref yk, .ref yc, .ref yd, .ref yw, .ref yx, .ref yb, .ref yu])), (yb, .inl (cI, aI (6 * cap) gbe))]) (rest := [.long (lI b), .long (lI ((fr1 a) + ((((fco ((sd * 6) + b)) + (gcf (gbe (((fe1 a) * 6) + b)))) - (gcf (fe1 a))) * 68719476736)))]) C (c_bitsBehind l dC dI cI cJ cZ sd ) (st_cS C kw_2_138 kw_2_136 kw_1_4 kw_2_137 sth_F_bitsBehind ⟨Nat.le_of_ble_eq_true rfl, Nat.le_of_ble_eq_true rfl⟩) rfl rfl (Nat.le_of_ble_eq_true rfl) std_F_lengthen_94 ⟨Nat.le_of_ble_eq_true rfl, Nat.le_of_ble_eq_true rfl⟩ [] [0, 1, 2, 3, 4, 5, 6, 7, 8, 9, 10] rfl rfl rfl rfl (by decide) (fun r9 u10 h11 => ?_)
      subst h11
      refine g_ws (ws' := [(f0, .inr (3, [.ref t0, .ref y0, .int (iI fo), .ref r1, .ref e1, .int (iI lf), .ref r2, .ref e2])), (r1, .inl (cJ, aL 20 fr1)), (e1, .inl (cI, aI 20 fe1)), (r2, .inl (cJ, aL 20 fr2)), (e2, .inl (cI, aI 20 fe2)), (yx, .inl (cJ, aL cap gwf)), (yd, .inl (cI, aI cap gcf)), (t0, .inr (1, [.int (iI steps), .int (iI choices), .int (iI bars), .ref hs, .ref hc, .ref hf, .ref hg, .ref hb, .ref he, .ref hm])), (hc, .inl (cI, aI 72 fco)), (y0, .inr (2, [.ref t0, .int (iI total), .ref ys, .ref yk, .ref yc, .ref yd, .ref yw, .ref yx, .ref yb, .ref yu])), (yb, .inl (cI, aI (6 * cap) gbe))]) rfl ?_
      refine g_lshl C (z := (b * (2 ^ (3 * (11 - sd)).toNat))) std_F_lengthen_97 (lI_shl (by omega) (by omega) rfl) ?_
      refine g_ladd C std_F_lengthen_98 ?_
      refine g_lstore C (lv' := [(7, .long (lI (((fr1 a) + ((((fco ((sd * 6) + b)) + (gcf (gbe (((fe1 a) * 6) + b)))) - (gcf (fe1 a))) * 68719476736)) + (b * (2 ^ (3 * (11 - sd)).toNat))))), (6, .int (iI (((fco ((sd * 6) + b)) + (gcf (gbe (((fe1 a) * 6) + b)))) - (gcf (fe1 a))))), (5, .int (iI (gbe (((fe1 a) * 6) + b)))), (4, .int (iI (fe1 a))), (0, .ref f0), (1, .int (iI a)), (2, .int (iI sd)), (3, .int (iI b))]) std_F_lengthen_99 (by decide) rfl ?_
      refine g_aload_n C 4 std_F_lengthen_101 rfl ?_
      refine g_lload C 0 std_F_lengthen_102 rfl ?_
      refine g_iload C 2 std_F_lengthen_104 rfl ?_
      refine g_V_v (wc := [(f0, .inr (3, [.ref t0, .ref y0, .int (iI fo), .ref r1, .ref e1, .int (iI lf), .ref r2, .ref e2])), (r2, .inl (cJ, aL 20 fr2)), (e2, .inl (cI, aI 20 fe2))]) (wr := [(r1, .inl (cJ, aL 20 fr1)), (e1, .inl (cI, aI 20 fe1)), (yx, .inl (cJ, aL cap gwf)), (yd, .inl (cI, aI cap gcf)), (t0, .inr (1, [.int (iI steps), .int (iI choices), .int (iI bars), .ref hs, .ref hc, .ref hf, .ref hg, .ref hb, .ref he, .ref hm])), (hc, .inl (cI, aI 72 fco)), (y0, .inr (2, [.ref t0, .int (iI total), .ref ys, .ref yk, .ref yc, .ref yd, .ref yw, .ref yx, .ref yb, .ref yu])), (yb, .inl (cI, aI (6 * cap) gbe))]) (rest := []) C (c_keepIfAmongFirst l dC dI cI cJ cZ f0 r1 e1 r2 e2 fo lf t0 y0 fr2 fe2 Xs (((fr1 a) + ((((fco ((sd * 6) + b)) + (gcf (gbe (((fe1 a) * 6) + b)))) - (gcf (fe1 a))) * 68719476736)) + (b * (2 ^ (3 * (11 - sd)).toNat))) (gbe (((fe1 a) * 6) + b)) (kF) (kne hcnd) (kR) (kw hcnd)) (st_cV C kw_2_142 kw_2_139 kw_1_4 kw_2_141 kw_0_9 sth_F_keepIfAmongFirst ⟨Nat.le_of_ble_eq_true rfl, Nat.le_of_ble_eq_true rfl⟩) 0 rfl rfl rfl rfl (Nat.le_of_ble_eq_true rfl) std_F_lengthen_106 ⟨Nat.le_of_ble_eq_true rfl, Nat.le_of_ble_eq_true rfl⟩ [0, 3, 4] [1, 2, 5, 6, 7, 8, 9, 10] rfl rfl rfl rfl (by decide) (fun u13 h14 => ?_)
      obtain ⟨LR15, LE16, m17⟩ := u13
      dsimp only at h14
      refine g_ws (ws' := [(r1, .inl (cJ, aL 20 fr1)), (e1, .inl (cI, aI 20 fe1)), (yx, .inl (cJ, aL cap gwf)), (yd, .inl (cI, aI cap gcf)), (t0, .inr (1, [.int (iI steps), .int (iI choices), .int (iI bars), .ref hs, .ref hc, .ref hf, .ref hg, .ref hb, .ref he, .ref hm])), (hc, .inl (cI, aI 72 fco)), (y0, .inr (2, [.ref t0, .int (iI total), .ref ys, .ref yk, .ref yc, .ref yd, .ref yw, .ref yx, .ref yb, .ref yu])), (yb, .inl (cI, aI (6 * cap) gbe)), (f0, .inr (3, [.ref t0, .ref y0, .int (iI fo), .ref r1, .ref e1, .int (iI m17), .ref r2, .ref e2])), (r2, .inl (cJ, aL 20 LR15)), (e2, .inl (cI, aI 20 LE16))]) rfl ?_
      refine g_sub (ws' := [(f0, .inr (3, [.ref t0, .ref y0, .int (iI fo), .ref r1, .ref e1, .int (iI m17), .ref r2, .ref e2])), (r1, .inl (cJ, aL 20 fr1)), (e1, .inl (cI, aI 20 fe1)), (r2, .inl (cJ, aL 20 LR15)), (e2, .inl (cI, aI 20 LE16)), (y0, .inr (2, [.ref t0, .int (iI total), .ref ys, .ref yk, .ref yc, .ref yd, .ref yw, .ref yx, .ref yb, .ref yu])), (yb, .inl (cI, aI (6 * cap) gbe)), (yx, .inl (cJ, aL cap gwf)), (yd, .inl (cI, aI cap gcf)), (t0, .inr (1, [.int (iI steps), .int (iI choices), .int (iI bars), .ref hs, .ref hc, .ref hf, .ref hg, .ref hb, .ref he, .ref hm])), (hc, .inl (cI, aI 72 fco))]) [8, 0, 1, 9, 10, 6, 7, 2, 3, 4, 5] rfl rfl ?_
      refine g_wide (k := 0) (n := 0) (Nat.le_of_ble_eq_true rfl) (Nat.le_of_ble_eq_true rfl) ?_
      exact hret _ _ (LR15, LE16, m17) (fs_congr h14 (fun E v => ⟨fun q => q.elim Or.inl (fun z => Or.inr ⟨hcnd, z⟩), fun q => q.elim Or.inl (fun z => Or.inr z.2)⟩)) std_F_lengthen_109
    · refine g_sub (ws' := [(f0, .inr (3, [.ref t0, .ref y0, .int (iI fo), .ref r1, .ref e1, .int (iI lf), .ref r2, .ref e2])), (r1, .inl (cJ, aL 20 fr1)), (e1, .inl (cI, aI 20 fe1)), (r2, .inl (cJ, aL 20 fr2)), (e2, .inl (cI, aI 20 fe2)), (y0, .inr (2, [.ref t0, .int (iI total), .ref ys, .ref yk, .ref yc, .ref yd, .ref yw, .ref yx, .ref yb, .ref yu])), (yb, .inl (cI, aI (6 * cap) gbe)), (yx, .inl (cJ, aL cap gwf)), (yd, .inl (cI, aI cap gcf)), (t0, .inr (1, [.int (iI steps), .int (iI choices), .int (iI bars), .ref hs, .ref hc, .ref hf, .ref hg, .ref hb, .ref he, .ref hm])), (hc, .inl (cI, aI 72 fco))]) [0, 1, 2, 3, 4, 9, 10, 5, 6, 7, 8] rfl rfl ?_
      refine g_wide (k := 0) (n := 0) (Nat.le_of_ble_eq_true rfl) (Nat.le_of_ble_eq_true rfl) ?_
      exact hret _ _ (fr2, fe2, lf) (fs_skip (Ys := fun E v => (0 ≤ (gbe ((fe1 a * 6) + b)) ∧ ¬ gwf (gbe ((fe1 a * 6) + b)) = 0) ∧ E = (rowf fco gbe gcf fr1 fe1 sd a b) ∧ v = (gbe ((fe1 a * 6) + b))) kF (fun E v z => by have := z.1; omega)) std_F_lengthen_40

abbrev sty_F_lengthenAll : MethodName := ⟨"StateTables$FirstPlans", "lengthenAll", "(I)V"⟩
abbrev stc_F_lengthenAll : ByteArray := prog_2_method_6_code
theorem sth_F_lengthenAll : (sty_F_lengthenAll).cls ≠ "java/lang/invoke/MethodHandle" ∧ (sty_F_lengthenAll).cls ≠ "java/lang/invoke/VarHandle" ∧ (parseMethodDescriptor (sty_F_lengthenAll).desc).map (fun d => d.parameters.length) = some 1 := by decide +kernel
theorem std_F_lengthenAll_0 : decode stc_F_lengthenAll 0 = .ok (.aload_n 0, 1) := by decide +kernel
theorem std_F_lengthenAll_1 : decode stc_F_lengthenAll 1 = .ok (.iconst 0, 1) := by decide +kernel
theorem std_F_lengthenAll_2 : decode stc_F_lengthenAll 2 = .ok (.putfield 58, 3) := by decide +kernel
theorem std_F_lengthenAll_5 : decode stc_F_lengthenAll 5 = .ok (.iconst 0, 1) := by decide +kernel
theorem std_F_lengthenAll_6 : decode stc_F_lengthenAll 6 = .ok (.istore_n 2, 1) := by decide +kernel
theorem std_F_lengthenAll_7 : decode stc_F_lengthenAll 7 = .ok (.iload_n 2, 1) := by decide +kernel
theorem std_F_lengthenAll_8 : decode stc_F_lengthenAll 8 = .ok (.aload_n 0, 1) := by decide +kernel
theorem std_F_lengthenAll_9 : decode stc_F_lengthenAll 9 = .ok (.getfield 37, 3) := by decide +kernel
theorem kw_1_131 : Cond.fieldLink "StateTables$FirstPlans" 37 "StateTables$FirstPlans" "found" "I" ∈ stGW := st_t1 (List.mem_of_getElem? (i := 131) (by decide +kernel)) (by decide +kernel)
theorem std_F_lengthenAll_12 : decode stc_F_lengthenAll 12 = .ok (.if_icmp .ge 37, 3) := by decide +kernel
theorem std_F_lengthenAll_49 : decode stc_F_lengthenAll 49 = .ok (.aload_n 0, 1) := by decide +kernel
theorem std_F_lengthenAll_50 : decode stc_F_lengthenAll 50 = .ok (.getfield 11, 3) := by decide +kernel
theorem std_F_lengthenAll_53 : decode stc_F_lengthenAll 53 = .ok (.astore_n 2, 1) := by decide +kernel
theorem std_F_lengthenAll_54 : decode stc_F_lengthenAll 54 = .ok (.aload_n 0, 1) := by decide +kernel
theorem std_F_lengthenAll_55 : decode stc_F_lengthenAll 55 = .ok (.getfield 15, 3) := by decide +kernel
theorem std_F_lengthenAll_58 : decode stc_F_lengthenAll 58 = .ok (.astore_n 3, 1) := by decide +kernel
theorem std_F_lengthenAll_59 : decode stc_F_lengthenAll 59 = .ok (.aload_n 0, 1) := by decide +kernel
theorem std_F_lengthenAll_60 : decode stc_F_lengthenAll 60 = .ok (.aload_n 0, 1) := by decide +kernel
theorem std_F_lengthenAll_61 : decode stc_F_lengthenAll 61 = .ok (.getfield 19, 3) := by decide +kernel
theorem std_F_lengthenAll_64 : decode stc_F_lengthenAll 64 = .ok (.putfield 11, 3) := by decide +kernel
theorem std_F_lengthenAll_67 : decode stc_F_lengthenAll 67 = .ok (.aload_n 0, 1) := by decide +kernel
theorem std_F_lengthenAll_68 : decode stc_F_lengthenAll 68 = .ok (.aload_n 0, 1) := by decide +kernel
theorem std_F_lengthenAll_69 : decode stc_F_lengthenAll 69 = .ok (.getfield 22, 3) := by decide +kernel
theorem std_F_lengthenAll_72 : decode stc_F_lengthenAll 72 = .ok (.putfield 15, 3) := by decide +kernel
theorem std_F_lengthenAll_75 : decode stc_F_lengthenAll 75 = .ok (.aload_n 0, 1) := by decide +kernel
theorem std_F_lengthenAll_76 : decode stc_F_lengthenAll 76 = .ok (.aload_n 0, 1) := by decide +kernel
theorem std_F_lengthenAll_77 : decode stc_F_lengthenAll 77 = .ok (.getfield 58, 3) := by decide +kernel
theorem std_F_lengthenAll_80 : decode stc_F_lengthenAll 80 = .ok (.putfield 37, 3) := by decide +kernel
theorem std_F_lengthenAll_83 : decode stc_F_lengthenAll 83 = .ok (.aload_n 0, 1) := by decide +kernel
theorem std_F_lengthenAll_84 : decode stc_F_lengthenAll 84 = .ok (.aload_n 2, 1) := by decide +kernel
theorem std_F_lengthenAll_85 : decode stc_F_lengthenAll 85 = .ok (.putfield 19, 3) := by decide +kernel
theorem std_F_lengthenAll_88 : decode stc_F_lengthenAll 88 = .ok (.aload_n 0, 1) := by decide +kernel
theorem std_F_lengthenAll_89 : decode stc_F_lengthenAll 89 = .ok (.aload_n 3, 1) := by decide +kernel
theorem std_F_lengthenAll_90 : decode stc_F_lengthenAll 90 = .ok (.putfield 22, 3) := by decide +kernel
theorem std_F_lengthenAll_93 : decode stc_F_lengthenAll 93 = .ok (.return_, 1) := by decide +kernel
theorem std_F_lengthenAll_15 : decode stc_F_lengthenAll 15 = .ok (.iconst 0, 1) := by decide +kernel
theorem std_F_lengthenAll_16 : decode stc_F_lengthenAll 16 = .ok (.istore_n 3, 1) := by decide +kernel
theorem std_F_lengthenAll_17 : decode stc_F_lengthenAll 17 = .ok (.iload_n 3, 1) := by decide +kernel
theorem std_F_lengthenAll_18 : decode stc_F_lengthenAll 18 = .ok (.aload_n 0, 1) := by decide +kernel
theorem std_F_lengthenAll_19 : decode stc_F_lengthenAll 19 = .ok (.getfield 25, 3) := by decide +kernel
theorem std_F_lengthenAll_22 : decode stc_F_lengthenAll 22 = .ok (.getfield 61, 3) := by decide +kernel
theorem kw_1_35 : Cond.fieldLink "StateTables$FirstPlans" 61 "StateTables$Told" "sizes" "[I" ∈ stGW := st_t1 (List.mem_of_getElem? (i := 35) (by decide +kernel)) (by decide +kernel)
theorem std_F_lengthenAll_25 : decode stc_F_lengthenAll 25 = .ok (.iload_n 1, 1) := by decide +kernel
theorem std_F_lengthenAll_26 : decode stc_F_lengthenAll 26 = .ok (.iaload, 1) := by decide +kernel
theorem std_F_lengthenAll_27 : decode stc_F_lengthenAll 27 = .ok (.if_icmp .ge 16, 3) := by decide +kernel
theorem std_F_lengthenAll_43 : decode stc_F_lengthenAll 43 = .ok (.iinc 2 1, 3) := by decide +kernel
theorem std_F_lengthenAll_46 : decode stc_F_lengthenAll 46 = .ok (.goto (-39), 3) := by decide +kernel
theorem std_F_lengthenAll_30 : decode stc_F_lengthenAll 30 = .ok (.aload_n 0, 1) := by decide +kernel
theorem std_F_lengthenAll_31 : decode stc_F_lengthenAll 31 = .ok (.iload_n 2, 1) := by decide +kernel
theorem std_F_lengthenAll_32 : decode stc_F_lengthenAll 32 = .ok (.iload_n 1, 1) := by decide +kernel
theorem std_F_lengthenAll_33 : decode stc_F_lengthenAll 33 = .ok (.iload_n 3, 1) := by decide +kernel
theorem std_F_lengthenAll_34 : decode stc_F_lengthenAll 34 = .ok (.invokevirtual 64, 3) := by decide +kernel
theorem kw_2_133 : Cond.code sty_F_lengthen stc_F_lengthen 9 none ∈ stGW := st_t2 (List.mem_of_getElem? (i := 133) (by decide +kernel)) (by decide +kernel)
theorem kw_2_130 : Cond.methodLink "StateTables$FirstPlans" 64 (sty_F_lengthen) ∈ stGW := st_t2 (List.mem_of_getElem? (i := 130) (by decide +kernel)) (by decide +kernel)
theorem kw_2_132 : Cond.instanceMethod (sty_F_lengthen) ∈ stGW := st_t2 (List.mem_of_getElem? (i := 132) (by decide +kernel)) (by decide +kernel)
theorem kw_0_8 : Cond.selects "StateTables$FirstPlans" (sty_F_lengthen) (sty_F_lengthen) ∈ stGW := st_t0 (List.mem_of_getElem? (i := 8) (by decide +kernel)) (by decide +kernel)
theorem std_F_lengthenAll_37 : decode stc_F_lengthenAll 37 = .ok (.iinc 3 1, 3) := by decide +kernel
theorem std_F_lengthenAll_40 : decode stc_F_lengthenAll 40 = .ok (.goto (-23), 3) := by decide +kernel
set_option maxHeartbeats 4000000 in
set_option maxRecDepth 100000 in
theorem c_lengthenAll (l : Launch) (dC : Nat → ClassId) (dI : Nat → Nat → Nat) (cI cJ cZ : ClassId) (f0 : Nat) (r1 : Nat) (e1 : Nat) (r2 : Nat) (e2 : Nat) (fo : Int) (lf : Int) (y0 : Nat) (ys : Nat) (yk : Nat) (yc : Nat) (yd : Nat) (yw : Nat) (yx : Nat) (yb : Nat) (yu : Nat) (total : Int) (t0 : Nat) (hs : Nat) (hc : Nat) (hf : Nat) (hg : Nat) (hb : Nat) (he : Nat) (hm : Nat) (steps : Int) (choices : Int) (bars : Int) (cap : Nat) (n : Nat) (d : Nat) (fr1 : Int → Int) (fe1 : Int → Int) (fr2 : Int → Int) (fe2 : Int → Int) (gst : Int → Int) (gk : Int → Int) (gwt : Int → Int) (gct : Int → Int) (gbe : Int → Int) (gwf : Int → Int) (gcf : Int → Int) (fle : Int → Int) (fsz : Int → Int) (fco : Int → Int) (ffu : Int → Int) (fsu : Int → Int) (fbb : Int → Int) (fmo : Int → Int) (kcap : cap ≤ 4801) (kgst : ∀ j, 0 ≤ j → j < 14 → 0 ≤ gst j ∧ gst j ≤ cap) (kn : n ≤ 12) (kd : d < n) (kT : TB fsz fco ffu fsu fbb fmo) (kLS : LYS fsz fco ffu fsu fbb fmo n gst gk gwt gct gbe) (kB : ∀ d : Nat, d ≤ n → BK fsz fco ffu fsu fbb fmo fle n gk gwf gcf d (gst ((d : Nat) : Int)) (gst (((d : Nat) : Int) + 1))) (kF : FS (PC fsz fco ffu fsu fbb fmo fle n gst gk d) fo fr1 fe1) : ∀ sz, Met l sty_F_lengthenAll (Cond.code sty_F_lengthenAll stc_F_lengthenAll 4 none :: stGW) ({ frames := 2, cells := 0, slots := 0, locals := 52 } : Room) (va_Pc [.ref f0, .int (iI ((d : Nat) : Int))] (zPre (dC, dI) stCl [(cI, .int), (cJ, .long), (cZ, .boolean)] st_nw [(f0, .inr (3, [.ref t0, .ref y0, .int (iI fo), .ref r1, .ref e1, .int (iI lf), .ref r2, .ref e2])), (r1, .inl (cJ, aL 20 fr1)), (e1, .inl (cI, aI 20 fe1)), (r2, .inl (cJ, aL 20 fr2)), (e2, .inl (cI, aI 20 fe2)), (y0, .inr (2, [.ref t0, .int (iI total), .ref ys, .ref yk, .ref yc, .ref yd, .ref yw, .ref yx, .ref yb, .ref yu])), (yb, .inl (cI, aI (6 * cap) gbe)), (yx, .inl (cJ, aL cap gwf)), (yd, .inl (cI, aI cap gcf)), (t0, .inr (1, [.int (iI steps), .int (iI choices), .int (iI bars), .ref hs, .ref hc, .ref hf, .ref hg, .ref hb, .ref he, .ref hm])), (hc, .inl (cI, aI 72 fco)), (hs, .inl (cI, aI 12 fsz))] sz)) (va_Qv (fun (u : (Int → Int) × (Int → Int) × Int) => FS (PC fsz fco ffu fsu fbb fmo fle n gst gk (d + 1)) u.2.2 u.1 u.2.1) (zPost (dC, dI) stCl [(cI, .int), (cJ, .long), (cZ, .boolean)] [(f0, .inr (3, [.ref t0, .ref y0, .int (iI fo), .ref r1, .ref e1, .int (iI lf), .ref r2, .ref e2])), (r1, .inl (cJ, aL 20 fr1)), (e1, .inl (cI, aI 20 fe1)), (r2, .inl (cJ, aL 20 fr2)), (e2, .inl (cI, aI 20 fe2)), (y0, .inr (2, [.ref t0, .int (iI total), .ref ys, .ref yk, .ref yc, .ref yd, .ref yw, .ref yx, .ref yb, .ref yu])), (yb, .inl (cI, aI (6 * cap) gbe)), (yx, .inl (cJ, aL cap gwf)), (yd, .inl (cI, aI cap gcf)), (t0, .inr (1, [.int (iI steps), .int (iI choices), .int (iI bars), .ref hs, .ref hc, .ref hf, .ref hg, .ref hb, .ref he, .ref hm])), (hc, .inl (cI, aI 72 fco)), (hs, .inl (cI, aI 12 fsz))] sz (fun u : (Int → Int) × (Int → Int) × Int => [(f0, .inr (3, [.ref t0, .ref y0, .int (iI (u.2.2)), .ref r2, .ref e2, .int (iI (u.2.2)), .ref r1, .ref e1])), (r1, .inl (cJ, aL 20 fr1)), (e1, .inl (cI, aI 20 fe1)), (r2, .inl (cJ, aL 20 (u.1))), (e2, .inl (cI, aI 20 (u.2.1))), (y0, .inr (2, [.ref t0, .int (iI total), .ref ys, .ref yk, .ref yc, .ref yd, .ref yw, .ref yx, .ref yb, .ref yu])), (yb, .inl (cI, aI (6 * cap) gbe)), (yx, .inl (cJ, aL cap gwf)), (yd, .inl (cI, aI cap gcf)), (t0, .inr (1, [.int (iI steps), .int (iI choices), .int (iI bars), .ref hs, .ref hc, .ref hf, .ref hg, .ref hb, .ref he, .ref hm])), (hc, .inl (cI, aI 72 fco)), (hs, .inl (cI, aI 12 fsz))])) (va_A [(f0, .inr (3, [.ref t0, .ref y0, .int (iI fo), .ref r1, .ref e1, .int (iI lf), .ref r2, .ref e2])), (r1, .inl (cJ, aL 20 fr1)), (e1, .inl (cI, aI 20 fe1)), (r2, .inl (cJ, aL 20 fr2)), (e2, .inl (cI, aI 20 fe2)), (y0, .inr (2, [.ref t0, .int (iI total), .ref ys, .ref yk, .ref yc, .ref yd, .ref yw, .ref yx, .ref yb, .ref yu])), (yb, .inl (cI, aI (6 * cap) gbe)), (yx, .inl (cJ, aL cap gwf)), (yd, .inl (cI, aI cap gcf)), (t0, .inr (1, [.int (iI steps), .int (iI choices), .int (iI bars), .ref hs, .ref hc, .ref hf, .ref hg, .ref hb, .ref he, .ref hm])), (hc, .inl (cI, aI 72 fco)), (hs, .inl (cI, aI 12 fsz))] sz)) 0 0 (va_A [(f0, .inr (3, [.ref t0, .ref y0, .int (iI fo), .ref r1, .ref e1, .int (iI lf), .ref r2, .ref e2])), (r1, .inl (cJ, aL 20 fr1)), (e1, .inl (cI, aI 20 fe1)), (r2, .inl (cJ, aL 20 fr2)), (e2, .inl (cI, aI 20 fe2)), (y0, .inr (2, [.ref t0, .int (iI total), .ref ys, .ref yk, .ref yc, .ref yd, .ref yw, .ref yx, .ref yb, .ref yu])), (yb, .inl (cI, aI (6 * cap) gbe)), (yx, .inl (cJ, aL cap gwf)), (yd, .inl (cI, aI cap gcf)), (t0, .inr (1, [.int (iI steps), .int (iI choices), .int (iI bars), .ref hs, .ref hc, .ref hf, .ref hg, .ref hb, .ref he, .ref hm])), (hc, .inl (cI, aI 72 fco)), (hs, .inl (cI, aI 12 fsz))] sz) := by
  refine met_v (by decide) rfl (Nat.le_of_ble_eq_true rfl) ?_
  intro p e s m below meth c A Q C hmn hret
  have hq0 := kT.1 ((d : Nat) : Int) (by omega) (by omega)
  have hF1 := kF.1
  refine g_aload_n C 0 std_F_lengthenAll_0 rfl ?_
  refine g_iconst C std_F_lengthenAll_1 ?_
  refine g_put C (ws' := [(f0, .inr (3, [.ref t0, .ref y0, .int (iI fo), .ref r1, .ref e1, .int (iI 0), .ref r2, .ref e2])), (r1, .inl (cJ, aL 20 fr1)), (e1, .inl (cI, aI 20 fe1)), (r2, .inl (cJ, aL 20 fr2)), (e2, .inl (cI, aI 20 fe2)), (y0, .inr (2, [.ref t0, .int (iI total), .ref ys, .ref yk, .ref yc, .ref yd, .ref yw, .ref yx, .ref yb, .ref yu])), (yb, .inl (cI, aI (6 * cap) gbe)), (yx, .inl (cJ, aL cap gwf)), (yd, .inl (cI, aI cap gcf)), (t0, .inr (1, [.int (iI steps), .int (iI choices), .int (iI bars), .ref hs, .ref hc, .ref hf, .ref hg, .ref hb, .ref he, .ref hm])), (hc, .inl (cI, aI 72 fco)), (hs, .inl (cI, aI 12 fsz))]) (st_sub sti_F) stt_F sto_F stn_F 0 rfl rfl 5 (by decide) (List.mem_cons_of_mem _ kw_1_135) rfl rfl rfl rfl (Nat.le_of_ble_eq_true rfl) std_F_lengthenAll_2 rfl ?_
  refine g_iconst C std_F_lengthenAll_5 ?_
  refine g_istore_n C (lv' := [(2, .int (iI 0)), (0, .ref f0), (1, .int (iI ((d : Nat) : Int)))]) std_F_lengthenAll_6 (by decide) rfl ?_
  have L7 : ∀ (nn7 : Nat) (x : Int) (mm : Int) (LR : Int → Int) (LE : Int → Int), (0 ≤ x ∧ x ≤ fo) → FS (XR fco gbe gwf gcf fr1 fe1 ((d : Nat) : Int) (fsz ((d : Nat) : Int)) x 0) mm LR LE → (fo - x) < (nn7 : Int) → G p l e ({ frames := 2, cells := 0, slots := 0, locals := 52 } : Room) s m ([.ref f0, .int (iI ((d : Nat) : Int))] : List Value).toArray below meth c (dC, dI) stCl 4 A 0 0 Q [(f0, .inr (3, [.ref t0, .ref y0, .int (iI fo), .ref r1, .ref e1, .int (iI mm), .ref r2, .ref e2])), (r1, .inl (cJ, aL 20 fr1)), (e1, .inl (cI, aI 20 fe1)), (r2, .inl (cJ, aL 20 LR)), (e2, .inl (cI, aI 20 LE)), (y0, .inr (2, [.ref t0, .int (iI total), .ref ys, .ref yk, .ref yc, .ref yd, .ref yw, .ref yx, .ref yb, .ref yu])), (yb, .inl (cI, aI (6 * cap) gbe)), (yx, .inl (cJ, aL cap gwf)), (yd, .inl (cI, aI cap gcf)), (t0, .inr (1, [.int (iI steps), .int (iI choices), .int (iI bars), .ref hs, .ref hc, .ref hf, .ref hg, .ref hb, .ref he, .ref hm])), (hc, .inl (cI, aI 72 fco)), (hs, .inl (cI, aI 12 fsz))] 7 [(2, .int (iI x)), (0, .ref f0), (1, .int (iI ((d : Nat) : Int)))] [] := by
    intro nn7
    induction nn7 with
    | zero =>
      intro x mm LR LE kx kX hnn7
      exact absurd hnn7 (by omega)
    | succ nn7 ih7 =>
      intro x mm LR LE kx kX hnn7
      refine g_iload_n C 0 std_F_lengthenAll_7 rfl ?_
      refine g_aload_n C 1 std_F_lengthenAll_8 rfl ?_
      refine g_get C (st_sub sti_F) 0 rfl rfl 2 (by decide) (List.mem_cons_of_mem _ kw_1_131) rfl rfl std_F_lengthenAll_9 ?_
      refine g_icmp_ge (tgt := 49) C std_F_lengthenAll_12 (by decide) ⟨by omega, by omega⟩ ⟨by omega, by omega⟩ (fun c1 => ?_) (fun c1 => ?_)
      · refine g_aload_n C 1 std_F_lengthenAll_49 rfl ?_
        refine g_get C (st_sub sti_F) 0 rfl rfl 3 (by decide) (List.mem_cons_of_mem _ kw_1_133) rfl rfl std_F_lengthenAll_50 ?_
        refine g_astore_n C (lv' := [(2, .ref r1), (0, .ref f0), (1, .int (iI ((d : Nat) : Int)))]) std_F_lengthenAll_53 (by decide) rfl ?_
        refine g_aload_n C 1 std_F_lengthenAll_54 rfl ?_
        refine g_get C (st_sub sti_F) 0 rfl rfl 4 (by decide) (List.mem_cons_of_mem _ kw_1_134) rfl rfl std_F_lengthenAll_55 ?_
        refine g_astore_n C (lv' := [(3, .ref e1), (2, .ref r1), (0, .ref f0), (1, .int (iI ((d : Nat) : Int)))]) std_F_lengthenAll_58 (by decide) rfl ?_
        refine g_aload_n C 2 std_F_lengthenAll_59 rfl ?_
        refine g_aload_n C 2 std_F_lengthenAll_60 rfl ?_
        refine g_get C (st_sub sti_F) 0 rfl rfl 6 (by decide) (List.mem_cons_of_mem _ kw_1_136) rfl rfl std_F_lengthenAll_61 ?_
        refine g_put C (ws' := [(f0, .inr (3, [.ref t0, .ref y0, .int (iI fo), .ref r2, .ref e1, .int (iI mm), .ref r2, .ref e2])), (r1, .inl (cJ, aL 20 fr1)), (e1, .inl (cI, aI 20 fe1)), (r2, .inl (cJ, aL 20 LR)), (e2, .inl (cI, aI 20 LE)), (y0, .inr (2, [.ref t0, .int (iI total), .ref ys, .ref yk, .ref yc, .ref yd, .ref yw, .ref yx, .ref yb, .ref yu])), (yb, .inl (cI, aI (6 * cap) gbe)), (yx, .inl (cJ, aL cap gwf)), (yd, .inl (cI, aI cap gcf)), (t0, .inr (1, [.int (iI steps), .int (iI choices), .int (iI bars), .ref hs, .ref hc, .ref hf, .ref hg, .ref hb, .ref he, .ref hm])), (hc, .inl (cI, aI 72 fco)), (hs, .inl (cI, aI 12 fsz))]) (st_sub sti_F) stt_F sto_F stn_F 0 rfl rfl 3 (by decide) (List.mem_cons_of_mem _ kw_1_133) rfl rfl rfl rfl (Nat.le_of_ble_eq_true rfl) std_F_lengthenAll_64 rfl ?_
        refine g_aload_n C 2 std_F_lengthenAll_67 rfl ?_
        refine g_aload_n C 2 std_F_lengthenAll_68 rfl ?_
        refine g_get C (st_sub sti_F) 0 rfl rfl 7 (by decide) (List.mem_cons_of_mem _ kw_1_137) rfl rfl std_F_lengthenAll_69 ?_
        refine g_put C (ws' := [(f0, .inr (3, [.ref t0, .ref y0, .int (iI fo), .ref r2, .ref e2, .int (iI mm), .ref r2, .ref e2])), (r1, .inl (cJ, aL 20 fr1)), (e1, .inl (cI, aI 20 fe1)), (r2, .inl (cJ, aL 20 LR)), (e2, .inl (cI, aI 20 LE)), (y0, .inr (2, [.ref t0, .int (iI total), .ref ys, .ref yk, .ref yc, .ref yd, .ref yw, .ref yx, .ref yb, .ref yu])), (yb, .inl (cI, aI (6 * cap) gbe)), (yx, .inl (cJ, aL cap gwf)), (yd, .inl (cI, aI cap gcf)), (t0, .inr (1, [.int (iI steps), .int (iI choices), .int (iI bars), .ref hs, .ref hc, .ref hf, .ref hg, .ref hb, .ref he, .ref hm])), (hc, .inl (cI, aI 72 fco)), (hs, .inl (cI, aI 12 fsz))]) (st_sub sti_F) stt_F sto_F stn_F 0 rfl rfl 4 (by decide) (List.mem_cons_of_mem _ kw_1_134) rfl rfl rfl rfl (Nat.le_of_ble_eq_true rfl) std_F_lengthenAll_72 rfl ?_
        refine g_aload_n C 2 std_F_lengthenAll_75 rfl ?_
        refine g_aload_n C 2 std_F_lengthenAll_76 rfl ?_
        refine g_get C (st_sub sti_F) 0 rfl rfl 5 (by decide) (List.mem_cons_of_mem _ kw_1_135) rfl rfl std_F_lengthenAll_77 ?_
        refine g_put C (ws' := [(f0, .inr (3, [.ref t0, .ref y0, .int (iI mm), .ref r2, .ref e2, .int (iI mm), .ref r2, .ref e2])), (r1, .inl (cJ, aL 20 fr1)), (e1, .inl (cI, aI 20 fe1)), (r2, .inl (cJ, aL 20 LR)), (e2, .inl (cI, aI 20 LE)), (y0, .inr (2, [.ref t0, .int (iI total), .ref ys, .ref yk, .ref yc, .ref yd, .ref yw, .ref yx, .ref yb, .ref yu])), (yb, .inl (cI, aI (6 * cap) gbe)), (yx, .inl (cJ, aL cap gwf)), (yd, .inl (cI, aI cap gcf)), (t0, .inr (1, [.int (iI steps), .int (iI choices), .int (iI bars), .ref hs, .ref hc, .ref hf, .ref hg, .ref hb, .ref he, .ref hm])), (hc, .inl (cI, aI 72 fco)), (hs, .inl (cI, aI 12 fsz))]) (st_sub sti_F) stt_F sto_F stn_F 0 rfl rfl 2 (by decide) (List.mem_cons_of_mem _ kw_1_131) rfl rfl rfl rfl (Nat.le_of_ble_eq_true rfl) std_F_lengthenAll_80 rfl ?_
        refine g_aload_n C 2 std_F_lengthenAll_83 rfl ?_
        refine g_aload_n C 1 std_F_lengthenAll_84 rfl ?_
        refine g_put C (ws' := [(f0, .inr (3, [.ref t0, .ref y0, .int (iI mm), .ref r2, .ref e2, .int (iI mm), .ref r1, .ref e2])), (r1, .inl (cJ, aL 20 fr1)), (e1, .inl (cI, aI 20 fe1)), (r2, .inl (cJ, aL 20 LR)), (e2, .inl (cI, aI 20 LE)), (y0, .inr (2, [.ref t0, .int (iI total), .ref ys, .ref yk, .ref yc, .ref yd, .ref yw, .ref yx, .ref yb, .ref yu])), (yb, .inl (cI, aI (6 * cap) gbe)), (yx, .inl (cJ, aL cap gwf)), (yd, .inl (cI, aI cap gcf)), (t0, .inr (1, [.int (iI steps), .int (iI choices), .int (iI bars), .ref hs, .ref hc, .ref hf, .ref hg, .ref hb, .ref he, .ref hm])), (hc, .inl (cI, aI 72 fco)), (hs, .inl (cI, aI 12 fsz))]) (st_sub sti_F) stt_F sto_F stn_F 0 rfl rfl 6 (by decide) (List.mem_cons_of_mem _ kw_1_136) rfl rfl rfl rfl (Nat.le_of_ble_eq_true rfl) std_F_lengthenAll_85 rfl ?_
        refine g_aload_n C 2 std_F_lengthenAll_88 rfl ?_
        refine g_aload_n C 0 std_F_lengthenAll_89 rfl ?_
        refine g_put C (ws' := [(f0, .inr (3, [.ref t0, .ref y0, .int (iI mm), .ref r2, .ref e2, .int (iI mm), .ref r1, .ref e1])), (r1, .inl (cJ, aL 20 fr1)), (e1, .inl (cI, aI 20 fe1)), (r2, .inl (cJ, aL 20 LR)), (e2, .inl (cI, aI 20 LE)), (y0, .inr (2, [.ref t0, .int (iI total), .ref ys, .ref yk, .ref yc, .ref yd, .ref yw, .ref yx, .ref yb, .ref yu])), (yb, .inl (cI, aI (6 * cap) gbe)), (yx, .inl (cJ, aL cap gwf)), (yd, .inl (cI, aI cap gcf)), (t0, .inr (1, [.int (iI steps), .int (iI choices), .int (iI bars), .ref hs, .ref hc, .ref hf, .ref hg, .ref hb, .ref he, .ref hm])), (hc, .inl (cI, aI 72 fco)), (hs, .inl (cI, aI 12 fsz))]) (st_sub sti_F) stt_F sto_F stn_F 0 rfl rfl 7 (by decide) (List.mem_cons_of_mem _ kw_1_137) rfl rfl rfl rfl (Nat.le_of_ble_eq_true rfl) std_F_lengthenAll_90 rfl ?_
        exact hret _ _ (LR, LE, mm) (fs_next kT kn kd kLS kB kF (by rw [show fo = x by omega]; exact kX)) std_F_lengthenAll_93
      · obtain ⟨hr_, hk_, hg_, hp1_, hp2_, hp3_, hp4_⟩ := kF.2.1 x (by omega) (by omega)
        have hBx := kB d (by omega) (fe1 x) hp3_.1 hp3_.2
        have hLd := kLS.1 d (by omega)
        have hqe := kgst (((d : Nat) : Int) + 1) (by omega) (by omega)
        have hqs := kgst ((d : Nat) : Int) (by omega) (by omega)
        have hqt := kgst (((d : Nat) : Int) + 2) (by omega) (by omega)
        have hBn : BK fsz fco ffu fsu fbb fmo fle n gk gwf gcf (d + 1) (gst (((d : Nat) : Int) + 1)) (gst (((d : Nat) : Int) + 2)) := by have h9 := kB (d + 1) (by omega); rw [show (((d + 1 : Nat) : Int)) = (d : Int) + 1 by omega, show (d : Int) + 1 + 1 = (d : Int) + 2 by omega] at h9; exact h9
        refine g_iconst C std_F_lengthenAll_15 ?_
        refine g_istore_n C (lv' := [(3, .int (iI 0)), (2, .int (iI x)), (0, .ref f0), (1, .int (iI ((d : Nat) : Int)))]) std_F_lengthenAll_16 (by decide) rfl ?_
        have L17 : ∀ (nn17 : Nat) (y : Int) (mm : Int) (LR : Int → Int) (LE : Int → Int), (0 ≤ y ∧ y ≤ fsz ((d : Nat) : Int)) → FS (XR fco gbe gwf gcf fr1 fe1 ((d : Nat) : Int) (fsz ((d : Nat) : Int)) x y) mm LR LE → (fsz ((d : Nat) : Int) - y) < (nn17 : Int) → G p l e ({ frames := 2, cells := 0, slots := 0, locals := 52 } : Room) s m ([.ref f0, .int (iI ((d : Nat) : Int))] : List Value).toArray below meth c (dC, dI) stCl 4 A 0 0 Q [(f0, .inr (3, [.ref t0, .ref y0, .int (iI fo), .ref r1, .ref e1, .int (iI mm), .ref r2, .ref e2])), (r1, .inl (cJ, aL 20 fr1)), (e1, .inl (cI, aI 20 fe1)), (r2, .inl (cJ, aL 20 LR)), (e2, .inl (cI, aI 20 LE)), (y0, .inr (2, [.ref t0, .int (iI total), .ref ys, .ref yk, .ref yc, .ref yd, .ref yw, .ref yx, .ref yb, .ref yu])), (yb, .inl (cI, aI (6 * cap) gbe)), (yx, .inl (cJ, aL cap gwf)), (yd, .inl (cI, aI cap gcf)), (t0, .inr (1, [.int (iI steps), .int (iI choices), .int (iI bars), .ref hs, .ref hc, .ref hf, .ref hg, .ref hb, .ref he, .ref hm])), (hc, .inl (cI, aI 72 fco)), (hs, .inl (cI, aI 12 fsz))] 17 [(3, .int (iI y)), (2, .int (iI x)), (0, .ref f0), (1, .int (iI ((d : Nat) : Int)))] [] := by
          intro nn17
          induction nn17 with
          | zero =>
            intro y mm LR LE ky kY hnn17
            exact absurd hnn17 (by omega)
          | succ nn17 ih17 =>
            intro y mm LR LE ky kY hnn17
            refine g_iload_n C 0 std_F_lengthenAll_17 rfl ?_
            refine g_aload_n C 2 std_F_lengthenAll_18 rfl ?_
            refine g_get C (st_sub sti_F) 0 rfl rfl 0 (by decide) (List.mem_cons_of_mem _ kw_1_129) rfl rfl std_F_lengthenAll_19 ?_
            refine g_get C (st_sub sti_T) 9 rfl rfl 3 (by decide) (List.mem_cons_of_mem _ kw_1_35) rfl rfl std_F_lengthenAll_22 ?_
            refine g_iload_n C 3 std_F_lengthenAll_25 rfl ?_
            refine g_iald C 11 0 rfl rfl (by omega) (by omega) (by omega) std_F_lengthenAll_26 ?_
            refine g_icmp_ge (tgt := 43) C std_F_lengthenAll_27 (by decide) ⟨by omega, by omega⟩ ⟨by omega, by omega⟩ (fun c2 => ?_) (fun c2 => ?_)
            · refine g_iinc C (lv' := [(2, .int (iI (x + 1))), (3, .int (iI y)), (0, .ref f0), (1, .int (iI ((d : Nat) : Int)))]) 1 std_F_lengthenAll_43 rfl (by decide) rfl ?_
              refine g_goto (tgt := 7) C std_F_lengthenAll_46 (by decide) ?_
              refine g_lv (lv' := [(2, .int (iI (x + 1))), (0, .ref f0), (1, .int (iI ((d : Nat) : Int)))]) [0, 2, 3] rfl ?_
              exact ih7 (x + 1) mm LR LE (by omega) (fs_congr kY (xr_e (by omega) (by omega))) (by omega)
            · refine g_aload_n C 2 std_F_lengthenAll_30 rfl ?_
              refine g_iload_n C 1 std_F_lengthenAll_31 rfl ?_
              refine g_iload_n C 3 std_F_lengthenAll_32 rfl ?_
              refine g_iload_n C 0 std_F_lengthenAll_33 rfl ?_
              refine g_V_v (wc := [(f0, .inr (3, [.ref t0, .ref y0, .int (iI fo), .ref r1, .ref e1, .int (iI mm), .ref r2, .ref e2])), (r1, .inl (cJ, aL 20 fr1)), (e1, .inl (cI, aI 20 fe1)), (r2, .inl (cJ, aL 20 LR)), (e2, .inl (cI, aI 20 LE)), (y0, .inr (2, [.ref t0, .int (iI total), .ref ys, .ref yk, .ref yc, .ref yd, .ref yw, .ref yx, .ref yb, .ref yu])), (yb, .inl (cI, aI (6 * cap) gbe)), (yx, .inl (cJ, aL cap gwf)), (yd, .inl (cI, aI cap gcf)), (t0, .inr (1, [.int (iI steps), .int (iI choices), .int (iI bars), .ref hs, .ref hc, .ref hf, .ref hg, .ref hb, .ref he, .ref hm])), (hc, .inl (cI, aI 72 fco))]) (wr := [(hs, .inl (cI, aI 12 fsz))]) (rest := []) C (c_lengthen l dC dI cI cJ cZ f0 r1 e1 r2 e2 fo mm y0 ys yk yc yd yw yx yb yu total t0 hs hc hf hg hb he hm steps choices bars cap fr1 fe1 LR LE gbe gwf gcf fco (XR fco gbe gwf gcf fr1 fe1 ((d : Nat) : Int) (fsz ((d : Nat) : Int)) x y) x ((d : Nat) : Int) y (kcap) (by omega) (by omega) (by omega) (by omega) (bk_be kT (by omega) kn (kLS.2.1 d kd) hBn (by omega) (by omega) (by omega) hp3_.1 hp3_.2 y (by omega) (by omega)) (hBx.2.2) (kT.2.1) (kY) (fun hq => xr_ne kT kn kd kLS kB kF ⟨by omega, by omega⟩ ⟨by omega, by omega⟩ kY hq) (xr_rng kT kn kd kLS kB kF ⟨by omega, by omega⟩ (by omega) kY) (fun hq => pc_rng kT kn (by omega) (row_pc kT kn kd kLS kB kF ⟨by omega, by omega⟩ ⟨by omega, by omega⟩ hq))) (st_cV C kw_2_133 kw_2_130 kw_1_4 kw_2_132 kw_0_8 sth_F_lengthen ⟨Nat.le_of_ble_eq_true rfl, Nat.le_of_ble_eq_true rfl⟩) 0 rfl rfl rfl rfl (Nat.le_of_ble_eq_true rfl) std_F_lengthenAll_34 ⟨Nat.le_of_ble_eq_true rfl, Nat.le_of_ble_eq_true rfl⟩ [0, 1, 2, 3, 4, 5, 6, 7, 8, 9, 10] [11] rfl rfl rfl rfl (by decide) (fun u4 h5 => ?_)
              obtain ⟨LR6, LE7, m8⟩ := u4
              dsimp only at h5
              refine g_ws (ws' := [(hs, .inl (cI, aI 12 fsz)), (f0, .inr (3, [.ref t0, .ref y0, .int (iI fo), .ref r1, .ref e1, .int (iI m8), .ref r2, .ref e2])), (r1, .inl (cJ, aL 20 fr1)), (e1, .inl (cI, aI 20 fe1)), (r2, .inl (cJ, aL 20 LR6)), (e2, .inl (cI, aI 20 LE7)), (y0, .inr (2, [.ref t0, .int (iI total), .ref ys, .ref yk, .ref yc, .ref yd, .ref yw, .ref yx, .ref yb, .ref yu])), (yb, .inl (cI, aI (6 * cap) gbe)), (yx, .inl (cJ, aL cap gwf)), (yd, .inl (cI, aI cap gcf)), (t0, .inr (1, [.int (iI steps), .int (iI choices), .int (iI bars), .ref hs, .ref hc, .ref hf, .ref hg, .ref hb, .ref he, .ref hm])), (hc, .inl (cI, aI 72 fco))]) rfl ?_
              refine g_iinc C (lv' := [(3, .int (iI (y + 1))), (2, .int (iI x)), (0, .ref f0), (1, .int (iI ((d : Nat) : Int)))]) 0 std_F_lengthenAll_37 rfl (by decide) rfl ?_
              refine g_goto (tgt := 17) C std_F_lengthenAll_40 (by decide) ?_
              refine g_sub (ws' := [(f0, .inr (3, [.ref t0, .ref y0, .int (iI fo), .ref r1, .ref e1, .int (iI m8), .ref r2, .ref e2])), (r1, .inl (cJ, aL 20 fr1)), (e1, .inl (cI, aI 20 fe1)), (r2, .inl (cJ, aL 20 LR6)), (e2, .inl (cI, aI 20 LE7)), (y0, .inr (2, [.ref t0, .int (iI total), .ref ys, .ref yk, .ref yc, .ref yd, .ref yw, .ref yx, .ref yb, .ref yu])), (yb, .inl (cI, aI (6 * cap) gbe)), (yx, .inl (cJ, aL cap gwf)), (yd, .inl (cI, aI cap gcf)), (t0, .inr (1, [.int (iI steps), .int (iI choices), .int (iI bars), .ref hs, .ref hc, .ref hf, .ref hg, .ref hb, .ref he, .ref hm])), (hc, .inl (cI, aI 72 fco)), (hs, .inl (cI, aI 12 fsz))]) [1, 2, 3, 4, 5, 6, 7, 8, 9, 10, 11, 0] rfl rfl ?_
              refine g_wide (k := 0) (n := 0) (Nat.le_of_ble_eq_true rfl) (Nat.le_of_ble_eq_true rfl) ?_
              exact ih17 (y + 1) m8 LR6 LE7 (by omega) (fs_congr h5 (xr_s (by omega) (by omega))) (by omega)
        obtain ⟨nn0, hnn0⟩ : ∃ nn0 : Nat, (fsz ((d : Nat) : Int) - 0) < (nn0 : Int) := z_nat _
        exact L17 nn0 0 mm LR LE (by omega) (kX) hnn0
  obtain ⟨nn0, hnn0⟩ : ∃ nn0 : Nat, (fo - 0) < (nn0 : Int) := z_nat _
  exact L7 nn0 0 0 fr2 fe2 (by omega) (fs_0 xr_0) hnn0

