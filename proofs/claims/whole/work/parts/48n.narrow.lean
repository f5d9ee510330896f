/-! StateTables.narrow, narrowed -/
abbrev sty_S_narrow : MethodName := ⟨"StateTables", "narrow", "(IZ)I"⟩
abbrev stc_S_narrow : ByteArray := prog_1_method_17_code
theorem sth_S_narrow : (sty_S_narrow).cls ≠ "java/lang/invoke/MethodHandle" ∧ (sty_S_narrow).cls ≠ "java/lang/invoke/VarHandle" ∧ (parseMethodDescriptor (sty_S_narrow).desc).map (fun d => d.parameters.length) = some 2 := by decide +kernel
theorem std_S_narrow_0 : decode stc_S_narrow 0 = .ok (.iload_n 1, 1) := by decide +kernel
theorem std_S_narrow_1 : decode stc_S_narrow 1 = .ok (.iconst 1, 1) := by decide +kernel
theorem std_S_narrow_2 : decode stc_S_narrow 2 = .ok (.if_icmp .lt 9, 3) := by decide +kernel
theorem std_S_narrow_11 : decode stc_S_narrow 11 = .ok (.ldc 64, 2) := by decide +kernel
theorem std_S_narrow_13 : decode stc_S_narrow 13 = .ok (.ireturn, 1) := by decide +kernel
theorem std_S_narrow_5 : decode stc_S_narrow 5 = .ok (.iload_n 1, 1) := by decide +kernel
theorem std_S_narrow_6 : decode stc_S_narrow 6 = .ok (.bipush 60, 2) := by decide +kernel
theorem std_S_narrow_8 : decode stc_S_narrow 8 = .ok (.if_icmp .le 6, 3) := by decide +kernel
theorem std_S_narrow_14 : decode stc_S_narrow 14 = .ok (.aload_n 0, 1) := by decide +kernel
theorem std_S_narrow_15 : decode stc_S_narrow 15 = .ok (.getfield 37, 3) := by decide +kernel
theorem std_S_narrow_18 : decode stc_S_narrow 18 = .ok (.iload_n 1, 1) := by decide +kernel
theorem std_S_narrow_19 : decode stc_S_narrow 19 = .ok (.iload_n 2, 1) := by decide +kernel
theorem std_S_narrow_20 : decode stc_S_narrow 20 = .ok (.invokevirtual 161, 3) := by decide +kernel
theorem kw_2_229 : Cond.code sty_N_findBound stc_N_findBound 4 (some .int) ∈ stGW := st_t2 (List.mem_of_getElem? (i := 229) (by decide +kernel)) (by decide +kernel)
theorem kw_2_226 : Cond.methodLink "StateTables" 161 (sty_N_findBound) ∈ stGW := st_t2 (List.mem_of_getElem? (i := 226) (by decide +kernel)) (by decide +kernel)
theorem kw_2_227 : Cond.instanceMethod (sty_N_findBound) ∈ stGW := st_t2 (List.mem_of_getElem? (i := 227) (by decide +kernel)) (by decide +kernel)
theorem kw_2_228 : Cond.selects "StateTables$NarrowLayers" (sty_N_findBound) (sty_N_findBound) ∈ stGW := st_t2 (List.mem_of_getElem? (i := 228) (by decide +kernel)) (by decide +kernel)
theorem std_S_narrow_23 : decode stc_S_narrow 23 = .ok (.ireturn, 1) := by decide +kernel
set_option maxHeartbeats 4000000 in
set_option maxRecDepth 100000 in
theorem c_narrow (l : Launch) (dC : Nat → ClassId) (dI : Nat → Nat → Nat) (cI cJ cZ : ClassId) (s0 : Nat) (n0 : Nat) (H : Prop) (v1 : Nat) (v2 : Nat) (y0 : Nat) (f0 : Nat) (lo : Int) (wi : Int) (cu : Int) (si : Int) (nx : Int) (t0 : Nat) (hs : Nat) (hc : Nat) (hf : Nat) (hg : Nat) (hb : Nat) (he : Nat) (hm : Nat) (choices : Int) (bars : Int) (n : Nat) (fm : Int → Int) (fn : Int → Int) (fle : Int → Int) (fsz : Int → Int) (fco : Int → Int) (ffu : Int → Int) (fsu : Int → Int) (fbb : Int → Int) (fmo : Int → Int) (ww : Int) (lq : Prop) (kn : n ≤ 12) (kT : TB fsz fco ffu fsu fbb fmo) (kle : ∀ j, 0 ≤ j → j < 2 → 0 ≤ fle j ∧ fle j ≤ 40) (kw : rI ww) : ∀ sz, Met l sty_S_narrow (Cond.code sty_S_narrow stc_S_narrow 3 (some .int) :: stGW) ({ frames := 5, cells := 0, slots := 0, locals := 137 } : Room) (va_Pc [.ref s0, .int (iI ww), .int (iI (bI lq))] (zPre (dC, dI) stCl [(cI, .int), (cJ, .long), (cZ, .boolean)] st_nw [(s0, .inr (0, [.ref t0, .ref y0, .ref f0, .ref n0, .int (iI (bI H))])), (n0, .inr (4, [.ref t0, .int (iI lo), .int (iI wi), .int (iI cu), .int (iI si), .ref v1, .int (iI nx), .ref v2])), (v1, .inl (cJ, aL 360 fm)), (v2, .inl (cJ, aL 360 fn)), (t0, .inr (1, [.int (iI ((n : Nat) : Int)), .int (iI choices), .int (iI bars), .ref hs, .ref hc, .ref hf, .ref hg, .ref hb, .ref he, .ref hm])), (hs, .inl (cI, aI 12 fsz)), (hc, .inl (cI, aI 72 fco)), (hf, .inl (cI, aI 72 ffu)), (hg, .inl (cI, aI 72 fsu)), (hb, .inl (cI, aI 72 fbb)), (he, .inl (cI, aI 2 fle)), (hm, .inl (cI, aI 2 fmo))] sz)) (va_Qi (fun (r : Int32) (u : Nat × Nat × (Int → Int) × (Int → Int) × Int × Int × Int × Int × Int × Int) => ((1 ≤ ww ∧ ww ≤ 60) ∧ r = iI u.2.2.2.2.2.2.2.2.2 ∧ WL fsz fco ffu fsu fbb fmo lq ww n u.2.2.2.2.2.2.2.1 u.2.2.1 u.2.2.2.2.1 u.2.2.2.2.2.1 u.2.2.2.2.2.2.1 ∧ WB fle u.2.2.1 u.2.2.2.2.2.2.2.1 u.2.2.2.2.2.2.2.2.2) ∨ (¬ (1 ≤ ww ∧ ww ≤ 60) ∧ r = iI (-2000000) ∧ u = (v1, v2, fm, fn, lo, wi, cu, si, nx, (-2000000)))) (zPost (dC, dI) stCl [(cI, .int), (cJ, .long), (cZ, .boolean)] [(s0, .inr (0, [.ref t0, .ref y0, .ref f0, .ref n0, .int (iI (bI H))])), (n0, .inr (4, [.ref t0, .int (iI lo), .int (iI wi), .int (iI cu), .int (iI si), .ref v1, .int (iI nx), .ref v2])), (v1, .inl (cJ, aL 360 fm)), (v2, .inl (cJ, aL 360 fn)), (t0, .inr (1, [.int (iI ((n : Nat) : Int)), .int (iI choices), .int (iI bars), .ref hs, .ref hc, .ref hf, .ref hg, .ref hb, .ref he, .ref hm])), (hs, .inl (cI, aI 12 fsz)), (hc, .inl (cI, aI 72 fco)), (hf, .inl (cI, aI 72 ffu)), (hg, .inl (cI, aI 72 fsu)), (hb, .inl (cI, aI 72 fbb)), (he, .inl (cI, aI 2 fle)), (hm, .inl (cI, aI 2 fmo))] sz (fun u : Nat × Nat × (Int → Int) × (Int → Int) × Int × Int × Int × Int × Int × Int => [(s0, .inr (0, [.ref t0, .ref y0, .ref f0, .ref n0, .int (iI (bI H))])), (n0, .inr (4, [.ref t0, .int (iI (u.2.2.2.2.1)), .int (iI (u.2.2.2.2.2.1)), .int (iI (u.2.2.2.2.2.2.1)), .int (iI (u.2.2.2.2.2.2.2.1)), .ref u.1, .int (iI (u.2.2.2.2.2.2.2.2.1)), .ref u.2.1])), (u.1, .inl (cJ, aL 360 (u.2.2.1))), (u.2.1, .inl (cJ, aL 360 (u.2.2.2.1))), (t0, .inr (1, [.int (iI ((n : Nat) : Int)), .int (iI choices), .int (iI bars), .ref hs, .ref hc, .ref hf, .ref hg, .ref hb, .ref he, .ref hm])), (hs, .inl (cI, aI 12 fsz)), (hc, .inl (cI, aI 72 fco)), (hf, .inl (cI, aI 72 ffu)), (hg, .inl (cI, aI 72 fsu)), (hb, .inl (cI, aI 72 fbb)), (he, .inl (cI, aI 2 fle)), (hm, .inl (cI, aI 2 fmo))])) (va_A [(s0, .inr (0, [.ref t0, .ref y0, .ref f0, .ref n0, .int (iI (bI H))])), (n0, .inr (4, [.ref t0, .int (iI lo), .int (iI wi), .int (iI cu), .int (iI si), .ref v1, .int (iI nx), .ref v2])), (v1, .inl (cJ, aL 360 fm)), (v2, .inl (cJ, aL 360 fn)), (t0, .inr (1, [.int (iI ((n : Nat) : Int)), .int (iI choices), .int (iI bars), .ref hs, .ref hc, .ref hf, .ref hg, .ref hb, .ref he, .ref hm])), (hs, .inl (cI, aI 12 fsz)), (hc, .inl (cI, aI 72 fco)), (hf, .inl (cI, aI 72 ffu)), (hg, .inl (cI, aI 72 fsu)), (hb, .inl (cI, aI 72 fbb)), (he, .inl (cI, aI 2 fle)), (hm, .inl (cI, aI 2 fmo))] sz)) 0 0 (va_A [(s0, .inr (0, [.ref t0, .ref y0, .ref f0, .ref n0, .int (iI (bI H))])), (n0, .inr (4, [.ref t0, .int (iI lo), .int (iI wi), .int (iI cu), .int (iI si), .ref v1, .int (iI nx), .ref v2])), (v1, .inl (cJ, aL 360 fm)), (v2, .inl (cJ, aL 360 fn)), (t0, .inr (1, [.int (iI ((n : Nat) : Int)), .int (iI choices), .int (iI bars), .ref hs, .ref hc, .ref hf, .ref hg, .ref hb, .ref he, .ref hm])), (hs, .inl (cI, aI 12 fsz)), (hc, .inl (cI, aI 72 fco)), (hf, .inl (cI, aI 72 ffu)), (hg, .inl (cI, aI 72 fsu)), (hb, .inl (cI, aI 72 fbb)), (he, .inl (cI, aI 2 fle)), (hm, .inl (cI, aI 2 fmo))] sz) := by
  refine met_i (by decide) rfl (Nat.le_of_ble_eq_true rfl) ?_
  intro p e s m below meth c A Q C hmn hret
  refine g_iload_n C 1 std_S_narrow_0 rfl ?_
  refine g_iconst C std_S_narrow_1 ?_
  refine g_icmp_lt (tgt := 11) C std_S_narrow_2 (by decide) ⟨by omega, by omega⟩ ⟨by omega, by omega⟩ (fun c1 => ?_) (fun c1 => ?_)
  · refine g_ldc C (z := (-2000000)) (List.mem_cons_of_mem _ kw_1_228) (by decide) std_S_narrow_11 ?_
    exact hret _ _ _ (v1, v2, fm, fn, lo, wi, cu, si, nx, (-2000000)) (Or.inr ⟨by omega, rfl, rfl⟩) std_S_narrow_13
  · refine g_iload_n C 1 std_S_narrow_5 rfl ?_
    refine g_bipush C std_S_narrow_6 (by decide) ?_
    refine g_icmp_le (tgt := 14) C std_S_narrow_8 (by decide) ⟨by omega, by omega⟩ ⟨by omega, by omega⟩ (fun c2 => ?_) (fun c2 => ?_)
    · refine g_aload_n C 0 std_S_narrow_14 rfl ?_
      refine g_get C (st_sub sti_S) 0 rfl rfl 3 (by decide) (List.mem_cons_of_mem _ kw_1_192) rfl rfl std_S_narrow_15 ?_
      refine g_iload_n C 1 std_S_narrow_18 rfl ?_
      refine g_iload_n C 2 std_S_narrow_19 rfl ?_
      refine g_V_i (wc := [(n0, .inr (4, [.ref t0, .int (iI lo), .int (iI wi), .int (iI cu), .int (iI si), .ref v1, .int (iI nx), .ref v2])), (v1, .inl (cJ, aL 360 fm)), (v2, .inl (cJ, aL 360 fn)), (t0, .inr (1, [.int (iI ((n : Nat) : Int)), .int (iI choices), .int (iI bars), .ref hs, .ref hc, .ref hf, .ref hg, .ref hb, .ref he, .ref hm])), (hs, .inl (cI, aI 12 fsz)), (hc, .inl (cI, aI 72 fco)), (hf, .inl (cI, aI 72 ffu)), (hg, .inl (cI, aI 72 fsu)), (hb, .inl (cI, aI 72 fbb)), (he, .inl (cI, aI 2 fle)), (hm, .inl (cI, aI 2 fmo))]) (wr := [(s0, .inr (0, [.ref t0, .ref y0, .ref f0, .ref n0, .int (iI (bI H))]))]) (rest := []) C (c_findBound l dC dI cI cJ cZ n0 v1 v2 lo wi cu si nx t0 hs hc hf hg hb he hm choices bars n fm fn fle fsz fco ffu fsu fbb fmo ww lq (kn) (kT) (kle) (by omega)) (st_cV C kw_2_229 kw_2_226 kw_1_5 kw_2_227 kw_2_228 sth_N_findBound ⟨Nat.le_of_ble_eq_true rfl, Nat.le_of_ble_eq_true rfl⟩) 0 rfl rfl rfl rfl (Nat.le_of_ble_eq_true rfl) std_S_narrow_20 ⟨Nat.le_of_ble_eq_true rfl, Nat.le_of_ble_eq_true rfl⟩ [1, 2, 3, 4, 5, 6, 7, 8, 9, 10, 11] [0] rfl rfl rfl rfl (by decide) (fun r3 u4 h5 => ?_)
      obtain ⟨q6, q7, FR8, GR9, m10, m11, m12, m13, m14, m15⟩ := u4
      dsimp only at h5
      obtain ⟨h5r, h5p⟩ := h5
      subst h5r
      refine g_ws (ws' := [(s0, .inr (0, [.ref t0, .ref y0, .ref f0, .ref n0, .int (iI (bI H))])), (n0, .inr (4, [.ref t0, .int (iI m10), .int (iI m11), .int (iI m12), .int (iI m13), .ref q6, .int (iI m14), .ref q7])), (q6, .inl (cJ, aL 360 FR8)), (q7, .inl (cJ, aL 360 GR9)), (t0, .inr (1, [.int (iI ((n : Nat) : Int)), .int (iI choices), .int (iI bars), .ref hs, .ref hc, .ref hf, .ref hg, .ref hb, .ref he, .ref hm])), (hs, .inl (cI, aI 12 fsz)), (hc, .inl (cI, aI 72 fco)), (hf, .inl (cI, aI 72 ffu)), (hg, .inl (cI, aI 72 fsu)), (hb, .inl (cI, aI 72 fbb)), (he, .inl (cI, aI 2 fle)), (hm, .inl (cI, aI 2 fmo))]) rfl ?_
      refine g_wide (k := 0) (n := 0) (Nat.le_of_ble_eq_true rfl) (Nat.le_of_ble_eq_true rfl) ?_
      exact hret _ _ _ (q6, q7, FR8, GR9, m10, m11, m12, m13, m14, m15) (Or.inl ⟨by omega, rfl, h5p⟩) std_S_narrow_23
    · refine g_ldc C (z := (-2000000)) (List.mem_cons_of_mem _ kw_1_228) (by decide) std_S_narrow_11 ?_
      exact hret _ _ _ (v1, v2, fm, fn, lo, wi, cu, si, nx, (-2000000)) (Or.inr ⟨by omega, rfl, rfl⟩) std_S_narrow_13

abbrev sty_S_narrowed : MethodName := ⟨"StateTables", "narrowed", "(I)I"⟩
abbrev stc_S_narrowed : ByteArray := prog_1_method_18_code
theorem sth_S_narrowed : (sty_S_narrowed).cls ≠ "java/lang/invoke/MethodHandle" ∧ (sty_S_narrowed).cls ≠ "java/lang/invoke/VarHandle" ∧ (parseMethodDescriptor (sty_S_narrowed).desc).map (fun d => d.parameters.length) = some 1 := by decide +kernel
theorem std_S_narrowed_0 : decode stc_S_narrowed 0 = .ok (.iload_n 1, 1) := by decide +kernel
theorem std_S_narrowed_1 : decode stc_S_narrowed 1 = .ok (.tableswitch 51 0 2 #[27, 35, 43], 27) := by decide +kernel
theorem std_S_narrowed_28 : decode stc_S_narrowed 28 = .ok (.aload_n 0, 1) := by decide +kernel
theorem std_S_narrowed_29 : decode stc_S_narrowed 29 = .ok (.getfield 37, 3) := by decide +kernel
theorem std_S_narrowed_32 : decode stc_S_narrowed 32 = .ok (.getfield 165, 3) := by decide +kernel
theorem kw_1_163 : Cond.fieldLink "StateTables" 165 "StateTables$NarrowLayers" "lost" "I" ∈ stGW := st_t1 (List.mem_of_getElem? (i := 163) (by decide +kernel)) (by decide +kernel)
theorem std_S_narrowed_35 : decode stc_S_narrowed 35 = .ok (.ireturn, 1) := by decide +kernel
theorem std_S_narrowed_36 : decode stc_S_narrowed 36 = .ok (.aload_n 0, 1) := by decide +kernel
theorem std_S_narrowed_37 : decode stc_S_narrowed 37 = .ok (.getfield 37, 3) := by decide +kernel
theorem std_S_narrowed_40 : decode stc_S_narrowed 40 = .ok (.getfield 168, 3) := by decide +kernel
theorem kw_1_165 : Cond.fieldLink "StateTables" 168 "StateTables$NarrowLayers" "widest" "I" ∈ stGW := st_t1 (List.mem_of_getElem? (i := 165) (by decide +kernel)) (by decide +kernel)
theorem std_S_narrowed_43 : decode stc_S_narrowed 43 = .ok (.ireturn, 1) := by decide +kernel
theorem std_S_narrowed_44 : decode stc_S_narrowed 44 = .ok (.aload_n 0, 1) := by decide +kernel
theorem std_S_narrowed_45 : decode stc_S_narrowed 45 = .ok (.getfield 37, 3) := by decide +kernel
theorem std_S_narrowed_48 : decode stc_S_narrowed 48 = .ok (.getfield 171, 3) := by decide +kernel
theorem kw_1_167 : Cond.fieldLink "StateTables" 171 "StateTables$NarrowLayers" "cuts" "I" ∈ stGW := st_t1 (List.mem_of_getElem? (i := 167) (by decide +kernel)) (by decide +kernel)
theorem std_S_narrowed_51 : decode stc_S_narrowed 51 = .ok (.ireturn, 1) := by decide +kernel
theorem std_S_narrowed_52 : decode stc_S_narrowed 52 = .ok (.ldc 64, 2) := by decide +kernel
theorem std_S_narrowed_54 : decode stc_S_narrowed 54 = .ok (.ireturn, 1) := by decide +kernel
set_option maxHeartbeats 4000000 in
set_option maxRecDepth 100000 in
theorem c_narrowed (l : Launch) (dC : Nat → ClassId) (dI : Nat → Nat → Nat) (cI cJ cZ : ClassId) (s0 : Nat) (n0 : Nat) (H : Prop) (v1 : Nat) (v2 : Nat) (t0 : Nat) (y0 : Nat) (f0 : Nat) (lo : Int) (wi : Int) (cu : Int) (si : Int) (nx : Int) (k : Int) (kk : rI k) : ∀ sz, Met l sty_S_narrowed (Cond.code sty_S_narrowed stc_S_narrowed 2 (some .int) :: stGW) ({ frames := 0, cells := 0, slots := 0, locals := 0 } : Room) (va_Pc [.ref s0, .int (iI k)] (zPre (dC, dI) stCl [(cI, .int), (cJ, .long), (cZ, .boolean)] st_nw [(s0, .inr (0, [.ref t0, .ref y0, .ref f0, .ref n0, .int (iI (bI H))])), (n0, .inr (4, [.ref t0, .int (iI lo), .int (iI wi), .int (iI cu), .int (iI si), .ref v1, .int (iI nx), .ref v2]))] sz)) (va_Qi (fun (r : Int32) (_ : Unit) => r = iI (sel (k = 0) lo (sel (k = 1) wi (sel (k = 2) cu (-2000000))))) (zPost (dC, dI) stCl [(cI, .int), (cJ, .long), (cZ, .boolean)] [(s0, .inr (0, [.ref t0, .ref y0, .ref f0, .ref n0, .int (iI (bI H))])), (n0, .inr (4, [.ref t0, .int (iI lo), .int (iI wi), .int (iI cu), .int (iI si), .ref v1, .int (iI nx), .ref v2]))] sz (fun _ : Unit => [(s0, .inr (0, [.ref t0, .ref y0, .ref f0, .ref n0, .int (iI (bI H))])), (n0, .inr (4, [.ref t0, .int (iI lo), .int (iI wi), .int (iI cu), .int (iI si), .ref v1, .int (iI nx), .ref v2]))])) (va_A [(s0, .inr (0, [.ref t0, .ref y0, .ref f0, .ref n0, .int (iI (bI H))])), (n0, .inr (4, [.ref t0, .int (iI lo), .int (iI wi), .int (iI cu), .int (iI si), .ref v1, .int (iI nx), .ref v2]))] sz)) 0 0 (va_A [(s0, .inr (0, [.ref t0, .ref y0, .ref f0, .ref n0, .int (iI (bI H))])), (n0, .inr (4, [.ref t0, .int (iI lo), .int (iI wi), .int (iI cu), .int (iI si), .ref v1, .int (iI nx), .ref v2]))] sz) := by
  refine met_i (by decide) rfl (Nat.le_of_ble_eq_true rfl) ?_
  intro p e s m below meth c A Q C hmn hret
  refine g_iload_n C 1 std_S_narrowed_0 rfl ?_
  by_cases sw1 : k = 0
  · refine g_tin (tgt := 28) C std_S_narrowed_1 ⟨by omega, by omega⟩ (by omega) (by omega) (by rw [sw1]; rfl) (by decide) ?_
    refine g_aload_n C 0 std_S_narrowed_28 rfl ?_
    refine g_get C (st_sub sti_S) 0 rfl rfl 3 (by decide) (List.mem_cons_of_mem _ kw_1_192) rfl rfl std_S_narrowed_29 ?_
    refine g_get C (st_sub sti_N) 1 rfl rfl 1 (by decide) (List.mem_cons_of_mem _ kw_1_163) rfl rfl std_S_narrowed_32 ?_
    exact hret _ _ _ () (by rw [sel_t (by omega)]) std_S_narrowed_35
  by_cases sw2 : k = 1
  · refine g_tin (tgt := 36) C std_S_narrowed_1 ⟨by omega, by omega⟩ (by omega) (by omega) (by rw [sw2]; rfl) (by decide) ?_
    refine g_aload_n C 0 std_S_narrowed_36 rfl ?_
    refine g_get C (st_sub sti_S) 0 rfl rfl 3 (by decide) (List.mem_cons_of_mem _ kw_1_192) rfl rfl std_S_narrowed_37 ?_
    refine g_get C (st_sub sti_N) 1 rfl rfl 2 (by decide) (List.mem_cons_of_mem _ kw_1_165) rfl rfl std_S_narrowed_40 ?_
    exact hret _ _ _ () (by rw [sel_f (by omega), sel_t (by omega)]) std_S_narrowed_43
  by_cases sw3 : k = 2
  · refine g_tin (tgt := 44) C std_S_narrowed_1 ⟨by omega, by omega⟩ (by omega) (by omega) (by rw [sw3]; rfl) (by decide) ?_
    refine g_aload_n C 0 std_S_narrowed_44 rfl ?_
    refine g_get C (st_sub sti_S) 0 rfl rfl 3 (by decide) (List.mem_cons_of_mem _ kw_1_192) rfl rfl std_S_narrowed_45 ?_
    refine g_get C (st_sub sti_N) 1 rfl rfl 3 (by decide) (List.mem_cons_of_mem _ kw_1_167) rfl rfl std_S_narrowed_48 ?_
    exact hret _ _ _ () (by rw [sel_f (by omega), sel_f (by omega), sel_t (by omega)]) std_S_narrowed_51
  refine g_tout (tgt := 52) C std_S_narrowed_1 ⟨by omega, by omega⟩ (by omega) (by decide) ?_
  refine g_ldc C (z := (-2000000)) (List.mem_cons_of_mem _ kw_1_228) (by decide) std_S_narrowed_52 ?_
  exact hret _ _ _ () (by rw [sel_f (by omega), sel_f (by omega), sel_f (by omega)]) std_S_narrowed_54

