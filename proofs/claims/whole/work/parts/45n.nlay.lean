/-! NarrowLayers: layBehind, uniteFrom, cutTo, leastCostOfEnough -/
abbrev sty_N_layBehind : MethodName := ⟨"StateTables$NarrowLayers", "layBehind", "(I)V"⟩
abbrev stc_N_layBehind : ByteArray := prog_4_method_10_code
theorem sth_N_layBehind : (sty_N_layBehind).cls ≠ "java/lang/invoke/MethodHandle" ∧ (sty_N_layBehind).cls ≠ "java/lang/invoke/VarHandle" ∧ (parseMethodDescriptor (sty_N_layBehind).desc).map (fun d => d.parameters.length) = some 1 := by decide +kernel
theorem std_N_layBehind_0 : decode stc_N_layBehind 0 = .ok (.aload_n 0, 1) := by decide +kernel
theorem std_N_layBehind_1 : decode stc_N_layBehind 1 = .ok (.iconst 0, 1) := by decide +kernel
theorem std_N_layBehind_2 : decode stc_N_layBehind 2 = .ok (.putfield 62, 3) := by decide +kernel
theorem std_N_layBehind_5 : decode stc_N_layBehind 5 = .ok (.iconst 0, 1) := by decide +kernel
theorem std_N_layBehind_6 : decode stc_N_layBehind 6 = .ok (.istore_n 2, 1) := by decide +kernel
theorem std_N_layBehind_7 : decode stc_N_layBehind 7 = .ok (.iload_n 2, 1) := by decide +kernel
theorem std_N_layBehind_8 : decode stc_N_layBehind 8 = .ok (.aload_n 0, 1) := by decide +kernel
theorem std_N_layBehind_9 : decode stc_N_layBehind 9 = .ok (.getfield 36, 3) := by decide +kernel
theorem kw_1_168 : Cond.fieldLink "StateTables$NarrowLayers" 36 "StateTables$NarrowLayers" "size" "I" ∈ stGW := st_t1 (List.mem_of_getElem? (i := 168) (by decide +kernel)) (by decide +kernel)
theorem std_N_layBehind_12 : decode stc_N_layBehind 12 = .ok (.if_icmp .ge 42, 3) := by decide +kernel
theorem std_N_layBehind_54 : decode stc_N_layBehind 54 = .ok (.aload_n 0, 1) := by decide +kernel
theorem std_N_layBehind_55 : decode stc_N_layBehind 55 = .ok (.invokevirtual 73, 3) := by decide +kernel
theorem kw_3_25 : Cond.code sty_N_uniteAlike stc_N_uniteAlike 7 none ∈ stGW := st_t3 (List.mem_of_getElem? (i := 25) (by decide +kernel)) (by decide +kernel)
theorem kw_3_22 : Cond.methodLink "StateTables$NarrowLayers" 73 (sty_N_uniteAlike) ∈ stGW := st_t3 (List.mem_of_getElem? (i := 22) (by decide +kernel)) (by decide +kernel)
theorem kw_3_24 : Cond.instanceMethod (sty_N_uniteAlike) ∈ stGW := st_t3 (List.mem_of_getElem? (i := 24) (by decide +kernel)) (by decide +kernel)
theorem kw_0_14 : Cond.selects "StateTables$NarrowLayers" (sty_N_uniteAlike) (sty_N_uniteAlike) ∈ stGW := st_t0 (List.mem_of_getElem? (i := 14) (by decide +kernel)) (by decide +kernel)
theorem std_N_layBehind_58 : decode stc_N_layBehind 58 = .ok (.aload_n 0, 1) := by decide +kernel
theorem std_N_layBehind_59 : decode stc_N_layBehind 59 = .ok (.getfield 15, 3) := by decide +kernel
theorem std_N_layBehind_62 : decode stc_N_layBehind 62 = .ok (.aload_n 0, 1) := by decide +kernel
theorem std_N_layBehind_63 : decode stc_N_layBehind 63 = .ok (.getfield 11, 3) := by decide +kernel
theorem std_N_layBehind_66 : decode stc_N_layBehind 66 = .ok (.aload_n 0, 1) := by decide +kernel
theorem std_N_layBehind_67 : decode stc_N_layBehind 67 = .ok (.getfield 62, 3) := by decide +kernel
theorem std_N_layBehind_70 : decode stc_N_layBehind 70 = .ok (.invokestatic 76, 3) := by decide +kernel
theorem std_N_layBehind_73 : decode stc_N_layBehind 73 = .ok (.aload_n 0, 1) := by decide +kernel
theorem std_N_layBehind_74 : decode stc_N_layBehind 74 = .ok (.getfield 11, 3) := by decide +kernel
theorem std_N_layBehind_77 : decode stc_N_layBehind 77 = .ok (.astore_n 2, 1) := by decide +kernel
theorem std_N_layBehind_78 : decode stc_N_layBehind 78 = .ok (.aload_n 0, 1) := by decide +kernel
theorem std_N_layBehind_79 : decode stc_N_layBehind 79 = .ok (.aload_n 0, 1) := by decide +kernel
theorem std_N_layBehind_80 : decode stc_N_layBehind 80 = .ok (.getfield 15, 3) := by decide +kernel
theorem std_N_layBehind_83 : decode stc_N_layBehind 83 = .ok (.putfield 11, 3) := by decide +kernel
theorem std_N_layBehind_86 : decode stc_N_layBehind 86 = .ok (.aload_n 0, 1) := by decide +kernel
theorem std_N_layBehind_87 : decode stc_N_layBehind 87 = .ok (.aload_n 0, 1) := by decide +kernel
theorem std_N_layBehind_88 : decode stc_N_layBehind 88 = .ok (.getfield 62, 3) := by decide +kernel
theorem std_N_layBehind_91 : decode stc_N_layBehind 91 = .ok (.putfield 36, 3) := by decide +kernel
theorem std_N_layBehind_94 : decode stc_N_layBehind 94 = .ok (.aload_n 0, 1) := by decide +kernel
theorem std_N_layBehind_95 : decode stc_N_layBehind 95 = .ok (.aload_n 2, 1) := by decide +kernel
theorem std_N_layBehind_96 : decode stc_N_layBehind 96 = .ok (.putfield 15, 3) := by decide +kernel
theorem std_N_layBehind_99 : decode stc_N_layBehind 99 = .ok (.return_, 1) := by decide +kernel
theorem std_N_layBehind_15 : decode stc_N_layBehind 15 = .ok (.iconst 0, 1) := by decide +kernel
theorem std_N_layBehind_16 : decode stc_N_layBehind 16 = .ok (.istore_n 3, 1) := by decide +kernel
theorem std_N_layBehind_17 : decode stc_N_layBehind 17 = .ok (.iload_n 3, 1) := by decide +kernel
theorem std_N_layBehind_18 : decode stc_N_layBehind 18 = .ok (.aload_n 0, 1) := by decide +kernel
theorem std_N_layBehind_19 : decode stc_N_layBehind 19 = .ok (.getfield 18, 3) := by decide +kernel
theorem std_N_layBehind_22 : decode stc_N_layBehind 22 = .ok (.getfield 65, 3) := by decide +kernel
theorem kw_1_37 : Cond.fieldLink "StateTables$NarrowLayers" 65 "StateTables$Told" "sizes" "[I" ∈ stGW := st_t1 (List.mem_of_getElem? (i := 37) (by decide +kernel)) (by decide +kernel)
theorem std_N_layBehind_25 : decode stc_N_layBehind 25 = .ok (.iload_n 1, 1) := by decide +kernel
theorem std_N_layBehind_26 : decode stc_N_layBehind 26 = .ok (.iaload, 1) := by decide +kernel
theorem std_N_layBehind_27 : decode stc_N_layBehind 27 = .ok (.if_icmp .ge 21, 3) := by decide +kernel
theorem std_N_layBehind_48 : decode stc_N_layBehind 48 = .ok (.iinc 2 1, 3) := by decide +kernel
theorem std_N_layBehind_51 : decode stc_N_layBehind 51 = .ok (.goto (-44), 3) := by decide +kernel
theorem std_N_layBehind_30 : decode stc_N_layBehind 30 = .ok (.aload_n 0, 1) := by decide +kernel
theorem std_N_layBehind_31 : decode stc_N_layBehind 31 = .ok (.aload_n 0, 1) := by decide +kernel
theorem std_N_layBehind_32 : decode stc_N_layBehind 32 = .ok (.getfield 11, 3) := by decide +kernel
theorem std_N_layBehind_35 : decode stc_N_layBehind 35 = .ok (.iload_n 2, 1) := by decide +kernel
theorem std_N_layBehind_36 : decode stc_N_layBehind 36 = .ok (.laload, 1) := by decide +kernel
theorem std_N_layBehind_37 : decode stc_N_layBehind 37 = .ok (.iload_n 1, 1) := by decide +kernel
theorem std_N_layBehind_38 : decode stc_N_layBehind 38 = .ok (.iload_n 3, 1) := by decide +kernel
theorem std_N_layBehind_39 : decode stc_N_layBehind 39 = .ok (.invokevirtual 69, 3) := by decide +kernel
theorem kw_3_0 : Cond.code sty_N_follow stc_N_follow 15 none ∈ stGW := st_t3 (List.mem_of_getElem? (i := 0) (by decide +kernel)) (by decide +kernel)
theorem kw_2_237 : Cond.methodLink "StateTables$NarrowLayers" 69 (sty_N_follow) ∈ stGW := st_t2 (List.mem_of_getElem? (i := 237) (by decide +kernel)) (by decide +kernel)
theorem kw_2_239 : Cond.instanceMethod (sty_N_follow) ∈ stGW := st_t2 (List.mem_of_getElem? (i := 239) (by decide +kernel)) (by decide +kernel)
theorem kw_0_13 : Cond.selects "StateTables$NarrowLayers" (sty_N_follow) (sty_N_follow) ∈ stGW := st_t0 (List.mem_of_getElem? (i := 13) (by decide +kernel)) (by decide +kernel)
theorem std_N_layBehind_42 : decode stc_N_layBehind 42 = .ok (.iinc 3 1, 3) := by decide +kernel
theorem std_N_layBehind_45 : decode stc_N_layBehind 45 = .ok (.goto (-28), 3) := by decide +kernel
set_option maxHeartbeats 4000000 in
set_option maxRecDepth 100000 in
theorem c_nlay (l : Launch) (dC : Nat → ClassId) (dI : Nat → Nat → Nat) (cI cJ cZ : ClassId) (n0 : Nat) (v1 : Nat) (v2 : Nat) (lo : Int) (wi : Int) (cu : Int) (si : Int) (nx : Int) (t0 : Nat) (hs : Nat) (hc : Nat) (hf : Nat) (hg : Nat) (hb : Nat) (he : Nat) (hm : Nat) (steps : Int) (choices : Int) (bars : Int) (fm : Int → Int) (fn : Int → Int) (fsz : Int → Int) (fco : Int → Int) (ffu : Int → Int) (fsu : Int → Int) (fbb : Int → Int) (fmo : Int → Int) (sd : Int) (dd : Int) (ksi : 0 ≤ si ∧ si ≤ 60) (ksd : 0 ≤ sd ∧ sd < 12) (kT : TB fsz fco ffu fsu fbb fmo) (kR : ∀ i, 0 ≤ i → i < si → WN dd (fm i)) (kdd : dd ≤ 11000) : ∀ sz, Met l sty_N_layBehind (Cond.code sty_N_layBehind stc_N_layBehind 4 none :: stGW) ({ frames := 3, cells := 0, slots := 0, locals := 91 } : Room) (va_Pc [.ref n0, .int (iI sd)] (zPre (dC, dI) stCl [(cI, .int), (cJ, .long), (cZ, .boolean)] st_nw [(n0, .inr (4, [.ref t0, .int (iI lo), .int (iI wi), .int (iI cu), .int (iI si), .ref v1, .int (iI nx), .ref v2])), (v1, .inl (cJ, aL 360 fm)), (v2, .inl (cJ, aL 360 fn)), (t0, .inr (1, [.int (iI steps), .int (iI choices), .int (iI bars), .ref hs, .ref hc, .ref hf, .ref hg, .ref hb, .ref he, .ref hm])), (hs, .inl (cI, aI 12 fsz)), (hc, .inl (cI, aI 72 fco)), (hf, .inl (cI, aI 72 ffu)), (hg, .inl (cI, aI 72 fsu)), (hb, .inl (cI, aI 72 fbb)), (hm, .inl (cI, aI 2 fmo))] sz)) (va_Qv (fun (u : (Int → Int) × (Int → Int) × Int) => EN (NL (NX fsz fco ffu fsu fbb fmo fm si sd)) u.2.2 u.2.1 ∧ u.2.2 ≤ 360) (zPost (dC, dI) stCl [(cI, .int), (cJ, .long), (cZ, .boolean)] [(n0, .inr (4, [.ref t0, .int (iI lo), .int (iI wi), .int (iI cu), .int (iI si), .ref v1, .int (iI nx), .ref v2])), (v1, .inl (cJ, aL 360 fm)), (v2, .inl (cJ, aL 360 fn)), (t0, .inr (1, [.int (iI steps), .int (iI choices), .int (iI bars), .ref hs, .ref hc, .ref hf, .ref hg, .ref hb, .ref he, .ref hm])), (hs, .inl (cI, aI 12 fsz)), (hc, .inl (cI, aI 72 fco)), (hf, .inl (cI, aI 72 ffu)), (hg, .inl (cI, aI 72 fsu)), (hb, .inl (cI, aI 72 fbb)), (hm, .inl (cI, aI 2 fmo))] sz (fun u : (Int → Int) × (Int → Int) × Int => [(n0, .inr (4, [.ref t0, .int (iI lo), .int (iI wi), .int (iI cu), .int (iI (u.2.2)), .ref v2, .int (iI (u.2.2)), .ref v1])), (v1, .inl (cJ, aL 360 (u.1))), (v2, .inl (cJ, aL 360 (u.2.1))), (t0, .inr (1, [.int (iI steps), .int (iI choices), .int (iI bars), .ref hs, .ref hc, .ref hf, .ref hg, .ref hb, .ref he, .ref hm])), (hs, .inl (cI, aI 12 fsz)), (hc, .inl (cI, aI 72 fco)), (hf, .inl (cI, aI 72 ffu)), (hg, .inl (cI, aI 72 fsu)), (hb, .inl (cI, aI 72 fbb)), (hm, .inl (cI, aI 2 fmo))])) (va_A [(n0, .inr (4, [.ref t0, .int (iI lo), .int (iI wi), .int (iI cu), .int (iI si), .ref v1, .int (iI nx), .ref v2])), (v1, .inl (cJ, aL 360 fm)), (v2, .inl (cJ, aL 360 fn)), (t0, .inr (1, [.int (iI steps), .int (iI choices), .int (iI bars), .ref hs, .ref hc, .ref hf, .ref hg, .ref hb, .ref he, .ref hm])), (hs, .inl (cI, aI 12 fsz)), (hc, .inl (cI, aI 72 fco)), (hf, .inl (cI, aI 72 ffu)), (hg, .inl (cI, aI 72 fsu)), (hb, .inl (cI, aI 72 fbb)), (hm, .inl (cI, aI 2 fmo))] sz)) 0 0 (va_A [(n0, .inr (4, [.ref t0, .int (iI lo), .int (iI wi), .int (iI cu), .int (iI si), .ref v1, .int (iI nx), .ref v2])), (v1, .inl (cJ, aL 360 fm)), (v2, .inl (cJ, aL 360 fn)), (t0, .inr (1, [.int (iI steps), .int (iI choices), .int (iI bars), .ref hs, .ref hc, .ref hf, .ref hg, .ref hb, .ref he, .ref hm])), (hs, .inl (cI, aI 12 fsz)), (hc, .inl (cI, aI 72 fco)), (hf, .inl (cI, aI 72 ffu)), (hg, .inl (cI, aI 72 fsu)), (hb, .inl (cI, aI 72 fbb)), (hm, .inl (cI, aI 2 fmo))] sz) := by
  refine met_v (by decide) rfl (Nat.le_of_ble_eq_true rfl) ?_
  intro p e s m below meth c A Q C hmn hret
  have hq0 := kT.1 sd (by omega) (by omega)
  refine g_aload_n C 0 std_N_layBehind_0 rfl ?_
  refine g_iconst C std_N_layBehind_1 ?_
  refine g_put C (ws' := [(n0, .inr (4, [.ref t0, .int (iI lo), .int (iI wi), .int (iI cu), .int (iI si), .ref v1, .int (iI 0), .ref v2])), (v1, .inl (cJ, aL 360 fm)), (v2, .inl (cJ, aL 360 fn)), (t0, .inr (1, [.int (iI steps), .int (iI choices), .int (iI bars), .ref hs, .ref hc, .ref hf, .ref hg, .ref hb, .ref he, .ref hm])), (hs, .inl (cI, aI 12 fsz)), (hc, .inl (cI, aI 72 fco)), (hf, .inl (cI, aI 72 ffu)), (hg, .inl (cI, aI 72 fsu)), (hb, .inl (cI, aI 72 fbb)), (hm, .inl (cI, aI 2 fmo))]) (st_sub sti_N) stt_N sto_N stn_N 0 rfl rfl 6 (by decide) (List.mem_cons_of_mem _ kw_1_170) rfl rfl rfl rfl (Nat.le_of_ble_eq_true rfl) std_N_layBehind_2 rfl ?_
  refine g_iconst C std_N_layBehind_5 ?_
  refine g_istore_n C (lv' := [(2, .int (iI 0)), (0, .ref n0), (1, .int (iI sd))]) std_N_layBehind_6 (by decide) rfl ?_
  have L7 : ∀ (nn7 : Nat) (x : Int) (mm : Int) (VV : Int → Int), (0 ≤ x ∧ x ≤ si) → (0 ≤ mm ∧ mm ≤ x * 6) → (∀ E, inR VV mm E ↔ NQ fsz fco ffu fsu fbb fmo fm sd x 0 E) → (si - x) < (nn7 : Int) → G p l e ({ frames := 3, cells := 0, slots := 0, locals := 91 } : Room) s m ([.ref n0, .int (iI sd)] : List Value).toArray below meth c (dC, dI) stCl 4 A 0 0 Q [(n0, .inr (4, [.ref t0, .int (iI lo), .int (iI wi), .int (iI cu), .int (iI si), .ref v1, .int (iI mm), .ref v2])), (v1, .inl (cJ, aL 360 fm)), (v2, .inl (cJ, aL 360 VV)), (t0, .inr (1, [.int (iI steps), .int (iI choices), .int (iI bars), .ref hs, .ref hc, .ref hf, .ref hg, .ref hb, .ref he, .ref hm])), (hs, .inl (cI, aI 12 fsz)), (hc, .inl (cI, aI 72 fco)), (hf, .inl (cI, aI 72 ffu)), (hg, .inl (cI, aI 72 fsu)), (hb, .inl (cI, aI 72 fbb)), (hm, .inl (cI, aI 2 fmo))] 7 [(2, .int (iI x)), (0, .ref n0), (1, .int (iI sd))] [] := by
    intro nn7
    induction nn7 with
    | zero =>
      intro x mm VV kx km kI hnn7
      exact absurd hnn7 (by omega)
    | succ nn7 ih7 =>
      intro x mm VV kx km kI hnn7
      refine g_iload_n C 0 std_N_layBehind_7 rfl ?_
      refine g_aload_n C 1 std_N_layBehind_8 rfl ?_
      refine g_get C (st_sub sti_N) 0 rfl rfl 4 (by decide) (List.mem_cons_of_mem _ kw_1_168) rfl rfl std_N_layBehind_9 ?_
      refine g_icmp_ge (tgt := 54) C std_N_layBehind_12 (by decide) ⟨by omega, by omega⟩ ⟨by omega, by omega⟩ (fun c1 => ?_) (fun c1 => ?_)
      · have kI2 : ∀ E, inR VV mm E ↔ NX fsz fco ffu fsu fbb fmo fm si sd E := fun E => (kI E).trans (by rw [show x = si by omega]; exact Iff.rfl)
        refine g_aload_n C 1 std_N_layBehind_54 rfl ?_
        refine g_V_v (wc := [(n0, .inr (4, [.ref t0, .int (iI lo), .int (iI wi), .int (iI cu), .int (iI si), .ref v1, .int (iI mm), .ref v2])), (v1, .inl (cJ, aL 360 fm)), (v2, .inl (cJ, aL 360 VV))]) (wr := [(t0, .inr (1, [.int (iI steps), .int (iI choices), .int (iI bars), .ref hs, .ref hc, .ref hf, .ref hg, .ref hb, .ref he, .ref hm])), (hs, .inl (cI, aI 12 fsz)), (hc, .inl (cI, aI 72 fco)), (hf, .inl (cI, aI 72 ffu)), (hg, .inl (cI, aI 72 fsu)), (hb, .inl (cI, aI 72 fbb)), (hm, .inl (cI, aI 2 fmo))]) (rest := []) C (c_uniteAlike l dC dI cI cJ cZ n0 v1 v2 lo wi cu si mm t0 fm VV (by omega) (fun i h1 h2 => wn_lt (nq_wn kT ksd kR (Int.le_refl _) (Or.inl rfl) (by omega) ((kI2 _).mp ⟨i, h1, h2, rfl⟩)) (by omega))) (st_cV C kw_3_25 kw_3_22 kw_1_5 kw_3_24 kw_0_14 sth_N_uniteAlike ⟨Nat.le_of_ble_eq_true rfl, Nat.le_of_ble_eq_true rfl⟩) 0 rfl rfl rfl rfl (Nat.le_of_ble_eq_true rfl) std_N_layBehind_55 ⟨Nat.le_of_ble_eq_true rfl, Nat.le_of_ble_eq_true rfl⟩ [0, 1, 2] [3, 4, 5, 6, 7, 8, 9] rfl rfl rfl rfl (by decide) (fun u3 h4 => ?_)
        obtain ⟨TA5, TB6, m7⟩ := u3
        dsimp only at h4
        refine g_ws (ws' := [(t0, .inr (1, [.int (iI steps), .int (iI choices), .int (iI bars), .ref hs, .ref hc, .ref hf, .ref hg, .ref hb, .ref he, .ref hm])), (hs, .inl (cI, aI 12 fsz)), (hc, .inl (cI, aI 72 fco)), (hf, .inl (cI, aI 72 ffu)), (hg, .inl (cI, aI 72 fsu)), (hb, .inl (cI, aI 72 fbb)), (hm, .inl (cI, aI 2 fmo)), (n0, .inr (4, [.ref t0, .int (iI lo), .int (iI wi), .int (iI cu), .int (iI si), .ref v1, .int (iI m7), .ref v2])), (v1, .inl (cJ, aL 360 TA5)), (v2, .inl (cJ, aL 360 TB6))]) rfl ?_
        have hUA := h4
        have hUk := hUA.1
        refine g_aload_n C 1 std_N_layBehind_58 rfl ?_
        refine g_get C (st_sub sti_N) 7 rfl rfl 7 (by decide) (List.mem_cons_of_mem _ kw_1_171) rfl rfl std_N_layBehind_59 ?_
        refine g_aload_n C 1 std_N_layBehind_62 rfl ?_
        refine g_get C (st_sub sti_N) 7 rfl rfl 5 (by decide) (List.mem_cons_of_mem _ kw_1_169) rfl rfl std_N_layBehind_63 ?_
        refine g_aload_n C 1 std_N_layBehind_66 rfl ?_
        refine g_get C (st_sub sti_N) 7 rfl rfl 6 (by decide) (List.mem_cons_of_mem _ kw_1_170) rfl rfl std_N_layBehind_67 ?_
        refine g_S_v (wc := [(v2, .inl (cJ, aL 360 TB6)), (v1, .inl (cJ, aL 360 TA5))]) (wr := [(t0, .inr (1, [.int (iI steps), .int (iI choices), .int (iI bars), .ref hs, .ref hc, .ref hf, .ref hg, .ref hb, .ref he, .ref hm])), (hs, .inl (cI, aI 12 fsz)), (hc, .inl (cI, aI 72 fco)), (hf, .inl (cI, aI 72 ffu)), (hg, .inl (cI, aI 72 fsu)), (hb, .inl (cI, aI 72 fbb)), (hm, .inl (cI, aI 2 fmo)), (n0, .inr (4, [.ref t0, .int (iI lo), .int (iI wi), .int (iI cu), .int (iI si), .ref v1, .int (iI m7), .ref v2]))]) (rest := []) C (c_sort l dC dI cI cJ cZ v2 v1 TB6 TA5 m7 (by omega) (fun i h1 h2 => by have := wn_lt (nq_wn kT ksd kR (Int.le_refl _) (Or.inl rfl) (by omega) ((kI2 _).mp ((hUA.2.2 _).mp ⟨i, h1, h2, rfl⟩).1)) (by omega); unfold rL; omega)) (st_cS C kw_3_29 kw_3_27 kw_1_5 kw_3_28 sth_N_sort ⟨Nat.le_of_ble_eq_true rfl, Nat.le_of_ble_eq_true rfl⟩) rfl rfl (Nat.le_of_ble_eq_true rfl) std_N_layBehind_70 ⟨Nat.le_of_ble_eq_true rfl, Nat.le_of_ble_eq_true rfl⟩ [9, 8] [0, 1, 2, 3, 4, 5, 6, 7] rfl rfl rfl rfl (by decide) (fun u9 h10 => ?_)
        obtain ⟨SA11, SB12⟩ := u9
        dsimp only at h10
        refine g_ws (ws' := [(t0, .inr (1, [.int (iI steps), .int (iI choices), .int (iI bars), .ref hs, .ref hc, .ref hf, .ref hg, .ref hb, .ref he, .ref hm])), (hs, .inl (cI, aI 12 fsz)), (hc, .inl (cI, aI 72 fco)), (hf, .inl (cI, aI 72 ffu)), (hg, .inl (cI, aI 72 fsu)), (hb, .inl (cI, aI 72 fbb)), (hm, .inl (cI, aI 2 fmo)), (n0, .inr (4, [.ref t0, .int (iI lo), .int (iI wi), .int (iI cu), .int (iI si), .ref v1, .int (iI m7), .ref v2])), (v2, .inl (cJ, aL 360 SA11)), (v1, .inl (cJ, aL 360 SB12))]) rfl ?_
        refine g_aload_n C 1 std_N_layBehind_73 rfl ?_
        refine g_get C (st_sub sti_N) 7 rfl rfl 5 (by decide) (List.mem_cons_of_mem _ kw_1_169) rfl rfl std_N_layBehind_74 ?_
        refine g_astore_n C (lv' := [(2, .ref v1), (0, .ref n0), (1, .int (iI sd))]) std_N_layBehind_77 (by decide) rfl ?_
        refine g_aload_n C 1 std_N_layBehind_78 rfl ?_
        refine g_aload_n C 1 std_N_layBehind_79 rfl ?_
        refine g_get C (st_sub sti_N) 7 rfl rfl 7 (by decide) (List.mem_cons_of_mem _ kw_1_171) rfl rfl std_N_layBehind_80 ?_
        refine g_put C (ws' := [(t0, .inr (1, [.int (iI steps), .int (iI choices), .int (iI bars), .ref hs, .ref hc, .ref hf, .ref hg, .ref hb, .ref he, .ref hm])), (hs, .inl (cI, aI 12 fsz)), (hc, .inl (cI, aI 72 fco)), (hf, .inl (cI, aI 72 ffu)), (hg, .inl (cI, aI 72 fsu)), (hb, .inl (cI, aI 72 fbb)), (hm, .inl (cI, aI 2 fmo)), (n0, .inr (4, [.ref t0, .int (iI lo), .int (iI wi), .int (iI cu), .int (iI si), .ref v2, .int (iI m7), .ref v2])), (v2, .inl (cJ, aL 360 SA11)), (v1, .inl (cJ, aL 360 SB12))]) (st_sub sti_N) stt_N sto_N stn_N 7 rfl rfl 5 (by decide) (List.mem_cons_of_mem _ kw_1_169) rfl rfl rfl rfl (Nat.le_of_ble_eq_true rfl) std_N_layBehind_83 rfl ?_
        refine g_aload_n C 1 std_N_layBehind_86 rfl ?_
        refine g_aload_n C 1 std_N_layBehind_87 rfl ?_
        refine g_get C (st_sub sti_N) 7 rfl rfl 6 (by decide) (List.mem_cons_of_mem _ kw_1_170) rfl rfl std_N_layBehind_88 ?_
        refine g_put C (ws' := [(t0, .inr (1, [.int (iI steps), .int (iI choices), .int (iI bars), .ref hs, .ref hc, .ref hf, .ref hg, .ref hb, .ref he, .ref hm])), (hs, .inl (cI, aI 12 fsz)), (hc, .inl (cI, aI 72 fco)), (hf, .inl (cI, aI 72 ffu)), (hg, .inl (cI, aI 72 fsu)), (hb, .inl (cI, aI 72 fbb)), (hm, .inl (cI, aI 2 fmo)), (n0, .inr (4, [.ref t0, .int (iI lo), .int (iI wi), .int (iI cu), .int (iI m7), .ref v2, .int (iI m7), .ref v2])), (v2, .inl (cJ, aL 360 SA11)), (v1, .inl (cJ, aL 360 SB12))]) (st_sub sti_N) stt_N sto_N stn_N 7 rfl rfl 4 (by decide) (List.mem_cons_of_mem _ kw_1_168) rfl rfl rfl rfl (Nat.le_of_ble_eq_true rfl) std_N_layBehind_91 rfl ?_
        refine g_aload_n C 1 std_N_layBehind_94 rfl ?_
        refine g_aload_n C 0 std_N_layBehind_95 rfl ?_
        refine g_put C (ws' := [(t0, .inr (1, [.int (iI steps), .int (iI choices), .int (iI bars), .ref hs, .ref hc, .ref hf, .ref hg, .ref hb, .ref he, .ref hm])), (hs, .inl (cI, aI 12 fsz)), (hc, .inl (cI, aI 72 fco)), (hf, .inl (cI, aI 72 ffu)), (hg, .inl (cI, aI 72 fsu)), (hb, .inl (cI, aI 72 fbb)), (hm, .inl (cI, aI 2 fmo)), (n0, .inr (4, [.ref t0, .int (iI lo), .int (iI wi), .int (iI cu), .int (iI m7), .ref v2, .int (iI m7), .ref v1])), (v2, .inl (cJ, aL 360 SA11)), (v1, .inl (cJ, aL 360 SB12))]) (st_sub sti_N) stt_N sto_N stn_N 7 rfl rfl 7 (by decide) (List.mem_cons_of_mem _ kw_1_171) rfl rfl rfl rfl (Nat.le_of_ble_eq_true rfl) std_N_layBehind_96 rfl ?_
        refine g_sub (ws' := [(n0, .inr (4, [.ref t0, .int (iI lo), .int (iI wi), .int (iI cu), .int (iI m7), .ref v2, .int (iI m7), .ref v1])), (v1, .inl (cJ, aL 360 SB12)), (v2, .inl (cJ, aL 360 SA11)), (t0, .inr (1, [.int (iI steps), .int (iI choices), .int (iI bars), .ref hs, .ref hc, .ref hf, .ref hg, .ref hb, .ref he, .ref hm])), (hs, .inl (cI, aI 12 fsz)), (hc, .inl (cI, aI 72 fco)), (hf, .inl (cI, aI 72 ffu)), (hg, .inl (cI, aI 72 fsu)), (hb, .inl (cI, aI 72 fbb)), (hm, .inl (cI, aI 2 fmo))]) [7, 9, 8, 0, 1, 2, 3, 4, 5, 6] rfl rfl ?_
        refine g_wide (k := 0) (n := 0) (Nat.le_of_ble_eq_true rfl) (Nat.le_of_ble_eq_true rfl) ?_
        exact hret _ _ (SB12, SA11, m7) (⟨ua_en hUA kI2 h10, by dsimp only; omega⟩) std_N_layBehind_99
      · refine g_iconst C std_N_layBehind_15 ?_
        refine g_istore_n C (lv' := [(3, .int (iI 0)), (2, .int (iI x)), (0, .ref n0), (1, .int (iI sd))]) std_N_layBehind_16 (by decide) rfl ?_
        have L17 : ∀ (nn17 : Nat) (y : Int) (mm : Int) (VV : Int → Int), (0 ≤ y ∧ y ≤ fsz sd) → (0 ≤ mm ∧ mm ≤ x * 6 + y) → (∀ E, inR VV mm E ↔ NQ fsz fco ffu fsu fbb fmo fm sd x y E) → (fsz sd - y) < (nn17 : Int) → G p l e ({ frames := 3, cells := 0, slots := 0, locals := 91 } : Room) s m ([.ref n0, .int (iI sd)] : List Value).toArray below meth c (dC, dI) stCl 4 A 0 0 Q [(n0, .inr (4, [.ref t0, .int (iI lo), .int (iI wi), .int (iI cu), .int (iI si), .ref v1, .int (iI mm), .ref v2])), (v1, .inl (cJ, aL 360 fm)), (v2, .inl (cJ, aL 360 VV)), (t0, .inr (1, [.int (iI steps), .int (iI choices), .int (iI bars), .ref hs, .ref hc, .ref hf, .ref hg, .ref hb, .ref he, .ref hm])), (hs, .inl (cI, aI 12 fsz)), (hc, .inl (cI, aI 72 fco)), (hf, .inl (cI, aI 72 ffu)), (hg, .inl (cI, aI 72 fsu)), (hb, .inl (cI, aI 72 fbb)), (hm, .inl (cI, aI 2 fmo))] 17 [(3, .int (iI y)), (2, .int (iI x)), (0, .ref n0), (1, .int (iI sd))] [] := by
          intro nn17
          induction nn17 with
          | zero =>
            intro y mm VV ky km2 kJ hnn17
            exact absurd hnn17 (by omega)
          | succ nn17 ih17 =>
            intro y mm VV ky km2 kJ hnn17
            refine g_iload_n C 0 std_N_layBehind_17 rfl ?_
            refine g_aload_n C 2 std_N_layBehind_18 rfl ?_
            refine g_get C (st_sub sti_N) 0 rfl rfl 0 (by decide) (List.mem_cons_of_mem _ kw_1_161) rfl rfl std_N_layBehind_19 ?_
            refine g_get C (st_sub sti_T) 3 rfl rfl 3 (by decide) (List.mem_cons_of_mem _ kw_1_37) rfl rfl std_N_layBehind_22 ?_
            refine g_iload_n C 3 std_N_layBehind_25 rfl ?_
            refine g_iald C 4 0 rfl rfl (by omega) (by omega) (by omega) std_N_layBehind_26 ?_
            refine g_icmp_ge (tgt := 48) C std_N_layBehind_27 (by decide) ⟨by omega, by omega⟩ ⟨by omega, by omega⟩ (fun c13 => ?_) (fun c13 => ?_)
            · refine g_iinc C (lv' := [(2, .int (iI (x + 1))), (3, .int (iI y)), (0, .ref n0), (1, .int (iI sd))]) 1 std_N_layBehind_48 rfl (by decide) rfl ?_
              refine g_goto (tgt := 7) C std_N_layBehind_51 (by decide) ?_
              refine g_lv (lv' := [(2, .int (iI (x + 1))), (0, .ref n0), (1, .int (iI sd))]) [0, 2, 3] rfl ?_
              exact ih7 (x + 1) mm VV (by omega) (by omega) (fun E => (kJ E).trans (nq_e (by omega) (by omega))) (by omega)
            · have hRx := kR x (by omega) (by omega)
              refine g_aload_n C 2 std_N_layBehind_30 rfl ?_
              refine g_aload_n C 2 std_N_layBehind_31 rfl ?_
              refine g_get C (st_sub sti_N) 0 rfl rfl 5 (by decide) (List.mem_cons_of_mem _ kw_1_169) rfl rfl std_N_layBehind_32 ?_
              refine g_iload_n C 1 std_N_layBehind_35 rfl ?_
              refine g_lald C 1 1 rfl rfl (by omega) (by omega) (by omega) std_N_layBehind_36 ?_
              refine g_iload_n C 3 std_N_layBehind_37 rfl ?_
              refine g_iload_n C 0 std_N_layBehind_38 rfl ?_
              refine g_V_v (wc := [(n0, .inr (4, [.ref t0, .int (iI lo), .int (iI wi), .int (iI cu), .int (iI si), .ref v1, .int (iI mm), .ref v2])), (v2, .inl (cJ, aL 360 VV)), (t0, .inr (1, [.int (iI steps), .int (iI choices), .int (iI bars), .ref hs, .ref hc, .ref hf, .ref hg, .ref hb, .ref he, .ref hm])), (hc, .inl (cI, aI 72 fco)), (hf, .inl (cI, aI 72 ffu)), (hg, .inl (cI, aI 72 fsu)), (hb, .inl (cI, aI 72 fbb)), (hm, .inl (cI, aI 2 fmo))]) (wr := [(v1, .inl (cJ, aL 360 fm)), (hs, .inl (cI, aI 12 fsz))]) (rest := []) C (c_follow l dC dI cI cJ cZ n0 v1 v2 lo wi cu si mm t0 hs hc hf hg hb he hm steps choices bars VV fsz fco ffu fsu fbb fmo (fm x) sd y dd (by omega) (kT) (hRx) (by omega) (by omega) (by omega)) (st_cV C kw_3_0 kw_2_237 kw_1_5 kw_2_239 kw_0_13 sth_N_follow ⟨Nat.le_of_ble_eq_true rfl, Nat.le_of_ble_eq_true rfl⟩) 0 rfl rfl rfl rfl (Nat.le_of_ble_eq_true rfl) std_N_layBehind_39 ⟨Nat.le_of_ble_eq_true rfl, Nat.le_of_ble_eq_true rfl⟩ [0, 2, 3, 5, 6, 7, 8, 9] [1, 4] rfl rfl rfl rfl (by decide) (fun u15 h16 => ?_)
              obtain ⟨T17, m18⟩ := u15
              dsimp only at h16
              refine g_ws (ws' := [(v1, .inl (cJ, aL 360 fm)), (hs, .inl (cI, aI 12 fsz)), (n0, .inr (4, [.ref t0, .int (iI lo), .int (iI wi), .int (iI cu), .int (iI si), .ref v1, .int (iI m18), .ref v2])), (v2, .inl (cJ, aL 360 T17)), (t0, .inr (1, [.int (iI steps), .int (iI choices), .int (iI bars), .ref hs, .ref hc, .ref hf, .ref hg, .ref hb, .ref he, .ref hm])), (hc, .inl (cI, aI 72 fco)), (hf, .inl (cI, aI 72 ffu)), (hg, .inl (cI, aI 72 fsu)), (hb, .inl (cI, aI 72 fbb)), (hm, .inl (cI, aI 2 fmo))]) rfl ?_
              refine g_iinc C (lv' := [(3, .int (iI (y + 1))), (2, .int (iI x)), (0, .ref n0), (1, .int (iI sd))]) 0 std_N_layBehind_42 rfl (by decide) rfl ?_
              refine g_goto (tgt := 17) C std_N_layBehind_45 (by decide) ?_
              refine g_sub (ws' := [(n0, .inr (4, [.ref t0, .int (iI lo), .int (iI wi), .int (iI cu), .int (iI si), .ref v1, .int (iI m18), .ref v2])), (v1, .inl (cJ, aL 360 fm)), (v2, .inl (cJ, aL 360 T17)), (t0, .inr (1, [.int (iI steps), .int (iI choices), .int (iI bars), .ref hs, .ref hc, .ref hf, .ref hg, .ref hb, .ref he, .ref hm])), (hs, .inl (cI, aI 12 fsz)), (hc, .inl (cI, aI 72 fco)), (hf, .inl (cI, aI 72 ffu)), (hg, .inl (cI, aI 72 fsu)), (hb, .inl (cI, aI 72 fbb)), (hm, .inl (cI, aI 2 fmo))]) [2, 0, 3, 4, 1, 5, 6, 7, 8, 9] rfl rfl ?_
              refine g_wide (k := 0) (n := 0) (Nat.le_of_ble_eq_true rfl) (Nat.le_of_ble_eq_true rfl) ?_
              exact ih17 (y + 1) m18 T17 (by omega) (by have := fo_m h16; omega) (nq_s (by omega) (by omega) (by omega) kJ h16) (by omega)
        obtain ⟨nn0, hnn0⟩ : ∃ nn0 : Nat, (fsz sd - 0) < (nn0 : Int) := z_nat _
        exact L17 nn0 0 mm VV (by omega) (by omega) (kI) hnn0
  obtain ⟨nn0, hnn0⟩ : ∃ nn0 : Nat, (si - 0) < (nn0 : Int) := z_nat _
  exact L7 nn0 0 0 fn (by omega) (by omega) (nq_0) hnn0

abbrev sty_N_uniteFrom : MethodName := ⟨"StateTables$NarrowLayers", "uniteFrom", "(I)J"⟩
abbrev stc_N_uniteFrom : ByteArray := prog_4_method_14_code
theorem sth_N_uniteFrom : (sty_N_uniteFrom).cls ≠ "java/lang/invoke/MethodHandle" ∧ (sty_N_uniteFrom).cls ≠ "java/lang/invoke/VarHandle" ∧ (parseMethodDescriptor (sty_N_uniteFrom).desc).map (fun d => d.parameters.length) = some 1 := by decide +kernel
theorem std_N_uniteFrom_0 : decode stc_N_uniteFrom 0 = .ok (.aload_n 0, 1) := by decide +kernel
theorem std_N_uniteFrom_1 : decode stc_N_uniteFrom 1 = .ok (.getfield 11, 3) := by decide +kernel
theorem std_N_uniteFrom_4 : decode stc_N_uniteFrom 4 = .ok (.iload_n 1, 1) := by decide +kernel
theorem std_N_uniteFrom_5 : decode stc_N_uniteFrom 5 = .ok (.laload, 1) := by decide +kernel
theorem std_N_uniteFrom_6 : decode stc_N_uniteFrom 6 = .ok (.invokestatic 118, 3) := by decide +kernel
theorem std_N_uniteFrom_9 : decode stc_N_uniteFrom 9 = .ok (.istore_n 2, 1) := by decide +kernel
theorem std_N_uniteFrom_10 : decode stc_N_uniteFrom 10 = .ok (.aload_n 0, 1) := by decide +kernel
theorem std_N_uniteFrom_11 : decode stc_N_uniteFrom 11 = .ok (.getfield 11, 3) := by decide +kernel
theorem std_N_uniteFrom_14 : decode stc_N_uniteFrom 14 = .ok (.iload_n 1, 1) := by decide +kernel
theorem std_N_uniteFrom_15 : decode stc_N_uniteFrom 15 = .ok (.laload, 1) := by decide +kernel
theorem std_N_uniteFrom_16 : decode stc_N_uniteFrom 16 = .ok (.invokestatic 96, 3) := by decide +kernel
theorem std_N_uniteFrom_19 : decode stc_N_uniteFrom 19 = .ok (.istore_n 3, 1) := by decide +kernel
theorem std_N_uniteFrom_20 : decode stc_N_uniteFrom 20 = .ok (.aload_n 0, 1) := by decide +kernel
theorem std_N_uniteFrom_21 : decode stc_N_uniteFrom 21 = .ok (.getfield 11, 3) := by decide +kernel
theorem std_N_uniteFrom_24 : decode stc_N_uniteFrom 24 = .ok (.iload_n 1, 1) := by decide +kernel
theorem std_N_uniteFrom_25 : decode stc_N_uniteFrom 25 = .ok (.laload, 1) := by decide +kernel
theorem std_N_uniteFrom_26 : decode stc_N_uniteFrom 26 = .ok (.invokestatic 99, 3) := by decide +kernel
theorem std_N_uniteFrom_29 : decode stc_N_uniteFrom 29 = .ok (.istore 4, 2) := by decide +kernel
theorem std_N_uniteFrom_31 : decode stc_N_uniteFrom 31 = .ok (.aload_n 0, 1) := by decide +kernel
theorem std_N_uniteFrom_32 : decode stc_N_uniteFrom 32 = .ok (.getfield 11, 3) := by decide +kernel
theorem std_N_uniteFrom_35 : decode stc_N_uniteFrom 35 = .ok (.iload_n 1, 1) := by decide +kernel
theorem std_N_uniteFrom_36 : decode stc_N_uniteFrom 36 = .ok (.laload, 1) := by decide +kernel
theorem std_N_uniteFrom_37 : decode stc_N_uniteFrom 37 = .ok (.invokestatic 106, 3) := by decide +kernel
theorem std_N_uniteFrom_40 : decode stc_N_uniteFrom 40 = .ok (.istore 5, 2) := by decide +kernel
theorem std_N_uniteFrom_42 : decode stc_N_uniteFrom 42 = .ok (.aload_n 0, 1) := by decide +kernel
theorem std_N_uniteFrom_43 : decode stc_N_uniteFrom 43 = .ok (.getfield 11, 3) := by decide +kernel
theorem std_N_uniteFrom_46 : decode stc_N_uniteFrom 46 = .ok (.iload_n 1, 1) := by decide +kernel
theorem std_N_uniteFrom_47 : decode stc_N_uniteFrom 47 = .ok (.laload, 1) := by decide +kernel
theorem std_N_uniteFrom_48 : decode stc_N_uniteFrom 48 = .ok (.invokestatic 115, 3) := by decide +kernel
theorem std_N_uniteFrom_51 : decode stc_N_uniteFrom 51 = .ok (.istore 6, 2) := by decide +kernel
theorem std_N_uniteFrom_53 : decode stc_N_uniteFrom 53 = .ok (.aload_n 0, 1) := by decide +kernel
theorem std_N_uniteFrom_54 : decode stc_N_uniteFrom 54 = .ok (.getfield 11, 3) := by decide +kernel
theorem std_N_uniteFrom_57 : decode stc_N_uniteFrom 57 = .ok (.iload_n 1, 1) := by decide +kernel
theorem std_N_uniteFrom_58 : decode stc_N_uniteFrom 58 = .ok (.laload, 1) := by decide +kernel
theorem std_N_uniteFrom_59 : decode stc_N_uniteFrom 59 = .ok (.invokestatic 83, 3) := by decide +kernel
theorem std_N_uniteFrom_62 : decode stc_N_uniteFrom 62 = .ok (.istore 7, 2) := by decide +kernel
theorem std_N_uniteFrom_64 : decode stc_N_uniteFrom 64 = .ok (.iload_n 1, 1) := by decide +kernel
theorem std_N_uniteFrom_65 : decode stc_N_uniteFrom 65 = .ok (.iconst 1, 1) := by decide +kernel
theorem std_N_uniteFrom_66 : decode stc_N_uniteFrom 66 = .ok (.iadd, 1) := by decide +kernel
theorem std_N_uniteFrom_67 : decode stc_N_uniteFrom 67 = .ok (.istore 8, 2) := by decide +kernel
theorem std_N_uniteFrom_69 : decode stc_N_uniteFrom 69 = .ok (.iload 8, 2) := by decide +kernel
theorem std_N_uniteFrom_71 : decode stc_N_uniteFrom 71 = .ok (.aload_n 0, 1) := by decide +kernel
theorem std_N_uniteFrom_72 : decode stc_N_uniteFrom 72 = .ok (.getfield 36, 3) := by decide +kernel
theorem std_N_uniteFrom_75 : decode stc_N_uniteFrom 75 = .ok (.if_icmp .ge 105, 3) := by decide +kernel
theorem std_N_uniteFrom_180 : decode stc_N_uniteFrom 180 = .ok (.iload_n 2, 1) := by decide +kernel
theorem std_N_uniteFrom_181 : decode stc_N_uniteFrom 181 = .ok (.iload_n 3, 1) := by decide +kernel
theorem std_N_uniteFrom_182 : decode stc_N_uniteFrom 182 = .ok (.iload 4, 2) := by decide +kernel
theorem std_N_uniteFrom_184 : decode stc_N_uniteFrom 184 = .ok (.iload 5, 2) := by decide +kernel
theorem std_N_uniteFrom_186 : decode stc_N_uniteFrom 186 = .ok (.iload 6, 2) := by decide +kernel
theorem std_N_uniteFrom_188 : decode stc_N_uniteFrom 188 = .ok (.iload 7, 2) := by decide +kernel
theorem std_N_uniteFrom_190 : decode stc_N_uniteFrom 190 = .ok (.invokestatic 32, 3) := by decide +kernel
theorem std_N_uniteFrom_193 : decode stc_N_uniteFrom 193 = .ok (.lreturn, 1) := by decide +kernel
theorem std_N_uniteFrom_78 : decode stc_N_uniteFrom 78 = .ok (.iload_n 2, 1) := by decide +kernel
theorem std_N_uniteFrom_79 : decode stc_N_uniteFrom 79 = .ok (.aload_n 0, 1) := by decide +kernel
theorem std_N_uniteFrom_80 : decode stc_N_uniteFrom 80 = .ok (.getfield 11, 3) := by decide +kernel
theorem std_N_uniteFrom_83 : decode stc_N_uniteFrom 83 = .ok (.iload 8, 2) := by decide +kernel
theorem std_N_uniteFrom_85 : decode stc_N_uniteFrom 85 = .ok (.laload, 1) := by decide +kernel
theorem std_N_uniteFrom_86 : decode stc_N_uniteFrom 86 = .ok (.invokestatic 118, 3) := by decide +kernel
theorem std_N_uniteFrom_89 : decode stc_N_uniteFrom 89 = .ok (.invokestatic 112, 3) := by decide +kernel
theorem std_N_uniteFrom_92 : decode stc_N_uniteFrom 92 = .ok (.istore_n 2, 1) := by decide +kernel
theorem std_N_uniteFrom_93 : decode stc_N_uniteFrom 93 = .ok (.iload_n 3, 1) := by decide +kernel
theorem std_N_uniteFrom_94 : decode stc_N_uniteFrom 94 = .ok (.aload_n 0, 1) := by decide +kernel
theorem std_N_uniteFrom_95 : decode stc_N_uniteFrom 95 = .ok (.getfield 11, 3) := by decide +kernel
theorem std_N_uniteFrom_98 : decode stc_N_uniteFrom 98 = .ok (.iload 8, 2) := by decide +kernel
theorem std_N_uniteFrom_100 : decode stc_N_uniteFrom 100 = .ok (.laload, 1) := by decide +kernel
theorem std_N_uniteFrom_101 : decode stc_N_uniteFrom 101 = .ok (.invokestatic 96, 3) := by decide +kernel
theorem std_N_uniteFrom_104 : decode stc_N_uniteFrom 104 = .ok (.invokestatic 112, 3) := by decide +kernel
theorem std_N_uniteFrom_107 : decode stc_N_uniteFrom 107 = .ok (.istore_n 3, 1) := by decide +kernel
theorem std_N_uniteFrom_108 : decode stc_N_uniteFrom 108 = .ok (.iload 4, 2) := by decide +kernel
theorem std_N_uniteFrom_110 : decode stc_N_uniteFrom 110 = .ok (.aload_n 0, 1) := by decide +kernel
theorem std_N_uniteFrom_111 : decode stc_N_uniteFrom 111 = .ok (.getfield 11, 3) := by decide +kernel
theorem std_N_uniteFrom_114 : decode stc_N_uniteFrom 114 = .ok (.iload 8, 2) := by decide +kernel
theorem std_N_uniteFrom_116 : decode stc_N_uniteFrom 116 = .ok (.laload, 1) := by decide +kernel
theorem std_N_uniteFrom_117 : decode stc_N_uniteFrom 117 = .ok (.invokestatic 99, 3) := by decide +kernel
theorem std_N_uniteFrom_120 : decode stc_N_uniteFrom 120 = .ok (.invokestatic 112, 3) := by decide +kernel
theorem std_N_uniteFrom_123 : decode stc_N_uniteFrom 123 = .ok (.istore 4, 2) := by decide +kernel
theorem std_N_uniteFrom_125 : decode stc_N_uniteFrom 125 = .ok (.iload 5, 2) := by decide +kernel
theorem std_N_uniteFrom_127 : decode stc_N_uniteFrom 127 = .ok (.aload_n 0, 1) := by decide +kernel
theorem std_N_uniteFrom_128 : decode stc_N_uniteFrom 128 = .ok (.getfield 11, 3) := by decide +kernel
theorem std_N_uniteFrom_131 : decode stc_N_uniteFrom 131 = .ok (.iload 8, 2) := by decide +kernel
theorem std_N_uniteFrom_133 : decode stc_N_uniteFrom 133 = .ok (.laload, 1) := by decide +kernel
theorem std_N_uniteFrom_134 : decode stc_N_uniteFrom 134 = .ok (.invokestatic 106, 3) := by decide +kernel
theorem std_N_uniteFrom_137 : decode stc_N_uniteFrom 137 = .ok (.invokestatic 48, 3) := by decide +kernel
theorem kw_3_36 : Cond.methodLink "StateTables$NarrowLayers" 48 (Lib.Math.max.name) ∈ stGW := st_t3 (List.mem_of_getElem? (i := 36) (by decide +kernel)) (by decide +kernel)
theorem std_N_uniteFrom_140 : decode stc_N_uniteFrom 140 = .ok (.istore 5, 2) := by decide +kernel
theorem std_N_uniteFrom_142 : decode stc_N_uniteFrom 142 = .ok (.iload 6, 2) := by decide +kernel
theorem std_N_uniteFrom_144 : decode stc_N_uniteFrom 144 = .ok (.aload_n 0, 1) := by decide +kernel
theorem std_N_uniteFrom_145 : decode stc_N_uniteFrom 145 = .ok (.getfield 11, 3) := by decide +kernel
theorem std_N_uniteFrom_148 : decode stc_N_uniteFrom 148 = .ok (.iload 8, 2) := by decide +kernel
theorem std_N_uniteFrom_150 : decode stc_N_uniteFrom 150 = .ok (.laload, 1) := by decide +kernel
theorem std_N_uniteFrom_151 : decode stc_N_uniteFrom 151 = .ok (.invokestatic 115, 3) := by decide +kernel
theorem std_N_uniteFrom_154 : decode stc_N_uniteFrom 154 = .ok (.invokestatic 48, 3) := by decide +kernel
theorem std_N_uniteFrom_157 : decode stc_N_uniteFrom 157 = .ok (.istore 6, 2) := by decide +kernel
theorem std_N_uniteFrom_159 : decode stc_N_uniteFrom 159 = .ok (.iload 7, 2) := by decide +kernel
theorem std_N_uniteFrom_161 : decode stc_N_uniteFrom 161 = .ok (.aload_n 0, 1) := by decide +kernel
theorem std_N_uniteFrom_162 : decode stc_N_uniteFrom 162 = .ok (.getfield 11, 3) := by decide +kernel
theorem std_N_uniteFrom_165 : decode stc_N_uniteFrom 165 = .ok (.iload 8, 2) := by decide +kernel
theorem std_N_uniteFrom_167 : decode stc_N_uniteFrom 167 = .ok (.laload, 1) := by decide +kernel
theorem std_N_uniteFrom_168 : decode stc_N_uniteFrom 168 = .ok (.invokestatic 83, 3) := by decide +kernel
theorem std_N_uniteFrom_171 : decode stc_N_uniteFrom 171 = .ok (.ior, 1) := by decide +kernel
theorem std_N_uniteFrom_172 : decode stc_N_uniteFrom 172 = .ok (.istore 7, 2) := by decide +kernel
theorem std_N_uniteFrom_174 : decode stc_N_uniteFrom 174 = .ok (.iinc 8 1, 3) := by decide +kernel
theorem std_N_uniteFrom_177 : decode stc_N_uniteFrom 177 = .ok (.goto (-108), 3) := by decide +kernel
set_option maxHeartbeats 4000000 in
set_option maxRecDepth 100000 in
theorem c_uniteFrom (l : Launch) (dC : Nat → ClassId) (dI : Nat → Nat → Nat) (cI cJ cZ : ClassId) (n0 : Nat) (v1 : Nat) (v2 : Nat) (lo : Int) (wi : Int) (cu : Int) (si : Int) (nx : Int) (t0 : Nat) (fm : Int → Int) (b : Int) (dd : Int) (kb : 0 ≤ b ∧ b < si) (ksi : si ≤ 360) (kR : ∀ i, b ≤ i → i < si → WN dd (fm i)) (kdd : dd ≤ 12000) : ∀ sz, Met l sty_N_uniteFrom (Cond.code sty_N_uniteFrom stc_N_uniteFrom 9 (some .long) :: stGW) ({ frames := 1, cells := 0, slots := 0, locals := 27 } : Room) (va_Pc [.ref n0, .int (iI b)] (zPre (dC, dI) stCl [(cI, .int), (cJ, .long), (cZ, .boolean)] st_nw [(n0, .inr (4, [.ref t0, .int (iI lo), .int (iI wi), .int (iI cu), .int (iI si), .ref v1, .int (iI nx), .ref v2])), (v1, .inl (cJ, aL 360 fm))] sz)) (va_Ql (fun (r : Int64) (_ : Unit) => r = lI ((UI fm b si))) (zPost (dC, dI) stCl [(cI, .int), (cJ, .long), (cZ, .boolean)] [(n0, .inr (4, [.ref t0, .int (iI lo), .int (iI wi), .int (iI cu), .int (iI si), .ref v1, .int (iI nx), .ref v2])), (v1, .inl (cJ, aL 360 fm))] sz (fun _ : Unit => [(n0, .inr (4, [.ref t0, .int (iI lo), .int (iI wi), .int (iI cu), .int (iI si), .ref v1, .int (iI nx), .ref v2])), (v1, .inl (cJ, aL 360 fm))])) (va_A [(n0, .inr (4, [.ref t0, .int (iI lo), .int (iI wi), .int (iI cu), .int (iI si), .ref v1, .int (iI nx), .ref v2])), (v1, .inl (cJ, aL 360 fm))] sz)) 0 0 (va_A [(n0, .inr (4, [.ref t0, .int (iI lo), .int (iI wi), .int (iI cu), .int (iI si), .ref v1, .int (iI nx), .ref v2])), (v1, .inl (cJ, aL 360 fm))] sz) := by
  refine met_l (by decide) rfl (Nat.le_of_ble_eq_true rfl) ?_
  intro p e s m below meth c A Q C hmn hret
  have hR0 := kR b (by omega) (by omega)
  unfold WN at hR0
  refine g_aload_n C 0 std_N_uniteFrom_0 rfl ?_
  refine g_get C (st_sub sti_N) 0 rfl rfl 5 (by decide) (List.mem_cons_of_mem _ kw_1_169) rfl rfl std_N_uniteFrom_1 ?_
  refine g_iload_n C 1 std_N_uniteFrom_4 rfl ?_
  refine g_lald C 1 1 rfl rfl (by omega) (by omega) (by omega) std_N_uniteFrom_5 ?_
  refine g_S_i (wc := []) (wr := [(n0, .inr (4, [.ref t0, .int (iI lo), .int (iI wi), .int (iI cu), .int (iI si), .ref v1, .int (iI nx), .ref v2])), (v1, .inl (cJ, aL 360 fm))]) (rest := []) C (c_wcost l dC dI cI cJ cZ (fm b) (by omega)) (st_cS C kw_3_21 kw_3_19 kw_1_5 kw_3_20 sth_N_costOf ⟨Nat.le_of_ble_eq_true rfl, Nat.le_of_ble_eq_true rfl⟩) rfl rfl (Nat.le_of_ble_eq_true rfl) std_N_uniteFrom_6 ⟨Nat.le_of_ble_eq_true rfl, Nat.le_of_ble_eq_true rfl⟩ [] [0, 1] rfl rfl rfl rfl (by decide) (fun r1 u2 h3 => ?_)
  subst h3
  refine g_ws (ws' := [(n0, .inr (4, [.ref t0, .int (iI lo), .int (iI wi), .int (iI cu), .int (iI si), .ref v1, .int (iI nx), .ref v2])), (v1, .inl (cJ, aL 360 fm))]) rfl ?_
  refine g_istore_n C (lv' := [(2, .int (iI (((fm b) / 1073741824) - 12000))), (0, .ref n0), (1, .int (iI b))]) std_N_uniteFrom_9 (by decide) rfl ?_
  refine g_aload_n C 1 std_N_uniteFrom_10 rfl ?_
  refine g_get C (st_sub sti_N) 0 rfl rfl 5 (by decide) (List.mem_cons_of_mem _ kw_1_169) rfl rfl std_N_uniteFrom_11 ?_
  refine g_iload_n C 2 std_N_uniteFrom_14 rfl ?_
  refine g_lald C 1 1 rfl rfl (by omega) (by omega) (by omega) std_N_uniteFrom_15 ?_
  refine g_S_i (wc := []) (wr := [(n0, .inr (4, [.ref t0, .int (iI lo), .int (iI wi), .int (iI cu), .int (iI si), .ref v1, .int (iI nx), .ref v2])), (v1, .inl (cJ, aL 360 fm))]) (rest := []) C (c_lowOfFirst l dC dI cI cJ cZ (fm b) (by omega)) (st_cS C kw_3_7 kw_3_5 kw_1_5 kw_3_6 sth_N_lowOfFirst ⟨Nat.le_of_ble_eq_true rfl, Nat.le_of_ble_eq_true rfl⟩) rfl rfl (Nat.le_of_ble_eq_true rfl) std_N_uniteFrom_16 ⟨Nat.le_of_ble_eq_true rfl, Nat.le_of_ble_eq_true rfl⟩ [] [0, 1] rfl rfl rfl rfl (by decide) (fun r4 u5 h6 => ?_)
  subst h6
  refine g_ws (ws' := [(n0, .inr (4, [.ref t0, .int (iI lo), .int (iI wi), .int (iI cu), .int (iI si), .ref v1, .int (iI nx), .ref v2])), (v1, .inl (cJ, aL 360 fm))]) rfl ?_
  refine g_istore_n C (lv' := [(3, .int (iI (((fm b) / 16777216) % 64))), (2, .int (iI (((fm b) / 1073741824) - 12000))), (0, .ref n0), (1, .int (iI b))]) std_N_uniteFrom_19 (by decide) rfl ?_
  refine g_aload_n C 2 std_N_uniteFrom_20 rfl ?_
  refine g_get C (st_sub sti_N) 0 rfl rfl 5 (by decide) (List.mem_cons_of_mem _ kw_1_169) rfl rfl std_N_uniteFrom_21 ?_
  refine g_iload_n C 3 std_N_uniteFrom_24 rfl ?_
  refine g_lald C 1 1 rfl rfl (by omega) (by omega) (by omega) std_N_uniteFrom_25 ?_
  refine g_S_i (wc := []) (wr := [(n0, .inr (4, [.ref t0, .int (iI lo), .int (iI wi), .int (iI cu), .int (iI si), .ref v1, .int (iI nx), .ref v2])), (v1, .inl (cJ, aL 360 fm))]) (rest := []) C (c_lowOfSecond l dC dI cI cJ cZ (fm b) (by omega)) (st_cS C kw_3_10 kw_3_8 kw_1_5 kw_3_9 sth_N_lowOfSecond ⟨Nat.le_of_ble_eq_true rfl, Nat.le_of_ble_eq_true rfl⟩) rfl rfl (Nat.le_of_ble_eq_true rfl) std_N_uniteFrom_26 ⟨Nat.le_of_ble_eq_true rfl, Nat.le_of_ble_eq_true rfl⟩ [] [0, 1] rfl rfl rfl rfl (by decide) (fun r7 u8 h9 => ?_)
  subst h9
  refine g_ws (ws' := [(n0, .inr (4, [.ref t0, .int (iI lo), .int (iI wi), .int (iI cu), .int (iI si), .ref v1, .int (iI nx), .ref v2])), (v1, .inl (cJ, aL 360 fm))]) rfl ?_
  refine g_istore C (lv' := [(4, .int (iI (((fm b) / 262144) % 64))), (3, .int (iI (((fm b) / 16777216) % 64))), (2, .int (iI (((fm b) / 1073741824) - 12000))), (0, .ref n0), (1, .int (iI b))]) std_N_uniteFrom_29 (by decide) rfl ?_
  refine g_aload_n C 3 std_N_uniteFrom_31 rfl ?_
  refine g_get C (st_sub sti_N) 0 rfl rfl 5 (by decide) (List.mem_cons_of_mem _ kw_1_169) rfl rfl std_N_uniteFrom_32 ?_
  refine g_iload_n C 4 std_N_uniteFrom_35 rfl ?_
  refine g_lald C 1 1 rfl rfl (by omega) (by omega) (by omega) std_N_uniteFrom_36 ?_
  refine g_S_i (wc := []) (wr := [(n0, .inr (4, [.ref t0, .int (iI lo), .int (iI wi), .int (iI cu), .int (iI si), .ref v1, .int (iI nx), .ref v2])), (v1, .inl (cJ, aL 360 fm))]) (rest := []) C (c_highOfFirst l dC dI cI cJ cZ (fm b) (by omega)) (st_cS C kw_3_14 kw_3_12 kw_1_5 kw_3_13 sth_N_highOfFirst ⟨Nat.le_of_ble_eq_true rfl, Nat.le_of_ble_eq_true rfl⟩) rfl rfl (Nat.le_of_ble_eq_true rfl) std_N_uniteFrom_37 ⟨Nat.le_of_ble_eq_true rfl, Nat.le_of_ble_eq_true rfl⟩ [] [0, 1] rfl rfl rfl rfl (by decide) (fun r10 u11 h12 => ?_)
  subst h12
  refine g_ws (ws' := [(n0, .inr (4, [.ref t0, .int (iI lo), .int (iI wi), .int (iI cu), .int (iI si), .ref v1, .int (iI nx), .ref v2])), (v1, .inl (cJ, aL 360 fm))]) rfl ?_
  refine g_istore C (lv' := [(5, .int (iI (((fm b) / 4096) % 64))), (4, .int (iI (((fm b) / 262144) % 64))), (3, .int (iI (((fm b) / 16777216) % 64))), (2, .int (iI (((fm b) / 1073741824) - 12000))), (0, .ref n0), (1, .int (iI b))]) std_N_uniteFrom_40 (by decide) rfl ?_
  refine g_aload_n C 4 std_N_uniteFrom_42 rfl ?_
  refine g_get C (st_sub sti_N) 0 rfl rfl 5 (by decide) (List.mem_cons_of_mem _ kw_1_169) rfl rfl std_N_uniteFrom_43 ?_
  refine g_iload_n C 5 std_N_uniteFrom_46 rfl ?_
  refine g_lald C 1 1 rfl rfl (by omega) (by omega) (by omega) std_N_uniteFrom_47 ?_
  refine g_S_i (wc := []) (wr := [(n0, .inr (4, [.ref t0, .int (iI lo), .int (iI wi), .int (iI cu), .int (iI si), .ref v1, .int (iI nx), .ref v2])), (v1, .inl (cJ, aL 360 fm))]) (rest := []) C (c_highOfSecond l dC dI cI cJ cZ (fm b) (by omega)) (st_cS C kw_3_18 kw_3_16 kw_1_5 kw_3_17 sth_N_highOfSecond ⟨Nat.le_of_ble_eq_true rfl, Nat.le_of_ble_eq_true rfl⟩) rfl rfl (Nat.le_of_ble_eq_true rfl) std_N_uniteFrom_48 ⟨Nat.le_of_ble_eq_true rfl, Nat.le_of_ble_eq_true rfl⟩ [] [0, 1] rfl rfl rfl rfl (by decide) (fun r13 u14 h15 => ?_)
  subst h15
  refine g_ws (ws' := [(n0, .inr (4, [.ref t0, .int (iI lo), .int (iI wi), .int (iI cu), .int (iI si), .ref v1, .int (iI nx), .ref v2])), (v1, .inl (cJ, aL 360 fm))]) rfl ?_
  refine g_istore C (lv' := [(6, .int (iI (((fm b) / 64) % 64))), (5, .int (iI (((fm b) / 4096) % 64))), (4, .int (iI (((fm b) / 262144) % 64))), (3, .int (iI (((fm b) / 16777216) % 64))), (2, .int (iI (((fm b) / 1073741824) - 12000))), (0, .ref n0), (1, .int (iI b))]) std_N_uniteFrom_51 (by decide) rfl ?_
  refine g_aload_n C 5 std_N_uniteFrom_53 rfl ?_
  refine g_get C (st_sub sti_N) 0 rfl rfl 5 (by decide) (List.mem_cons_of_mem _ kw_1_169) rfl rfl std_N_uniteFrom_54 ?_
  refine g_iload_n C 6 std_N_uniteFrom_57 rfl ?_
  refine g_lald C 1 1 rfl rfl (by omega) (by omega) (by omega) std_N_uniteFrom_58 ?_
  refine g_S_i (wc := []) (wr := [(n0, .inr (4, [.ref t0, .int (iI lo), .int (iI wi), .int (iI cu), .int (iI si), .ref v1, .int (iI nx), .ref v2])), (v1, .inl (cJ, aL 360 fm))]) (rest := []) C (c_lastsOf l dC dI cI cJ cZ (fm b) (by omega)) (st_cS C kw_3_4 kw_3_2 kw_1_5 kw_3_3 sth_N_lastsOf ⟨Nat.le_of_ble_eq_true rfl, Nat.le_of_ble_eq_true rfl⟩) rfl rfl (Nat.le_of_ble_eq_true rfl) std_N_uniteFrom_59 ⟨Nat.le_of_ble_eq_true rfl, Nat.le_of_ble_eq_true rfl⟩ [] [0, 1] rfl rfl rfl rfl (by decide) (fun r16 u17 h18 => ?_)
  subst h18
  refine g_ws (ws' := [(n0, .inr (4, [.ref t0, .int (iI lo), .int (iI wi), .int (iI cu), .int (iI si), .ref v1, .int (iI nx), .ref v2])), (v1, .inl (cJ, aL 360 fm))]) rfl ?_
  refine g_istore C (lv' := [(7, .int (iI ((fm b) % 64))), (6, .int (iI (((fm b) / 64) % 64))), (5, .int (iI (((fm b) / 4096) % 64))), (4, .int (iI (((fm b) / 262144) % 64))), (3, .int (iI (((fm b) / 16777216) % 64))), (2, .int (iI (((fm b) / 1073741824) - 12000))), (0, .ref n0), (1, .int (iI b))]) std_N_uniteFrom_62 (by decide) rfl ?_
  refine g_iload_n C 7 std_N_uniteFrom_64 rfl ?_
  refine g_iconst C std_N_uniteFrom_65 ?_
  refine g_iadd C std_N_uniteFrom_66 ?_
  refine g_istore C (lv' := [(8, .int (iI (b + 1))), (7, .int (iI ((fm b) % 64))), (6, .int (iI (((fm b) / 64) % 64))), (5, .int (iI (((fm b) / 4096) % 64))), (4, .int (iI (((fm b) / 262144) % 64))), (3, .int (iI (((fm b) / 16777216) % 64))), (2, .int (iI (((fm b) / 1073741824) - 12000))), (0, .ref n0), (1, .int (iI b))]) std_N_uniteFrom_67 (by decide) rfl ?_
  have L69 : ∀ (nn69 : Nat) (x : Int) (z2 : Int) (z3 : Int) (z4 : Int) (z5 : Int) (z6 : Int) (z7 : Int), (b < x ∧ x ≤ si) → WQ (UI fm b x) z2 z3 z4 z5 z6 z7 → (si - x) < (nn69 : Int) → G p l e ({ frames := 1, cells := 0, slots := 0, locals := 27 } : Room) s m ([.ref n0, .int (iI b)] : List Value).toArray below meth c (dC, dI) stCl 9 A 0 0 Q [(n0, .inr (4, [.ref t0, .int (iI lo), .int (iI wi), .int (iI cu), .int (iI si), .ref v1, .int (iI nx), .ref v2])), (v1, .inl (cJ, aL 360 fm))] 69 [(8, .int (iI x)), (2, .int (iI z2)), (3, .int (iI z3)), (4, .int (iI z4)), (5, .int (iI z5)), (6, .int (iI z6)), (7, .int (iI z7)), (0, .ref n0), (1, .int (iI b))] [] := by
    intro nn69
    induction nn69 with
    | zero =>
      intro x z2 z3 z4 z5 z6 z7 kx kz hnn69
      exact absurd hnn69 (by omega)
    | succ nn69 ih69 =>
      intro x z2 z3 z4 z5 z6 z7 kx kz hnn69
      have hUI := ui_wn (by omega) kR x (by omega) (by omega)
      unfold WN at hUI
      have hz := kz
      unfold WQ at hz
      refine g_iload C 0 std_N_uniteFrom_69 rfl ?_
      refine g_aload_n C 7 std_N_uniteFrom_71 rfl ?_
      refine g_get C (st_sub sti_N) 0 rfl rfl 4 (by decide) (List.mem_cons_of_mem _ kw_1_168) rfl rfl std_N_uniteFrom_72 ?_
      refine g_icmp_ge (tgt := 180) C std_N_uniteFrom_75 (by decide) ⟨by omega, by omega⟩ ⟨by omega, by omega⟩ (fun c19 => ?_) (fun c19 => ?_)
      · refine g_iload_n C 1 std_N_uniteFrom_180 rfl ?_
        refine g_iload_n C 2 std_N_uniteFrom_181 rfl ?_
        refine g_iload C 3 std_N_uniteFrom_182 rfl ?_
        refine g_iload C 4 std_N_uniteFrom_184 rfl ?_
        refine g_iload C 5 std_N_uniteFrom_186 rfl ?_
        refine g_iload C 6 std_N_uniteFrom_188 rfl ?_
        refine g_S_l (wc := []) (wr := [(n0, .inr (4, [.ref t0, .int (iI lo), .int (iI wi), .int (iI cu), .int (iI si), .ref v1, .int (iI nx), .ref v2])), (v1, .inl (cJ, aL 360 fm))]) (rest := []) C (c_wideNode l dC dI cI cJ cZ z2 z3 z4 z5 z6 z7 (by omega) (by omega) (by omega) (by omega) (by omega) (by omega)) (st_cS C kw_2_232 kw_2_230 kw_1_5 kw_2_231 sth_N_wideNode ⟨Nat.le_of_ble_eq_true rfl, Nat.le_of_ble_eq_true rfl⟩) rfl rfl (Nat.le_of_ble_eq_true rfl) std_N_uniteFrom_190 ⟨Nat.le_of_ble_eq_true rfl, Nat.le_of_ble_eq_true rfl⟩ [] [0, 1] rfl rfl rfl rfl (by decide) (fun r20 u21 h22 => ?_)
        subst h22
        refine g_ws (ws' := [(n0, .inr (4, [.ref t0, .int (iI lo), .int (iI wi), .int (iI cu), .int (iI si), .ref v1, .int (iI nx), .ref v2])), (v1, .inl (cJ, aL 360 fm))]) rfl ?_
        refine g_wide (k := 0) (n := 0) (Nat.le_of_ble_eq_true rfl) (Nat.le_of_ble_eq_true rfl) ?_
        exact hret _ _ _ () (congrArg lI (wq_v (show WQ (UI fm b si) z2 z3 z4 z5 z6 z7 from (show x = si by omega) ▸ kz))) std_N_uniteFrom_193
      · have hRx := kR x (by omega) (by omega)
        unfold WN at hRx
        refine g_iload_n C 1 std_N_uniteFrom_78 rfl ?_
        refine g_aload_n C 7 std_N_uniteFrom_79 rfl ?_
        refine g_get C (st_sub sti_N) 0 rfl rfl 5 (by decide) (List.mem_cons_of_mem _ kw_1_169) rfl rfl std_N_uniteFrom_80 ?_
        refine g_iload C 0 std_N_uniteFrom_83 rfl ?_
        refine g_lald C 1 1 rfl rfl (by omega) (by omega) (by omega) std_N_uniteFrom_85 ?_
        refine g_S_i (wc := []) (wr := [(n0, .inr (4, [.ref t0, .int (iI lo), .int (iI wi), .int (iI cu), .int (iI si), .ref v1, .int (iI nx), .ref v2])), (v1, .inl (cJ, aL 360 fm))]) (rest := [.int (iI z2)]) C (c_wcost l dC dI cI cJ cZ (fm x) (by omega)) (st_cS C kw_3_21 kw_3_19 kw_1_5 kw_3_20 sth_N_costOf ⟨Nat.le_of_ble_eq_true rfl, Nat.le_of_ble_eq_true rfl⟩) rfl rfl (Nat.le_of_ble_eq_true rfl) std_N_uniteFrom_86 ⟨Nat.le_of_ble_eq_true rfl, Nat.le_of_ble_eq_true rfl⟩ [] [0, 1] rfl rfl rfl rfl (by decide) (fun r23 u24 h25 => ?_)
        subst h25
        refine g_ws (ws' := [(n0, .inr (4, [.ref t0, .int (iI lo), .int (iI wi), .int (iI cu), .int (iI si), .ref v1, .int (iI nx), .ref v2])), (v1, .inl (cJ, aL 360 fm))]) rfl ?_
        refine g_min C ⟨by omega, by omega⟩ ⟨by omega, by omega⟩ (List.mem_cons_of_mem _ kw_3_15) (List.mem_cons_of_mem _ kw_2_45) (List.mem_cons_of_mem _ kw_1_7) (List.mem_cons_of_mem _ kw_2_46) (Nat.le_of_ble_eq_true rfl) (Nat.le_of_ble_eq_true rfl) (Nat.le_of_ble_eq_true rfl) (Nat.le_of_ble_eq_true rfl) std_N_uniteFrom_89 ?_
        refine g_istore_n C (lv' := [(2, .int (iI (min z2 (((fm x) / 1073741824) - 12000)))), (8, .int (iI x)), (3, .int (iI z3)), (4, .int (iI z4)), (5, .int (iI z5)), (6, .int (iI z6)), (7, .int (iI z7)), (0, .ref n0), (1, .int (iI b))]) std_N_uniteFrom_92 (by decide) rfl ?_
        refine g_iload_n C 2 std_N_uniteFrom_93 rfl ?_
        refine g_aload_n C 7 std_N_uniteFrom_94 rfl ?_
        refine g_get C (st_sub sti_N) 0 rfl rfl 5 (by decide) (List.mem_cons_of_mem _ kw_1_169) rfl rfl std_N_uniteFrom_95 ?_
        refine g_iload C 1 std_N_uniteFrom_98 rfl ?_
        refine g_lald C 1 1 rfl rfl (by omega) (by omega) (by omega) std_N_uniteFrom_100 ?_
        refine g_S_i (wc := []) (wr := [(n0, .inr (4, [.ref t0, .int (iI lo), .int (iI wi), .int (iI cu), .int (iI si), .ref v1, .int (iI nx), .ref v2])), (v1, .inl (cJ, aL 360 fm))]) (rest := [.int (iI z3)]) C (c_lowOfFirst l dC dI cI cJ cZ (fm x) (by omega)) (st_cS C kw_3_7 kw_3_5 kw_1_5 kw_3_6 sth_N_lowOfFirst ⟨Nat.le_of_ble_eq_true rfl, Nat.le_of_ble_eq_true rfl⟩) rfl rfl (Nat.le_of_ble_eq_true rfl) std_N_uniteFrom_101 ⟨Nat.le_of_ble_eq_true rfl, Nat.le_of_ble_eq_true rfl⟩ [] [0, 1] rfl rfl rfl rfl (by decide) (fun r26 u27 h28 => ?_)
        subst h28
        refine g_ws (ws' := [(n0, .inr (4, [.ref t0, .int (iI lo), .int (iI wi), .int (iI cu), .int (iI si), .ref v1, .int (iI nx), .ref v2])), (v1, .inl (cJ, aL 360 fm))]) rfl ?_
        refine g_min C ⟨by omega, by omega⟩ ⟨by omega, by omega⟩ (List.mem_cons_of_mem _ kw_3_15) (List.mem_cons_of_mem _ kw_2_45) (List.mem_cons_of_mem _ kw_1_7) (List.mem_cons_of_mem _ kw_2_46) (Nat.le_of_ble_eq_true rfl) (Nat.le_of_ble_eq_true rfl) (Nat.le_of_ble_eq_true rfl) (Nat.le_of_ble_eq_true rfl) std_N_uniteFrom_104 ?_
        refine g_istore_n C (lv' := [(3, .int (iI (min z3 (((fm x) / 16777216) % 64)))), (2, .int (iI (min z2 (((fm x) / 1073741824) - 12000)))), (8, .int (iI x)), (4, .int (iI z4)), (5, .int (iI z5)), (6, .int (iI z6)), (7, .int (iI z7)), (0, .ref n0), (1, .int (iI b))]) std_N_uniteFrom_107 (by decide) rfl ?_
        refine g_iload C 3 std_N_uniteFrom_108 rfl ?_
        refine g_aload_n C 7 std_N_uniteFrom_110 rfl ?_
        refine g_get C (st_sub sti_N) 0 rfl rfl 5 (by decide) (List.mem_cons_of_mem _ kw_1_169) rfl rfl std_N_uniteFrom_111 ?_
        refine g_iload C 2 std_N_uniteFrom_114 rfl ?_
        refine g_lald C 1 1 rfl rfl (by omega) (by omega) (by omega) std_N_uniteFrom_116 ?_
        refine g_S_i (wc := []) (wr := [(n0, .inr (4, [.ref t0, .int (iI lo), .int (iI wi), .int (iI cu), .int (iI si), .ref v1, .int (iI nx), .ref v2])), (v1, .inl (cJ, aL 360 fm))]) (rest := [.int (iI z4)]) C (c_lowOfSecond l dC dI cI cJ cZ (fm x) (by omega)) (st_cS C kw_3_10 kw_3_8 kw_1_5 kw_3_9 sth_N_lowOfSecond ⟨Nat.le_of_ble_eq_true rfl, Nat.le_of_ble_eq_true rfl⟩) rfl rfl (Nat.le_of_ble_eq_true rfl) std_N_uniteFrom_117 ⟨Nat.le_of_ble_eq_true rfl, Nat.le_of_ble_eq_true rfl⟩ [] [0, 1] rfl rfl rfl rfl (by decide) (fun r29 u30 h31 => ?_)
        subst h31
        refine g_ws (ws' := [(n0, .inr (4, [.ref t0, .int (iI lo), .int (iI wi), .int (iI cu), .int (iI si), .ref v1, .int (iI nx), .ref v2])), (v1, .inl (cJ, aL 360 fm))]) rfl ?_
        refine g_min C ⟨by omega, by omega⟩ ⟨by omega, by omega⟩ (List.mem_cons_of_mem _ kw_3_15) (List.mem_cons_of_mem _ kw_2_45) (List.mem_cons_of_mem _ kw_1_7) (List.mem_cons_of_mem _ kw_2_46) (Nat.le_of_ble_eq_true rfl) (Nat.le_of_ble_eq_true rfl) (Nat.le_of_ble_eq_true rfl) (Nat.le_of_ble_eq_true rfl) std_N_uniteFrom_120 ?_
        refine g_istore C (lv' := [(4, .int (iI (min z4 (((fm x) / 262144) % 64)))), (3, .int (iI (min z3 (((fm x) / 16777216) % 64)))), (2, .int (iI (min z2 (((fm x) / 1073741824) - 12000)))), (8, .int (iI x)), (5, .int (iI z5)), (6, .int (iI z6)), (7, .int (iI z7)), (0, .ref n0), (1, .int (iI b))]) std_N_uniteFrom_123 (by decide) rfl ?_
        refine g_iload C 4 std_N_uniteFrom_125 rfl ?_
        refine g_aload_n C 7 std_N_uniteFrom_127 rfl ?_
        refine g_get C (st_sub sti_N) 0 rfl rfl 5 (by decide) (List.mem_cons_of_mem _ kw_1_169) rfl rfl std_N_uniteFrom_128 ?_
        refine g_iload C 3 std_N_uniteFrom_131 rfl ?_
        refine g_lald C 1 1 rfl rfl (by omega) (by omega) (by omega) std_N_uniteFrom_133 ?_
        refine g_S_i (wc := []) (wr := [(n0, .inr (4, [.ref t0, .int (iI lo), .int (iI wi), .int (iI cu), .int (iI si), .ref v1, .int (iI nx), .ref v2])), (v1, .inl (cJ, aL 360 fm))]) (rest := [.int (iI z5)]) C (c_highOfFirst l dC dI cI cJ cZ (fm x) (by omega)) (st_cS C kw_3_14 kw_3_12 kw_1_5 kw_3_13 sth_N_highOfFirst ⟨Nat.le_of_ble_eq_true rfl, Nat.le_of_ble_eq_true rfl⟩) rfl rfl (Nat.le_of_ble_eq_true rfl) std_N_uniteFrom_134 ⟨Nat.le_of_ble_eq_true rfl, Nat.le_of_ble_eq_true rfl⟩ [] [0, 1] rfl rfl rfl rfl (by decide) (fun r32 u33 h34 => ?_)
        subst h34
        refine g_ws (ws' := [(n0, .inr (4, [.ref t0, .int (iI lo), .int (iI wi), .int (iI cu), .int (iI si), .ref v1, .int (iI nx), .ref v2])), (v1, .inl (cJ, aL 360 fm))]) rfl ?_
        refine g_max C ⟨by omega, by omega⟩ ⟨by omega, by omega⟩ (List.mem_cons_of_mem _ kw_3_36) (List.mem_cons_of_mem _ kw_2_52) (List.mem_cons_of_mem _ kw_1_7) (List.mem_cons_of_mem _ kw_2_53) (Nat.le_of_ble_eq_true rfl) (Nat.le_of_ble_eq_true rfl) (Nat.le_of_ble_eq_true rfl) (Nat.le_of_ble_eq_true rfl) std_N_uniteFrom_137 ?_
        refine g_istore C (lv' := [(5, .int (iI (max z5 (((fm x) / 4096) % 64)))), (4, .int (iI (min z4 (((fm x) / 262144) % 64)))), (3, .int (iI (min z3 (((fm x) / 16777216) % 64)))), (2, .int (iI (min z2 (((fm x) / 1073741824) - 12000)))), (8, .int (iI x)), (6, .int (iI z6)), (7, .int (iI z7)), (0, .ref n0), (1, .int (iI b))]) std_N_uniteFrom_140 (by decide) rfl ?_
        refine g_iload C 5 std_N_uniteFrom_142 rfl ?_
        refine g_aload_n C 7 std_N_uniteFrom_144 rfl ?_
        refine g_get C (st_sub sti_N) 0 rfl rfl 5 (by decide) (List.mem_cons_of_mem _ kw_1_169) rfl rfl std_N_uniteFrom_145 ?_
        refine g_iload C 4 std_N_uniteFrom_148 rfl ?_
        refine g_lald C 1 1 rfl rfl (by omega) (by omega) (by omega) std_N_uniteFrom_150 ?_
        refine g_S_i (wc := []) (wr := [(n0, .inr (4, [.ref t0, .int (iI lo), .int (iI wi), .int (iI cu), .int (iI si), .ref v1, .int (iI nx), .ref v2])), (v1, .inl (cJ, aL 360 fm))]) (rest := [.int (iI z6)]) C (c_highOfSecond l dC dI cI cJ cZ (fm x) (by omega)) (st_cS C kw_3_18 kw_3_16 kw_1_5 kw_3_17 sth_N_highOfSecond ⟨Nat.le_of_ble_eq_true rfl, Nat.le_of_ble_eq_true rfl⟩) rfl rfl (Nat.le_of_ble_eq_true rfl) std_N_uniteFrom_151 ⟨Nat.le_of_ble_eq_true rfl, Nat.le_of_ble_eq_true rfl⟩ [] [0, 1] rfl rfl rfl rfl (by decide) (fun r35 u36 h37 => ?_)
        subst h37
        refine g_ws (ws' := [(n0, .inr (4, [.ref t0, .int (iI lo), .int (iI wi), .int (iI cu), .int (iI si), .ref v1, .int (iI nx), .ref v2])), (v1, .inl (cJ, aL 360 fm))]) rfl ?_
        refine g_max C ⟨by omega, by omega⟩ ⟨by omega, by omega⟩ (List.mem_cons_of_mem _ kw_3_36) (List.mem_cons_of_mem _ kw_2_52) (List.mem_cons_of_mem _ kw_1_7) (List.mem_cons_of_mem _ kw_2_53) (Nat.le_of_ble_eq_true rfl) (Nat.le_of_ble_eq_true rfl) (Nat.le_of_ble_eq_true rfl) (Nat.le_of_ble_eq_true rfl) std_N_uniteFrom_154 ?_
        refine g_istore C (lv' := [(6, .int (iI (max z6 (((fm x) / 64) % 64)))), (5, .int (iI (max z5 (((fm x) / 4096) % 64)))), (4, .int (iI (min z4 (((fm x) / 262144) % 64)))), (3, .int (iI (min z3 (((fm x) / 16777216) % 64)))), (2, .int (iI (min z2 (((fm x) / 1073741824) - 12000)))), (8, .int (iI x)), (7, .int (iI z7)), (0, .ref n0), (1, .int (iI b))]) std_N_uniteFrom_157 (by decide) rfl ?_
        refine g_iload C 6 std_N_uniteFrom_159 rfl ?_
        refine g_aload_n C 7 std_N_uniteFrom_161 rfl ?_
        refine g_get C (st_sub sti_N) 0 rfl rfl 5 (by decide) (List.mem_cons_of_mem _ kw_1_169) rfl rfl std_N_uniteFrom_162 ?_
        refine g_iload C 5 std_N_uniteFrom_165 rfl ?_
        refine g_lald C 1 1 rfl rfl (by omega) (by omega) (by omega) std_N_uniteFrom_167 ?_
        refine g_S_i (wc := []) (wr := [(n0, .inr (4, [.ref t0, .int (iI lo), .int (iI wi), .int (iI cu), .int (iI si), .ref v1, .int (iI nx), .ref v2])), (v1, .inl (cJ, aL 360 fm))]) (rest := [.int (iI z7)]) C (c_lastsOf l dC dI cI cJ cZ (fm x) (by omega)) (st_cS C kw_3_4 kw_3_2 kw_1_5 kw_3_3 sth_N_lastsOf ⟨Nat.le_of_ble_eq_true rfl, Nat.le_of_ble_eq_true rfl⟩) rfl rfl (Nat.le_of_ble_eq_true rfl) std_N_uniteFrom_168 ⟨Nat.le_of_ble_eq_true rfl, Nat.le_of_ble_eq_true rfl⟩ [] [0, 1] rfl rfl rfl rfl (by decide) (fun r38 u39 h40 => ?_)
        subst h40
        refine g_ws (ws' := [(n0, .inr (4, [.ref t0, .int (iI lo), .int (iI wi), .int (iI cu), .int (iI si), .ref v1, .int (iI nx), .ref v2])), (v1, .inl (cJ, aL 360 fm))]) rfl ?_
        refine g_ior C (z := (orm z7 ((fm x) % 64))) std_N_uniteFrom_171 (iI_of _) ?_
        refine g_istore C (lv' := [(7, .int (iI (orm z7 ((fm x) % 64)))), (6, .int (iI (max z6 (((fm x) / 64) % 64)))), (5, .int (iI (max z5 (((fm x) / 4096) % 64)))), (4, .int (iI (min z4 (((fm x) / 262144) % 64)))), (3, .int (iI (min z3 (((fm x) / 16777216) % 64)))), (2, .int (iI (min z2 (((fm x) / 1073741824) - 12000)))), (8, .int (iI x)), (0, .ref n0), (1, .int (iI b))]) std_N_uniteFrom_172 (by decide) rfl ?_
        refine g_iinc C (lv' := [(8, .int (iI (x + 1))), (7, .int (iI (orm z7 ((fm x) % 64)))), (6, .int (iI (max z6 (((fm x) / 64) % 64)))), (5, .int (iI (max z5 (((fm x) / 4096) % 64)))), (4, .int (iI (min z4 (((fm x) / 262144) % 64)))), (3, .int (iI (min z3 (((fm x) / 16777216) % 64)))), (2, .int (iI (min z2 (((fm x) / 1073741824) - 12000)))), (0, .ref n0), (1, .int (iI b))]) 6 std_N_uniteFrom_174 rfl (by decide) rfl ?_
        refine g_goto (tgt := 69) C std_N_uniteFrom_177 (by decide) ?_
        refine g_lv (lv' := [(8, .int (iI (x + 1))), (2, .int (iI (min z2 (((fm x) / 1073741824) - 12000)))), (3, .int (iI (min z3 (((fm x) / 16777216) % 64)))), (4, .int (iI (min z4 (((fm x) / 262144) % 64)))), (5, .int (iI (max z5 (((fm x) / 4096) % 64)))), (6, .int (iI (max z6 (((fm x) / 64) % 64)))), (7, .int (iI (orm z7 ((fm x) % 64)))), (0, .ref n0), (1, .int (iI b))]) [0, 6, 5, 4, 3, 2, 1, 7, 8] rfl ?_
        refine g_wide (k := 0) (n := 0) (Nat.le_of_ble_eq_true rfl) (Nat.le_of_ble_eq_true rfl) ?_
        exact ih69 (x + 1) (min z2 (((fm x) / 1073741824) - 12000)) (min z3 (((fm x) / 16777216) % 64)) (min z4 (((fm x) / 262144) % 64)) (max z5 (((fm x) / 4096) % 64)) (max z6 (((fm x) / 64) % 64)) (orm z7 ((fm x) % 64)) (by omega) (by rw [ui_s (by omega)]; exact un_q kz) (by omega)
  refine g_lv (lv' := [(8, .int (iI (b + 1))), (2, .int (iI (((fm b) / 1073741824) - 12000))), (3, .int (iI (((fm b) / 16777216) % 64))), (4, .int (iI (((fm b) / 262144) % 64))), (5, .int (iI (((fm b) / 4096) % 64))), (6, .int (iI (((fm b) / 64) % 64))), (7, .int (iI ((fm b) % 64))), (0, .ref n0), (1, .int (iI b))]) [0, 6, 5, 4, 3, 2, 1, 7, 8] rfl ?_
  refine g_wide (k := 0) (n := 0) (Nat.le_of_ble_eq_true rfl) (Nat.le_of_ble_eq_true rfl) ?_
  obtain ⟨nn0, hnn0⟩ : ∃ nn0 : Nat, (si - (b + 1)) < (nn0 : Int) := z_nat _
  exact L69 nn0 (b + 1) (((fm b) / 1073741824) - 12000) (((fm b) / 16777216) % 64) (((fm b) / 262144) % 64) (((fm b) / 4096) % 64) (((fm b) / 64) % 64) ((fm b) % 64) (by omega) (by rw [ui_0]; exact wq_s) hnn0

abbrev sty_N_cutTo : MethodName := ⟨"StateTables$NarrowLayers", "cutTo", "(IZ)V"⟩
abbrev stc_N_cutTo : ByteArray := prog_4_method_13_code
theorem sth_N_cutTo : (sty_N_cutTo).cls ≠ "java/lang/invoke/MethodHandle" ∧ (sty_N_cutTo).cls ≠ "java/lang/invoke/VarHandle" ∧ (parseMethodDescriptor (sty_N_cutTo).desc).map (fun d => d.parameters.length) = some 2 := by decide +kernel
theorem std_N_cutTo_0 : decode stc_N_cutTo 0 = .ok (.aload_n 0, 1) := by decide +kernel
theorem std_N_cutTo_1 : decode stc_N_cutTo 1 = .ok (.dup, 1) := by decide +kernel
theorem std_N_cutTo_2 : decode stc_N_cutTo 2 = .ok (.getfield 29, 3) := by decide +kernel
theorem kw_1_166 : Cond.fieldLink "StateTables$NarrowLayers" 29 "StateTables$NarrowLayers" "cuts" "I" ∈ stGW := st_t1 (List.mem_of_getElem? (i := 166) (by decide +kernel)) (by decide +kernel)
theorem std_N_cutTo_5 : decode stc_N_cutTo 5 = .ok (.iconst 1, 1) := by decide +kernel
theorem std_N_cutTo_6 : decode stc_N_cutTo 6 = .ok (.iadd, 1) := by decide +kernel
theorem std_N_cutTo_7 : decode stc_N_cutTo 7 = .ok (.putfield 29, 3) := by decide +kernel
theorem std_N_cutTo_10 : decode stc_N_cutTo 10 = .ok (.iload_n 2, 1) := by decide +kernel
theorem std_N_cutTo_11 : decode stc_N_cutTo 11 = .ok (.ifCond .eq 38, 3) := by decide +kernel
theorem std_N_cutTo_49 : decode stc_N_cutTo 49 = .ok (.aload_n 0, 1) := by decide +kernel
theorem std_N_cutTo_50 : decode stc_N_cutTo 50 = .ok (.dup, 1) := by decide +kernel
theorem std_N_cutTo_51 : decode stc_N_cutTo 51 = .ok (.getfield 22, 3) := by decide +kernel
theorem kw_1_162 : Cond.fieldLink "StateTables$NarrowLayers" 22 "StateTables$NarrowLayers" "lost" "I" ∈ stGW := st_t1 (List.mem_of_getElem? (i := 162) (by decide +kernel)) (by decide +kernel)
theorem std_N_cutTo_54 : decode stc_N_cutTo 54 = .ok (.aload_n 0, 1) := by decide +kernel
theorem std_N_cutTo_55 : decode stc_N_cutTo 55 = .ok (.getfield 36, 3) := by decide +kernel
theorem std_N_cutTo_58 : decode stc_N_cutTo 58 = .ok (.iload_n 1, 1) := by decide +kernel
theorem std_N_cutTo_59 : decode stc_N_cutTo 59 = .ok (.isub, 1) := by decide +kernel
theorem std_N_cutTo_60 : decode stc_N_cutTo 60 = .ok (.iadd, 1) := by decide +kernel
theorem std_N_cutTo_61 : decode stc_N_cutTo 61 = .ok (.putfield 22, 3) := by decide +kernel
theorem std_N_cutTo_64 : decode stc_N_cutTo 64 = .ok (.aload_n 0, 1) := by decide +kernel
theorem std_N_cutTo_65 : decode stc_N_cutTo 65 = .ok (.iload_n 1, 1) := by decide +kernel
theorem std_N_cutTo_66 : decode stc_N_cutTo 66 = .ok (.putfield 36, 3) := by decide +kernel
theorem std_N_cutTo_69 : decode stc_N_cutTo 69 = .ok (.return_, 1) := by decide +kernel
theorem std_N_cutTo_14 : decode stc_N_cutTo 14 = .ok (.aload_n 0, 1) := by decide +kernel
theorem std_N_cutTo_15 : decode stc_N_cutTo 15 = .ok (.getfield 11, 3) := by decide +kernel
theorem std_N_cutTo_18 : decode stc_N_cutTo 18 = .ok (.iload_n 1, 1) := by decide +kernel
theorem std_N_cutTo_19 : decode stc_N_cutTo 19 = .ok (.iconst 1, 1) := by decide +kernel
theorem std_N_cutTo_20 : decode stc_N_cutTo 20 = .ok (.isub, 1) := by decide +kernel
theorem std_N_cutTo_21 : decode stc_N_cutTo 21 = .ok (.aload_n 0, 1) := by decide +kernel
theorem std_N_cutTo_22 : decode stc_N_cutTo 22 = .ok (.iload_n 1, 1) := by decide +kernel
theorem std_N_cutTo_23 : decode stc_N_cutTo 23 = .ok (.iconst 1, 1) := by decide +kernel
theorem std_N_cutTo_24 : decode stc_N_cutTo 24 = .ok (.isub, 1) := by decide +kernel
theorem std_N_cutTo_25 : decode stc_N_cutTo 25 = .ok (.invokevirtual 130, 3) := by decide +kernel
theorem kw_3_44 : Cond.code sty_N_uniteFrom stc_N_uniteFrom 9 (some .long) ∈ stGW := st_t3 (List.mem_of_getElem? (i := 44) (by decide +kernel)) (by decide +kernel)
theorem kw_3_41 : Cond.methodLink "StateTables$NarrowLayers" 130 (sty_N_uniteFrom) ∈ stGW := st_t3 (List.mem_of_getElem? (i := 41) (by decide +kernel)) (by decide +kernel)
theorem kw_3_43 : Cond.instanceMethod (sty_N_uniteFrom) ∈ stGW := st_t3 (List.mem_of_getElem? (i := 43) (by decide +kernel)) (by decide +kernel)
theorem kw_0_16 : Cond.selects "StateTables$NarrowLayers" (sty_N_uniteFrom) (sty_N_uniteFrom) ∈ stGW := st_t0 (List.mem_of_getElem? (i := 16) (by decide +kernel)) (by decide +kernel)
theorem std_N_cutTo_28 : decode stc_N_cutTo 28 = .ok (.lastore, 1) := by decide +kernel
theorem std_N_cutTo_29 : decode stc_N_cutTo 29 = .ok (.aload_n 0, 1) := by decide +kernel
theorem std_N_cutTo_30 : decode stc_N_cutTo 30 = .ok (.dup, 1) := by decide +kernel
theorem std_N_cutTo_31 : decode stc_N_cutTo 31 = .ok (.getfield 22, 3) := by decide +kernel
theorem std_N_cutTo_34 : decode stc_N_cutTo 34 = .ok (.aload_n 0, 1) := by decide +kernel
theorem std_N_cutTo_35 : decode stc_N_cutTo 35 = .ok (.getfield 36, 3) := by decide +kernel
theorem std_N_cutTo_38 : decode stc_N_cutTo 38 = .ok (.iload_n 1, 1) := by decide +kernel
theorem std_N_cutTo_39 : decode stc_N_cutTo 39 = .ok (.isub, 1) := by decide +kernel
theorem std_N_cutTo_40 : decode stc_N_cutTo 40 = .ok (.iconst 1, 1) := by decide +kernel
theorem std_N_cutTo_41 : decode stc_N_cutTo 41 = .ok (.iadd, 1) := by decide +kernel
theorem std_N_cutTo_42 : decode stc_N_cutTo 42 = .ok (.iadd, 1) := by decide +kernel
theorem std_N_cutTo_43 : decode stc_N_cutTo 43 = .ok (.putfield 22, 3) := by decide +kernel
theorem std_N_cutTo_46 : decode stc_N_cutTo 46 = .ok (.goto 18, 3) := by decide +kernel
set_option maxHeartbeats 4000000 in
set_option maxRecDepth 100000 in
theorem c_cutTo (l : Launch) (dC : Nat → ClassId) (dI : Nat → Nat → Nat) (cI cJ cZ : ClassId) (n0 : Nat) (v1 : Nat) (v2 : Nat) (lo : Int) (wi : Int) (cu : Int) (si : Int) (nx : Int) (t0 : Nat) (fm : Int → Int) (ww : Int) (lq : Prop) (dd : Int) (kw : 1 ≤ ww ∧ ww < si) (ksi : si ≤ 360) (kR : ∀ i, 0 ≤ i → i < si → WN dd (fm i)) (kdd : dd ≤ 12000) : ∀ sz, Met l sty_N_cutTo (Cond.code sty_N_cutTo stc_N_cutTo 3 none :: stGW) ({ frames := 2, cells := 0, slots := 0, locals := 55 } : Room) (va_Pc [.ref n0, .int (iI ww), .int (iI (bI lq))] (zPre (dC, dI) stCl [(cI, .int), (cJ, .long), (cZ, .boolean)] st_nw [(n0, .inr (4, [.ref t0, .int (iI lo), .int (iI wi), .int (iI cu), .int (iI si), .ref v1, .int (iI nx), .ref v2])), (v1, .inl (cJ, aL 360 fm))] sz)) (va_Qv (fun (u : (Int → Int) × Int) => ((lq ∧ u.2 = lo + (si - ww + 1) ∧ u.1 = uZ fm (ww - 1) (UI fm (ww - 1) si)) ∨ (¬ lq ∧ u.2 = lo + (si - ww) ∧ u.1 = fm))) (zPost (dC, dI) stCl [(cI, .int), (cJ, .long), (cZ, .boolean)] [(n0, .inr (4, [.ref t0, .int (iI lo), .int (iI wi), .int (iI cu), .int (iI si), .ref v1, .int (iI nx), .ref v2])), (v1, .inl (cJ, aL 360 fm))] sz (fun u : (Int → Int) × Int => [(n0, .inr (4, [.ref t0, .int (iI (u.2)), .int (iI wi), .int (iI (cu + 1)), .int (iI ww), .ref v1, .int (iI nx), .ref v2])), (v1, .inl (cJ, aL 360 (u.1)))])) (va_A [(n0, .inr (4, [.ref t0, .int (iI lo), .int (iI wi), .int (iI cu), .int (iI si), .ref v1, .int (iI nx), .ref v2])), (v1, .inl (cJ, aL 360 fm))] sz)) 0 0 (va_A [(n0, .inr (4, [.ref t0, .int (iI lo), .int (iI wi), .int (iI cu), .int (iI si), .ref v1, .int (iI nx), .ref v2])), (v1, .inl (cJ, aL 360 fm))] sz) := by
  refine met_v (by decide) rfl (Nat.le_of_ble_eq_true rfl) ?_
  intro p e s m below meth c A Q C hmn hret
  refine g_aload_n C 0 std_N_cutTo_0 rfl ?_
  refine g_dup C std_N_cutTo_1 rfl ?_
  refine g_get C (st_sub sti_N) 0 rfl rfl 3 (by decide) (List.mem_cons_of_mem _ kw_1_166) rfl rfl std_N_cutTo_2 ?_
  refine g_iconst C std_N_cutTo_5 ?_
  refine g_iadd C std_N_cutTo_6 ?_
  refine g_put C (ws' := [(n0, .inr (4, [.ref t0, .int (iI lo), .int (iI wi), .int (iI (cu + 1)), .int (iI si), .ref v1, .int (iI nx), .ref v2])), (v1, .inl (cJ, aL 360 fm))]) (st_sub sti_N) stt_N sto_N stn_N 0 rfl rfl 3 (by decide) (List.mem_cons_of_mem _ kw_1_166) rfl rfl rfl rfl (Nat.le_of_ble_eq_true rfl) std_N_cutTo_7 rfl ?_
  refine g_iload_n C 2 std_N_cutTo_10 rfl ?_
  refine g_ifeq_b (tgt := 49) C std_N_cutTo_11 (by decide) (fun c1 => ?_) (fun c1 => ?_)
  · refine g_aload_n C 0 std_N_cutTo_49 rfl ?_
    refine g_dup C std_N_cutTo_50 rfl ?_
    refine g_get C (st_sub sti_N) 0 rfl rfl 1 (by decide) (List.mem_cons_of_mem _ kw_1_162) rfl rfl std_N_cutTo_51 ?_
    refine g_aload_n C 0 std_N_cutTo_54 rfl ?_
    refine g_get C (st_sub sti_N) 0 rfl rfl 4 (by decide) (List.mem_cons_of_mem _ kw_1_168) rfl rfl std_N_cutTo_55 ?_
    refine g_iload_n C 1 std_N_cutTo_58 rfl ?_
    refine g_isub C std_N_cutTo_59 ?_
    refine g_iadd C std_N_cutTo_60 ?_
    refine g_put C (ws' := [(n0, .inr (4, [.ref t0, .int (iI (lo + (si - ww))), .int (iI wi), .int (iI (cu + 1)), .int (iI si), .ref v1, .int (iI nx), .ref v2])), (v1, .inl (cJ, aL 360 fm))]) (st_sub sti_N) stt_N sto_N stn_N 0 rfl rfl 1 (by decide) (List.mem_cons_of_mem _ kw_1_162) rfl rfl rfl rfl (Nat.le_of_ble_eq_true rfl) std_N_cutTo_61 rfl ?_
    refine g_aload_n C 0 std_N_cutTo_64 rfl ?_
    refine g_iload_n C 1 std_N_cutTo_65 rfl ?_
    refine g_put C (ws' := [(n0, .inr (4, [.ref t0, .int (iI (lo + (si - ww))), .int (iI wi), .int (iI (cu + 1)), .int (iI ww), .ref v1, .int (iI nx), .ref v2])), (v1, .inl (cJ, aL 360 fm))]) (st_sub sti_N) stt_N sto_N stn_N 0 rfl rfl 4 (by decide) (List.mem_cons_of_mem _ kw_1_168) rfl rfl rfl rfl (Nat.le_of_ble_eq_true rfl) std_N_cutTo_66 rfl ?_
    exact hret _ _ (fm, (lo + (si - ww))) (Or.inr ⟨c1, rfl, rfl⟩) std_N_cutTo_69
  · refine g_aload_n C 0 std_N_cutTo_14 rfl ?_
    refine g_get C (st_sub sti_N) 0 rfl rfl 5 (by decide) (List.mem_cons_of_mem _ kw_1_169) rfl rfl std_N_cutTo_15 ?_
    refine g_iload_n C 1 std_N_cutTo_18 rfl ?_
    refine g_iconst C std_N_cutTo_19 ?_
    refine g_isub C std_N_cutTo_20 ?_
    refine g_aload_n C 0 std_N_cutTo_21 rfl ?_
    refine g_iload_n C 1 std_N_cutTo_22 rfl ?_
    refine g_iconst C std_N_cutTo_23 ?_
    refine g_isub C std_N_cutTo_24 ?_
    refine g_V_l (wc := [(n0, .inr (4, [.ref t0, .int (iI lo), .int (iI wi), .int (iI (cu + 1)), .int (iI si), .ref v1, .int (iI nx), .ref v2])), (v1, .inl (cJ, aL 360 fm))]) (wr := []) (rest := [.int (iI (ww - 1)), .ref v1]) C (c_uniteFrom l dC dI cI cJ cZ n0 v1 v2 lo wi (cu + 1) si nx t0 fm (ww - 1) dd (by omega) (by omega) (fun i h1 h2 => kR i (by omega) h2) (by omega)) (st_cV C kw_3_44 kw_3_41 kw_1_5 kw_3_43 kw_0_16 sth_N_uniteFrom ⟨Nat.le_of_ble_eq_true rfl, Nat.le_of_ble_eq_true rfl⟩) 0 rfl rfl rfl rfl (Nat.le_of_ble_eq_true rfl) std_N_cutTo_25 ⟨Nat.le_of_ble_eq_true rfl, Nat.le_of_ble_eq_true rfl⟩ [0, 1] [] rfl rfl rfl rfl (by decide) (fun r2 u3 h4 => ?_)
    subst h4
    refine g_ws (ws' := [(n0, .inr (4, [.ref t0, .int (iI lo), .int (iI wi), .int (iI (cu + 1)), .int (iI si), .ref v1, .int (iI nx), .ref v2])), (v1, .inl (cJ, aL 360 fm))]) rfl ?_
    refine g_last C (ws' := [(n0, .inr (4, [.ref t0, .int (iI lo), .int (iI wi), .int (iI (cu + 1)), .int (iI si), .ref v1, .int (iI nx), .ref v2])), (v1, .inl (cJ, aL 360 (uZ fm (ww - 1) (UI fm (ww - 1) si))))]) 1 1 rfl rfl (by omega) (by omega) (by omega) std_N_cutTo_28 rfl ?_
    refine g_aload_n C 0 std_N_cutTo_29 rfl ?_
    refine g_dup C std_N_cutTo_30 rfl ?_
    refine g_get C (st_sub sti_N) 0 rfl rfl 1 (by decide) (List.mem_cons_of_mem _ kw_1_162) rfl rfl std_N_cutTo_31 ?_
    refine g_aload_n C 0 std_N_cutTo_34 rfl ?_
    refine g_get C (st_sub sti_N) 0 rfl rfl 4 (by decide) (List.mem_cons_of_mem _ kw_1_168) rfl rfl std_N_cutTo_35 ?_
    refine g_iload_n C 1 std_N_cutTo_38 rfl ?_
    refine g_isub C std_N_cutTo_39 ?_
    refine g_iconst C std_N_cutTo_40 ?_
    refine g_iadd C std_N_cutTo_41 ?_
    refine g_iadd C std_N_cutTo_42 ?_
    refine g_put C (ws' := [(n0, .inr (4, [.ref t0, .int (iI (lo + ((si - ww) + 1))), .int (iI wi), .int (iI (cu + 1)), .int (iI si), .ref v1, .int (iI nx), .ref v2])), (v1, .inl (cJ, aL 360 (uZ fm (ww - 1) (UI fm (ww - 1) si))))]) (st_sub sti_N) stt_N sto_N stn_N 0 rfl rfl 1 (by decide) (List.mem_cons_of_mem _ kw_1_162) rfl rfl rfl rfl (Nat.le_of_ble_eq_true rfl) std_N_cutTo_43 rfl ?_
    refine g_goto (tgt := 64) C std_N_cutTo_46 (by decide) ?_
    refine g_aload_n C 0 std_N_cutTo_64 rfl ?_
    refine g_iload_n C 1 std_N_cutTo_65 rfl ?_
    refine g_put C (ws' := [(n0, .inr (4, [.ref t0, .int (iI (lo + ((si - ww) + 1))), .int (iI wi), .int (iI (cu + 1)), .int (iI ww), .ref v1, .int (iI nx), .ref v2])), (v1, .inl (cJ, aL 360 (uZ fm (ww - 1) (UI fm (ww - 1) si))))]) (st_sub sti_N) stt_N sto_N stn_N 0 rfl rfl 4 (by decide) (List.mem_cons_of_mem _ kw_1_168) rfl rfl rfl rfl (Nat.le_of_ble_eq_true rfl) std_N_cutTo_66 rfl ?_
    refine g_wide (k := 0) (n := 0) (Nat.le_of_ble_eq_true rfl) (Nat.le_of_ble_eq_true rfl) ?_
    exact hret _ _ ((uZ fm (ww - 1) (UI fm (ww - 1) si)), (lo + ((si - ww) + 1))) (Or.inl ⟨c1, rfl, rfl⟩) std_N_cutTo_69

abbrev sty_N_leastCostOfEnough : MethodName := ⟨"StateTables$NarrowLayers", "leastCostOfEnough", "()I"⟩
abbrev stc_N_leastCostOfEnough : ByteArray := prog_4_method_15_code
theorem sth_N_leastCostOfEnough : (sty_N_leastCostOfEnough).cls ≠ "java/lang/invoke/MethodHandle" ∧ (sty_N_leastCostOfEnough).cls ≠ "java/lang/invoke/VarHandle" ∧ (parseMethodDescriptor (sty_N_leastCostOfEnough).desc).map (fun d => d.parameters.length) = some 0 := by decide +kernel
theorem std_N_leastCostOfEnough_0 : decode stc_N_leastCostOfEnough 0 = .ok (.iconst 0, 1) := by decide +kernel
theorem std_N_leastCostOfEnough_1 : decode stc_N_leastCostOfEnough 1 = .ok (.istore_n 1, 1) := by decide +kernel
theorem std_N_leastCostOfEnough_2 : decode stc_N_leastCostOfEnough 2 = .ok (.iload_n 1, 1) := by decide +kernel
theorem std_N_leastCostOfEnough_3 : decode stc_N_leastCostOfEnough 3 = .ok (.aload_n 0, 1) := by decide +kernel
theorem std_N_leastCostOfEnough_4 : decode stc_N_leastCostOfEnough 4 = .ok (.getfield 36, 3) := by decide +kernel
theorem std_N_leastCostOfEnough_7 : decode stc_N_leastCostOfEnough 7 = .ok (.if_icmp .ge 47, 3) := by decide +kernel
theorem std_N_leastCostOfEnough_54 : decode stc_N_leastCostOfEnough 54 = .ok (.ldc 137, 2) := by decide +kernel
theorem kw_3_50 : Cond.constant "StateTables$NarrowLayers" 137 (-1000000) ∈ stGW := st_t3 (List.mem_of_getElem? (i := 50) (by decide +kernel)) (by decide +kernel)
theorem std_N_leastCostOfEnough_56 : decode stc_N_leastCostOfEnough 56 = .ok (.ireturn, 1) := by decide +kernel
theorem std_N_leastCostOfEnough_10 : decode stc_N_leastCostOfEnough 10 = .ok (.aload_n 0, 1) := by decide +kernel
theorem std_N_leastCostOfEnough_11 : decode stc_N_leastCostOfEnough 11 = .ok (.getfield 18, 3) := by decide +kernel
theorem std_N_leastCostOfEnough_14 : decode stc_N_leastCostOfEnough 14 = .ok (.aload_n 0, 1) := by decide +kernel
theorem std_N_leastCostOfEnough_15 : decode stc_N_leastCostOfEnough 15 = .ok (.getfield 11, 3) := by decide +kernel
theorem std_N_leastCostOfEnough_18 : decode stc_N_leastCostOfEnough 18 = .ok (.iload_n 1, 1) := by decide +kernel
theorem std_N_leastCostOfEnough_19 : decode stc_N_leastCostOfEnough 19 = .ok (.laload, 1) := by decide +kernel
theorem std_N_leastCostOfEnough_20 : decode stc_N_leastCostOfEnough 20 = .ok (.invokestatic 106, 3) := by decide +kernel
theorem std_N_leastCostOfEnough_23 : decode stc_N_leastCostOfEnough 23 = .ok (.aload_n 0, 1) := by decide +kernel
theorem std_N_leastCostOfEnough_24 : decode stc_N_leastCostOfEnough 24 = .ok (.getfield 11, 3) := by decide +kernel
theorem std_N_leastCostOfEnough_27 : decode stc_N_leastCostOfEnough 27 = .ok (.iload_n 1, 1) := by decide +kernel
theorem std_N_leastCostOfEnough_28 : decode stc_N_leastCostOfEnough 28 = .ok (.laload, 1) := by decide +kernel
theorem std_N_leastCostOfEnough_29 : decode stc_N_leastCostOfEnough 29 = .ok (.invokestatic 115, 3) := by decide +kernel
theorem std_N_leastCostOfEnough_32 : decode stc_N_leastCostOfEnough 32 = .ok (.invokevirtual 134, 3) := by decide +kernel
theorem kw_3_49 : Cond.methodLink "StateTables$NarrowLayers" 134 (sty_T_isEnough) ∈ stGW := st_t3 (List.mem_of_getElem? (i := 49) (by decide +kernel)) (by decide +kernel)
theorem std_N_leastCostOfEnough_35 : decode stc_N_leastCostOfEnough 35 = .ok (.ifCond .eq 13, 3) := by decide +kernel
theorem std_N_leastCostOfEnough_48 : decode stc_N_leastCostOfEnough 48 = .ok (.iinc 1 1, 3) := by decide +kernel
theorem std_N_leastCostOfEnough_51 : decode stc_N_leastCostOfEnough 51 = .ok (.goto (-49), 3) := by decide +kernel
theorem std_N_leastCostOfEnough_38 : decode stc_N_leastCostOfEnough 38 = .ok (.aload_n 0, 1) := by decide +kernel
theorem std_N_leastCostOfEnough_39 : decode stc_N_leastCostOfEnough 39 = .ok (.getfield 11, 3) := by decide +kernel
theorem std_N_leastCostOfEnough_42 : decode stc_N_leastCostOfEnough 42 = .ok (.iload_n 1, 1) := by decide +kernel
theorem std_N_leastCostOfEnough_43 : decode stc_N_leastCostOfEnough 43 = .ok (.laload, 1) := by decide +kernel
theorem std_N_leastCostOfEnough_44 : decode stc_N_leastCostOfEnough 44 = .ok (.invokestatic 118, 3) := by decide +kernel
theorem std_N_leastCostOfEnough_47 : decode stc_N_leastCostOfEnough 47 = .ok (.ireturn, 1) := by decide +kernel
set_option maxHeartbeats 4000000 in
set_option maxRecDepth 100000 in
theorem c_leastCost (l : Launch) (dC : Nat → ClassId) (dI : Nat → Nat → Nat) (cI cJ cZ : ClassId) (n0 : Nat) (v1 : Nat) (v2 : Nat) (lo : Int) (wi : Int) (cu : Int) (si : Int) (nx : Int) (t0 : Nat) (hs : Nat) (hc : Nat) (hf : Nat) (hg : Nat) (hb : Nat) (he : Nat) (hm : Nat) (steps : Int) (choices : Int) (bars : Int) (fm : Int → Int) (fle : Int → Int) (dd : Int) (kle : ∀ j, 0 ≤ j → j < 2 → 0 ≤ fle j ∧ fle j ≤ 40) (ksi : 0 ≤ si ∧ si ≤ 360) (kR : ∀ i, 0 ≤ i → i < si → WN dd (fm i)) (kdd : dd ≤ 12000) : ∀ sz, Met l sty_N_leastCostOfEnough (Cond.code sty_N_leastCostOfEnough stc_N_leastCostOfEnough 2 (some .int) :: stGW) ({ frames := 1, cells := 0, slots := 0, locals := 22 } : Room) (va_Pc [.ref n0] (zPre (dC, dI) stCl [(cI, .int), (cJ, .long), (cZ, .boolean)] st_nw [(n0, .inr (4, [.ref t0, .int (iI lo), .int (iI wi), .int (iI cu), .int (iI si), .ref v1, .int (iI nx), .ref v2])), (v1, .inl (cJ, aL 360 fm)), (t0, .inr (1, [.int (iI steps), .int (iI choices), .int (iI bars), .ref hs, .ref hc, .ref hf, .ref hg, .ref hb, .ref he, .ref hm])), (he, .inl (cI, aI 2 fle))] sz)) (va_Qi (fun (r : Int32) (z : Int) => r = iI z ∧ WB fle fm si z) (zPost (dC, dI) stCl [(cI, .int), (cJ, .long), (cZ, .boolean)] [(n0, .inr (4, [.ref t0, .int (iI lo), .int (iI wi), .int (iI cu), .int (iI si), .ref v1, .int (iI nx), .ref v2])), (v1, .inl (cJ, aL 360 fm)), (t0, .inr (1, [.int (iI steps), .int (iI choices), .int (iI bars), .ref hs, .ref hc, .ref hf, .ref hg, .ref hb, .ref he, .ref hm])), (he, .inl (cI, aI 2 fle))] sz (fun _ : Int => [(n0, .inr (4, [.ref t0, .int (iI lo), .int (iI wi), .int (iI cu), .int (iI si), .ref v1, .int (iI nx), .ref v2])), (v1, .inl (cJ, aL 360 fm)), (t0, .inr (1, [.int (iI steps), .int (iI choices), .int (iI bars), .ref hs, .ref hc, .ref hf, .ref hg, .ref hb, .ref he, .ref hm])), (he, .inl (cI, aI 2 fle))])) (va_A [(n0, .inr (4, [.ref t0, .int (iI lo), .int (iI wi), .int (iI cu), .int (iI si), .ref v1, .int (iI nx), .ref v2])), (v1, .inl (cJ, aL 360 fm)), (t0, .inr (1, [.int (iI steps), .int (iI choices), .int (iI bars), .ref hs, .ref hc, .ref hf, .ref hg, .ref hb, .ref he, .ref hm])), (he, .inl (cI, aI 2 fle))] sz)) 0 0 (va_A [(n0, .inr (4, [.ref t0, .int (iI lo), .int (iI wi), .int (iI cu), .int (iI si), .ref v1, .int (iI nx), .ref v2])), (v1, .inl (cJ, aL 360 fm)), (t0, .inr (1, [.int (iI steps), .int (iI choices), .int (iI bars), .ref hs, .ref hc, .ref hf, .ref hg, .ref hb, .ref he, .ref hm])), (he, .inl (cI, aI 2 fle))] sz) := by
  refine met_i (by decide) rfl (Nat.le_of_ble_eq_true rfl) ?_
  intro p e s m below meth c A Q C hmn hret
  refine g_iconst C std_N_leastCostOfEnough_0 ?_
  refine g_istore_n C (lv' := [(1, .int (iI 0)), (0, .ref n0)]) std_N_leastCostOfEnough_1 (by decide) rfl ?_
  have L2 : ∀ (nn2 : Nat) (x : Int), (0 ≤ x ∧ x ≤ si) → (∀ j, 0 ≤ j → j < x → ¬ enh fle (fm j)) → (si - x) < (nn2 : Int) → G p l e ({ frames := 1, cells := 0, slots := 0, locals := 22 } : Room) s m ([.ref n0] : List Value).toArray below meth c (dC, dI) stCl 2 A 0 0 Q [(n0, .inr (4, [.ref t0, .int (iI lo), .int (iI wi), .int (iI cu), .int (iI si), .ref v1, .int (iI nx), .ref v2])), (v1, .inl (cJ, aL 360 fm)), (t0, .inr (1, [.int (iI steps), .int (iI choices), .int (iI bars), .ref hs, .ref hc, .ref hf, .ref hg, .ref hb, .ref he, .ref hm])), (he, .inl (cI, aI 2 fle))] 2 [(1, .int (iI x)), (0, .ref n0)] [] := by
    intro nn2
    induction nn2 with
    | zero =>
      intro x kx kJ hnn2
      exact absurd hnn2 (by omega)
    | succ nn2 ih2 =>
      intro x kx kJ hnn2
      refine g_iload_n C 0 std_N_leastCostOfEnough_2 rfl ?_
      refine g_aload_n C 1 std_N_leastCostOfEnough_3 rfl ?_
      refine g_get C (st_sub sti_N) 0 rfl rfl 4 (by decide) (List.mem_cons_of_mem _ kw_1_168) rfl rfl std_N_leastCostOfEnough_4 ?_
      refine g_icmp_ge (tgt := 54) C std_N_leastCostOfEnough_7 (by decide) ⟨by omega, by omega⟩ ⟨by omega, by omega⟩ (fun c1 => ?_) (fun c1 => ?_)
      · refine g_ldc C (z := (-1000000)) (List.mem_cons_of_mem _ kw_3_50) (by decide) std_N_leastCostOfEnough_54 ?_
        exact hret _ _ _ (-1000000) (⟨rfl, Or.inr ⟨fun j j1 j2 => kJ j j1 (by omega), rfl⟩⟩) std_N_leastCostOfEnough_56
      · have hRx := kR x (by omega) (by omega)
        have hRl := wn_lt hRx (by omega)
        refine g_aload_n C 1 std_N_leastCostOfEnough_10 rfl ?_
        refine g_get C (st_sub sti_N) 0 rfl rfl 0 (by decide) (List.mem_cons_of_mem _ kw_1_161) rfl rfl std_N_leastCostOfEnough_11 ?_
        refine g_aload_n C 1 std_N_leastCostOfEnough_14 rfl ?_
        refine g_get C (st_sub sti_N) 0 rfl rfl 5 (by decide) (List.mem_cons_of_mem _ kw_1_169) rfl rfl std_N_leastCostOfEnough_15 ?_
        refine g_iload_n C 0 std_N_leastCostOfEnough_18 rfl ?_
        refine g_lald C 1 1 rfl rfl (by omega) (by omega) (by omega) std_N_leastCostOfEnough_19 ?_
        refine g_S_i (wc := []) (wr := [(n0, .inr (4, [.ref t0, .int (iI lo), .int (iI wi), .int (iI cu), .int (iI si), .ref v1, .int (iI nx), .ref v2])), (v1, .inl (cJ, aL 360 fm)), (t0, .inr (1, [.int (iI steps), .int (iI choices), .int (iI bars), .ref hs, .ref hc, .ref hf, .ref hg, .ref hb, .ref he, .ref hm])), (he, .inl (cI, aI 2 fle))]) (rest := [.ref t0]) C (c_highOfFirst l dC dI cI cJ cZ (fm x) (by omega)) (st_cS C kw_3_14 kw_3_12 kw_1_5 kw_3_13 sth_N_highOfFirst ⟨Nat.le_of_ble_eq_true rfl, Nat.le_of_ble_eq_true rfl⟩) rfl rfl (Nat.le_of_ble_eq_true rfl) std_N_leastCostOfEnough_20 ⟨Nat.le_of_ble_eq_true rfl, Nat.le_of_ble_eq_true rfl⟩ [] [0, 1, 2, 3] rfl rfl rfl rfl (by decide) (fun r2 u3 h4 => ?_)
        subst h4
        refine g_ws (ws' := [(n0, .inr (4, [.ref t0, .int (iI lo), .int (iI wi), .int (iI cu), .int (iI si), .ref v1, .int (iI nx), .ref v2])), (v1, .inl (cJ, aL 360 fm)), (t0, .inr (1, [.int (iI steps), .int (iI choices), .int (iI bars), .ref hs, .ref hc, .ref hf, .ref hg, .ref hb, .ref he, .ref hm])), (he, .inl (cI, aI 2 fle))]) rfl ?_
        refine g_aload_n C 1 std_N_leastCostOfEnough_23 rfl ?_
        refine g_get C (st_sub sti_N) 0 rfl rfl 5 (by decide) (List.mem_cons_of_mem _ kw_1_169) rfl rfl std_N_leastCostOfEnough_24 ?_
        refine g_iload_n C 0 std_N_leastCostOfEnough_27 rfl ?_
        refine g_lald C 1 1 rfl rfl (by omega) (by omega) (by omega) std_N_leastCostOfEnough_28 ?_
        refine g_S_i (wc := []) (wr := [(n0, .inr (4, [.ref t0, .int (iI lo), .int (iI wi), .int (iI cu), .int (iI si), .ref v1, .int (iI nx), .ref v2])), (v1, .inl (cJ, aL 360 fm)), (t0, .inr (1, [.int (iI steps), .int (iI choices), .int (iI bars), .ref hs, .ref hc, .ref hf, .ref hg, .ref hb, .ref he, .ref hm])), (he, .inl (cI, aI 2 fle))]) (rest := [.int (iI (((fm x) / 4096) % 64)), .ref t0]) C (c_highOfSecond l dC dI cI cJ cZ (fm x) (by omega)) (st_cS C kw_3_18 kw_3_16 kw_1_5 kw_3_17 sth_N_highOfSecond ⟨Nat.le_of_ble_eq_true rfl, Nat.le_of_ble_eq_true rfl⟩) rfl rfl (Nat.le_of_ble_eq_true rfl) std_N_leastCostOfEnough_29 ⟨Nat.le_of_ble_eq_true rfl, Nat.le_of_ble_eq_true rfl⟩ [] [0, 1, 2, 3] rfl rfl rfl rfl (by decide) (fun r5 u6 h7 => ?_)
        subst h7
        refine g_ws (ws' := [(n0, .inr (4, [.ref t0, .int (iI lo), .int (iI wi), .int (iI cu), .int (iI si), .ref v1, .int (iI nx), .ref v2])), (v1, .inl (cJ, aL 360 fm)), (t0, .inr (1, [.int (iI steps), .int (iI choices), .int (iI bars), .ref hs, .ref hc, .ref hf, .ref hg, .ref hb, .ref he, .ref hm])), (he, .inl (cI, aI 2 fle))]) rfl ?_
        refine g_V_i (wc := [(t0, .inr (1, [.int (iI steps), .int (iI choices), .int (iI bars), .ref hs, .ref hc, .ref hf, .ref hg, .ref hb, .ref he, .ref hm])), (he, .inl (cI, aI 2 fle))]) (wr := [(n0, .inr (4, [.ref t0, .int (iI lo), .int (iI wi), .int (iI cu), .int (iI si), .ref v1, .int (iI nx), .ref v2])), (v1, .inl (cJ, aL 360 fm))]) (rest := []) C (c_isEnough l dC dI cI cJ cZ t0 hs hc hf hg hb he hm steps choices bars fle (((fm x) / 4096) % 64) (((fm x) / 64) % 64) (kle) (by unfold rI; omega) (by unfold rI; omega)) (st_cV C kw_2_117 kw_3_49 kw_1_2 kw_2_115 kw_2_116 sth_T_isEnough ⟨Nat.le_of_ble_eq_true rfl, Nat.le_of_ble_eq_true rfl⟩) 0 rfl rfl rfl rfl (Nat.le_of_ble_eq_true rfl) std_N_leastCostOfEnough_32 ⟨Nat.le_of_ble_eq_true rfl, Nat.le_of_ble_eq_true rfl⟩ [2, 3] [0, 1] rfl rfl rfl rfl (by decide) (fun r8 u9 h10 => ?_)
        subst h10
        refine g_ws (ws' := [(n0, .inr (4, [.ref t0, .int (iI lo), .int (iI wi), .int (iI cu), .int (iI si), .ref v1, .int (iI nx), .ref v2])), (v1, .inl (cJ, aL 360 fm)), (t0, .inr (1, [.int (iI steps), .int (iI choices), .int (iI bars), .ref hs, .ref hc, .ref hf, .ref hg, .ref hb, .ref he, .ref hm])), (he, .inl (cI, aI 2 fle))]) rfl ?_
        refine g_ifeq_b (tgt := 48) C std_N_leastCostOfEnough_35 (by decide) (fun c11 => ?_) (fun c11 => ?_)
        · refine g_iinc C (lv' := [(1, .int (iI (x + 1))), (0, .ref n0)]) 0 std_N_leastCostOfEnough_48 rfl (by decide) rfl ?_
          refine g_goto (tgt := 2) C std_N_leastCostOfEnough_51 (by decide) ?_
          refine g_wide (k := 0) (n := 0) (Nat.le_of_ble_eq_true rfl) (Nat.le_of_ble_eq_true rfl) ?_
          exact ih2 (x + 1) (by omega) (wb_n kJ c11) (by omega)
        · refine g_aload_n C 1 std_N_leastCostOfEnough_38 rfl ?_
          refine g_get C (st_sub sti_N) 0 rfl rfl 5 (by decide) (List.mem_cons_of_mem _ kw_1_169) rfl rfl std_N_leastCostOfEnough_39 ?_
          refine g_iload_n C 0 std_N_leastCostOfEnough_42 rfl ?_
          refine g_lald C 1 1 rfl rfl (by omega) (by omega) (by omega) std_N_leastCostOfEnough_43 ?_
          refine g_S_i (wc := []) (wr := [(n0, .inr (4, [.ref t0, .int (iI lo), .int (iI wi), .int (iI cu), .int (iI si), .ref v1, .int (iI nx), .ref v2])), (v1, .inl (cJ, aL 360 fm)), (t0, .inr (1, [.int (iI steps), .int (iI choices), .int (iI bars), .ref hs, .ref hc, .ref hf, .ref hg, .ref hb, .ref he, .ref hm])), (he, .inl (cI, aI 2 fle))]) (rest := []) C (c_wcost l dC dI cI cJ cZ (fm x) (by omega)) (st_cS C kw_3_21 kw_3_19 kw_1_5 kw_3_20 sth_N_costOf ⟨Nat.le_of_ble_eq_true rfl, Nat.le_of_ble_eq_true rfl⟩) rfl rfl (Nat.le_of_ble_eq_true rfl) std_N_leastCostOfEnough_44 ⟨Nat.le_of_ble_eq_true rfl, Nat.le_of_ble_eq_true rfl⟩ [] [0, 1, 2, 3] rfl rfl rfl rfl (by decide) (fun r12 u13 h14 => ?_)
          subst h14
          refine g_ws (ws' := [(n0, .inr (4, [.ref t0, .int (iI lo), .int (iI wi), .int (iI cu), .int (iI si), .ref v1, .int (iI nx), .ref v2])), (v1, .inl (cJ, aL 360 fm)), (t0, .inr (1, [.int (iI steps), .int (iI choices), .int (iI bars), .ref hs, .ref hc, .ref hf, .ref hg, .ref hb, .ref he, .ref hm])), (he, .inl (cI, aI 2 fle))]) rfl ?_
          refine g_wide (k := 0) (n := 0) (Nat.le_of_ble_eq_true rfl) (Nat.le_of_ble_eq_true rfl) ?_
          exact hret _ _ _ (((fm x) / 1073741824) - 12000) (⟨rfl, Or.inl ⟨x, ⟨by omega, by omega⟩, c11, kJ, rfl⟩⟩) std_N_leastCostOfEnough_47
  obtain ⟨nn0, hnn0⟩ : ∃ nn0 : Nat, (si - 0) < (nn0 : Int) := z_nat _
  exact L2 nn0 0 (by omega) (fun j j1 j2 => by omega) hnn0

