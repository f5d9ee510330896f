/-! THE LAW: its loop -/
theorem std_L_law_18 : decode stc_L_law 18 = .ok (.iload_n 3, 1) := by decide +kernel
theorem std_L_law_19 : decode stc_L_law 19 = .ok (.aload_n 0, 1) := by decide +kernel
theorem std_L_law_20 : decode stc_L_law 20 = .ok (.arraylength, 1) := by decide +kernel
theorem std_L_law_21 : decode stc_L_law 21 = .ok (.iconst 5, 1) := by decide +kernel
theorem std_L_law_22 : decode stc_L_law 22 = .ok (.isub, 1) := by decide +kernel
theorem std_L_law_23 : decode stc_L_law 23 = .ok (.if_icmp .gt 707, 3) := by decide +kernel
theorem std_L_law_730 : decode stc_L_law 730 = .ok (.iconst 1, 1) := by decide +kernel
theorem std_L_law_26 : decode stc_L_law 26 = .ok (.aload_n 0, 1) := by decide +kernel
theorem std_L_law_27 : decode stc_L_law 27 = .ok (.iload_n 3, 1) := by decide +kernel
theorem std_L_law_28 : decode stc_L_law 28 = .ok (.iaload, 1) := by decide +kernel
theorem std_L_law_29 : decode stc_L_law 29 = .ok (.bipush 31, 2) := by decide +kernel
theorem std_L_law_31 : decode stc_L_law 31 = .ok (.iand, 1) := by decide +kernel
theorem std_L_law_32 : decode stc_L_law 32 = .ok (.tableswitch 692 0 17 #[88, 101, 154, 197, 240, 309, 322, 335, 349, 362, 395, 418, 461, 521, 554, 597, 646, 669], 88) := by decide +kernel
theorem std_L_law_731 : decode stc_L_law 731 = .ok (.ireturn, 1) := by decide +kernel
set_option maxHeartbeats 4000000 in
set_option maxRecDepth 100000 in
theorem law_loop {p : Program} {e : Env} {s : State} {m : MethodId} {below : List Frame} {meth : Method} {c : Code} {A : Nat → Prop} {Q : State → Prop} (l : Launch) (dC : Nat → ClassId) (dI : Nat → Nat → Nat) (cI cJ cZ : ClassId) (b0 : Nat) (s0 : Nat) (t0 : Nat) (hs : Nat) (hc : Nat) (hf : Nat) (hg : Nat) (hb : Nat) (he : Nat) (hm : Nat) (y0 : Nat) (ys : Nat) (yu : Nat) (f0 : Nat) (n0 : Nat) (m0 : Nat) (k_ch : Nat) (k_co : Nat) (k_ua : Nat) (k_ub : Nat) (k_ba : Nat) (k_rt : Nat) (k_rf : Nat) (k_ct : Nat) (k_cf : Nat) (k_nd : Nat) (k_na : Nat) (k_no : Nat) (k_bt : Nat) (k_bc : Nat) (k_br : Nat) (k_pc : Nat) (k_pr : Nat) (k_la : Nat) (k_lb : Nat) (k_ha : Nat) (k_hb : Nat) (k_ls : Nat) (k_wc : Nat) {L : Nat} {xs : Nat → Int32} (C : CX p s m #[Value.ref b0] meth c (dC, dI) stCl [(cI, .int), (cJ, .long), (cZ, .boolean)] st_nw stc_L_law 4 (lw_c0 :: stGW) "StateTablesLaw" A) (hX : va_X b0 L xs s s.heap) (hbl : b0 < s.heap.size) (hbA : ¬ A b0) (hL : L ≤ 2560) (hend : ∀ (nc ns : Nat) (ws : va_W) (lv : List (Nat × Value)), nc ≤ 600000 → ns ≤ 7302250 → G p l e room_1 s m #[Value.ref b0] below meth c (dC, dI) stCl 4 A nc ns Q ws 731 lv [.int (iI 1)]) : ∀ (nn : Nat) (i : Int), 0 ≤ i → i ≤ (L : Int) → 2600 - i < (nn : Int) → LW p l e s m below meth c A Q dC dI cI cJ cZ b0 s0 t0 hs hc hf hg hb he hm y0 ys yu f0 n0 m0 k_ch k_co k_ua k_ub k_ba k_rt k_rf k_ct k_cf k_nd k_na k_no k_bt k_bc k_br k_pc k_pr k_la k_lb k_ha k_hb k_ls k_wc i := by
  intro nn
  induction nn with
  | zero =>
    intro i h0 h1 h2
    exact absurd h2 (by omega)
  | succ nn ih =>
    intro i h0 h1 h2
    unfold LW
    intro cap n nc ns yk yc yd yw yx yb r1 e1 r2 e2 v1 v2 H choices bars total fo lf lo wi cu si nx bg pn wd fsz fco ffu fsu fbb fmo fle fba gst gk gct gcf gwt gwf gbe gcu fr1 fe1 fr2 fe2 fm fn mrt mrf mct mcf mnd mna mno mbt mbc mbr mpc mpr VV kTD kLD kcp kgst kbu
    have hpb := ph_b kcp.2
    refine g_iload_n C 0 std_L_law_18 rfl ?_
    refine g_aload_n C 3 std_L_law_19 rfl ?_
    refine g_slen C hX hbl hbA std_L_law_20 ?_
    refine g_iconst C std_L_law_21 ?_
    refine g_isub C std_L_law_22 ?_
    refine g_icmp_gt (tgt := 730) C std_L_law_23 (by decide) ⟨by omega, by omega⟩ ⟨by omega, by omega⟩ (fun c1 => ?_) (fun c1 => ?_)
    · refine g_iconst C std_L_law_730 ?_
      exact hend _ _ _ _ (by omega) (by omega)
    · refine g_aload_n C 3 std_L_law_26 rfl ?_
      refine g_iload_n C 0 std_L_law_27 rfl ?_
      refine g_sld C hX hbl hbA (by omega) (by omega) (by omega) std_L_law_28 ?_
      refine g_bipush C std_L_law_29 (by decide) ?_
      refine g_iand C std_L_law_31 (iI_andK (d := 32) 5 (by decide) (by decide) (by decide)) ?_
      by_cases sw2 : ((sx xs i) % 32) = 0
      · refine g_tin (tgt := 120) C std_L_law_32 ⟨by omega, by omega⟩ (by omega) (by omega) (by rw [sw2]; rfl) (by decide) ?_
        exact law_step l dC dI cI cJ cZ b0 s0 t0 hs hc hf hg hb he hm y0 ys yu f0 n0 m0 k_ch k_co k_ua k_ub k_ba k_rt k_rf k_ct k_cf k_nd k_na k_no k_bt k_bc k_br k_pc k_pr k_la k_lb k_ha k_hb k_ls k_wc i C hX hbl hbA hL ⟨h0, by omega⟩ cap n nc ns yk yc yd yw yx yb r1 e1 r2 e2 v1 v2 H choices bars total fo lf lo wi cu si nx bg pn wd fsz fco ffu fsu fbb fmo fle fba gst gk gct gcf gwt gwf gbe gcu fr1 fe1 fr2 fe2 fm fn mrt mrf mct mcf mnd mna mno mbt mbc mbr mpc mpr VV kTD kLD kcp kgst kbu (ih (i + 5) (by omega) (by omega) (by omega))
      by_cases sw3 : ((sx xs i) % 32) = 1
      · refine g_tin (tgt := 133) C std_L_law_32 ⟨by omega, by omega⟩ (by omega) (by omega) (by rw [sw3]; rfl) (by decide) ?_
        exact law_choice l dC dI cI cJ cZ b0 s0 t0 hs hc hf hg hb he hm y0 ys yu f0 n0 m0 k_ch k_co k_ua k_ub k_ba k_rt k_rf k_ct k_cf k_nd k_na k_no k_bt k_bc k_br k_pc k_pr k_la k_lb k_ha k_hb k_ls k_wc i C hX hbl hbA hL ⟨h0, by omega⟩ cap n nc ns yk yc yd yw yx yb r1 e1 r2 e2 v1 v2 H choices bars total fo lf lo wi cu si nx bg pn wd fsz fco ffu fsu fbb fmo fle fba gst gk gct gcf gwt gwf gbe gcu fr1 fe1 fr2 fe2 fm fn mrt mrf mct mcf mnd mna mno mbt mbc mbr mpc mpr VV kTD kLD kcp kgst kbu (ih (i + 5) (by omega) (by omega) (by omega))
      by_cases sw4 : ((sx xs i) % 32) = 2
      · refine g_tin (tgt := 186) C std_L_law_32 ⟨by omega, by omega⟩ (by omega) (by omega) (by rw [sw4]; rfl) (by decide) ?_
        exact law_cost l dC dI cI cJ cZ b0 s0 t0 hs hc hf hg hb he hm y0 ys yu f0 n0 m0 k_ch k_co k_ua k_ub k_ba k_rt k_rf k_ct k_cf k_nd k_na k_no k_bt k_bc k_br k_pc k_pr k_la k_lb k_ha k_hb k_ls k_wc i C hX hbl hbA hL ⟨h0, by omega⟩ cap n nc ns yk yc yd yw yx yb r1 e1 r2 e2 v1 v2 H choices bars total fo lf lo wi cu si nx bg pn wd fsz fco ffu fsu fbb fmo fle fba gst gk gct gcf gwt gwf gbe gcu fr1 fe1 fr2 fe2 fm fn mrt mrf mct mcf mnd mna mno mbt mbc mbr mpc mpr VV kTD kLD kcp kgst kbu (ih (i + 5) (by omega) (by omega) (by omega))
      by_cases sw5 : ((sx xs i) % 32) = 3
      · refine g_tin (tgt := 229) C std_L_law_32 ⟨by omega, by omega⟩ (by omega) (by omega) (by rw [sw5]; rfl) (by decide) ?_
        exact law_resource l dC dI cI cJ cZ b0 s0 t0 hs hc hf hg hb he hm y0 ys yu f0 n0 m0 k_ch k_co k_ua k_ub k_ba k_rt k_rf k_ct k_cf k_nd k_na k_no k_bt k_bc k_br k_pc k_pr k_la k_lb k_ha k_hb k_ls k_wc i C hX hbl hbA hL ⟨h0, by omega⟩ cap n nc ns yk yc yd yw yx yb r1 e1 r2 e2 v1 v2 H choices bars total fo lf lo wi cu si nx bg pn wd fsz fco ffu fsu fbb fmo fle fba gst gk gct gcf gwt gwf gbe gcu fr1 fe1 fr2 fe2 fm fn mrt mrf mct mcf mnd mna mno mbt mbc mbr mpc mpr VV kTD kLD kcp kgst kbu (ih (i + 5) (by omega) (by omega) (by omega))
      by_cases sw6 : ((sx xs i) % 32) = 4
      · refine g_tin (tgt := 272) C std_L_law_32 ⟨by omega, by omega⟩ (by omega) (by omega) (by rw [sw6]; rfl) (by decide) ?_
        exact law_bar l dC dI cI cJ cZ b0 s0 t0 hs hc hf hg hb he hm y0 ys yu f0 n0 m0 k_ch k_co k_ua k_ub k_ba k_rt k_rf k_ct k_cf k_nd k_na k_no k_bt k_bc k_br k_pc k_pr k_la k_lb k_ha k_hb k_ls k_wc i C hX hbl hbA hL ⟨h0, by omega⟩ cap n nc ns yk yc yd yw yx yb r1 e1 r2 e2 v1 v2 H choices bars total fo lf lo wi cu si nx bg pn wd fsz fco ffu fsu fbb fmo fle fba gst gk gct gcf gwt gwf gbe gcu fr1 fe1 fr2 fe2 fm fn mrt mrf mct mcf mnd mna mno mbt mbc mbr mpc mpr VV kTD kLD kcp kgst kbu (ih (i + 5) (by omega) (by omega) (by omega))
      by_cases sw7 : ((sx xs i) % 32) = 5
      · refine g_tin (tgt := 341) C std_L_law_32 ⟨by omega, by omega⟩ (by omega) (by omega) (by rw [sw7]; rfl) (by decide) ?_
        exact law_run l dC dI cI cJ cZ b0 s0 t0 hs hc hf hg hb he hm y0 ys yu f0 n0 m0 k_ch k_co k_ua k_ub k_ba k_rt k_rf k_ct k_cf k_nd k_na k_no k_bt k_bc k_br k_pc k_pr k_la k_lb k_ha k_hb k_ls k_wc i C hX hbl hbA hL ⟨h0, by omega⟩ cap n nc ns yk yc yd yw yx yb r1 e1 r2 e2 v1 v2 H choices bars total fo lf lo wi cu si nx bg pn wd fsz fco ffu fsu fbb fmo fle fba gst gk gct gcf gwt gwf gbe gcu fr1 fe1 fr2 fe2 fm fn mrt mrf mct mcf mnd mna mno mbt mbc mbr mpc mpr VV kTD kLD kcp kgst kbu (ih (i + 5) (by omega) (by omega) (by omega))
      by_cases sw8 : ((sx xs i) % 32) = 6
      · refine g_tin (tgt := 354) C std_L_law_32 ⟨by omega, by omega⟩ (by omega) (by omega) (by rw [sw8]; rfl) (by decide) ?_
        exact law_best l dC dI cI cJ cZ b0 s0 t0 hs hc hf hg hb he hm y0 ys yu f0 n0 m0 k_ch k_co k_ua k_ub k_ba k_rt k_rf k_ct k_cf k_nd k_na k_no k_bt k_bc k_br k_pc k_pr k_la k_lb k_ha k_hb k_ls k_wc i C hX hbl hbA hL ⟨h0, by omega⟩ cap n nc ns yk yc yd yw yx yb r1 e1 r2 e2 v1 v2 H choices bars total fo lf lo wi cu si nx bg pn wd fsz fco ffu fsu fbb fmo fle fba gst gk gct gcf gwt gwf gbe gcu fr1 fe1 fr2 fe2 fm fn mrt mrf mct mcf mnd mna mno mbt mbc mbr mpc mpr VV kTD kLD kcp kgst kbu (ih (i + 5) (by omega) (by omega) (by omega))
      by_cases sw9 : ((sx xs i) % 32) = 7
      · refine g_tin (tgt := 367) C std_L_law_32 ⟨by omega, by omega⟩ (by omega) (by omega) (by rw [sw9]; rfl) (by decide) ?_
        exact law_many l dC dI cI cJ cZ b0 s0 t0 hs hc hf hg hb he hm y0 ys yu f0 n0 m0 k_ch k_co k_ua k_ub k_ba k_rt k_rf k_ct k_cf k_nd k_na k_no k_bt k_bc k_br k_pc k_pr k_la k_lb k_ha k_hb k_ls k_wc i C hX hbl hbA hL ⟨h0, by omega⟩ cap n nc ns yk yc yd yw yx yb r1 e1 r2 e2 v1 v2 H choices bars total fo lf lo wi cu si nx bg pn wd fsz fco ffu fsu fbb fmo fle fba gst gk gct gcf gwt gwf gbe gcu fr1 fe1 fr2 fe2 fm fn mrt mrf mct mcf mnd mna mno mbt mbc mbr mpc mpr VV kTD kLD kcp kgst kbu (ih (i + 5) (by omega) (by omega) (by omega))
      by_cases sw10 : ((sx xs i) % 32) = 8
      · refine g_tin (tgt := 381) C std_L_law_32 ⟨by omega, by omega⟩ (by omega) (by omega) (by rw [sw10]; rfl) (by decide) ?_
        exact law_plans l dC dI cI cJ cZ b0 s0 t0 hs hc hf hg hb he hm y0 ys yu f0 n0 m0 k_ch k_co k_ua k_ub k_ba k_rt k_rf k_ct k_cf k_nd k_na k_no k_bt k_bc k_br k_pc k_pr k_la k_lb k_ha k_hb k_ls k_wc i C hX hbl hbA hL ⟨h0, by omega⟩ cap n nc ns yk yc yd yw yx yb r1 e1 r2 e2 v1 v2 H choices bars total fo lf lo wi cu si nx bg pn wd fsz fco ffu fsu fbb fmo fle fba gst gk gct gcf gwt gwf gbe gcu fr1 fe1 fr2 fe2 fm fn mrt mrf mct mcf mnd mna mno mbt mbc mbr mpc mpr VV kTD kLD kcp kgst kbu (ih (i + 5) (by omega) (by omega) (by omega))
      by_cases sw11 : ((sx xs i) % 32) = 9
      · refine g_tin (tgt := 394) C std_L_law_32 ⟨by omega, by omega⟩ (by omega) (by omega) (by rw [sw11]; rfl) (by decide) ?_
        exact law_plan l dC dI cI cJ cZ b0 s0 t0 hs hc hf hg hb he hm y0 ys yu f0 n0 m0 k_ch k_co k_ua k_ub k_ba k_rt k_rf k_ct k_cf k_nd k_na k_no k_bt k_bc k_br k_pc k_pr k_la k_lb k_ha k_hb k_ls k_wc i C hX hbl hbA hL ⟨h0, by omega⟩ cap n nc ns yk yc yd yw yx yb r1 e1 r2 e2 v1 v2 H choices bars total fo lf lo wi cu si nx bg pn wd fsz fco ffu fsu fbb fmo fle fba gst gk gct gcf gwt gwf gbe gcu fr1 fe1 fr2 fe2 fm fn mrt mrf mct mcf mnd mna mno mbt mbc mbr mpc mpr VV kTD kLD kcp kgst kbu (ih (i + 5) (by omega) (by omega) (by omega))
      by_cases sw12 : ((sx xs i) % 32) = 10
      · refine g_tin (tgt := 427) C std_L_law_32 ⟨by omega, by omega⟩ (by omega) (by omega) (by rw [sw12]; rfl) (by decide) ?_
        exact law_layer l dC dI cI cJ cZ b0 s0 t0 hs hc hf hg hb he hm y0 ys yu f0 n0 m0 k_ch k_co k_ua k_ub k_ba k_rt k_rf k_ct k_cf k_nd k_na k_no k_bt k_bc k_br k_pc k_pr k_la k_lb k_ha k_hb k_ls k_wc i C hX hbl hbA hL ⟨h0, by omega⟩ cap n nc ns yk yc yd yw yx yb r1 e1 r2 e2 v1 v2 H choices bars total fo lf lo wi cu si nx bg pn wd fsz fco ffu fsu fbb fmo fle fba gst gk gct gcf gwt gwf gbe gcu fr1 fe1 fr2 fe2 fm fn mrt mrf mct mcf mnd mna mno mbt mbc mbr mpc mpr VV kTD kLD kcp kgst kbu (ih (i + 5) (by omega) (by omega) (by omega))
      by_cases sw13 : ((sx xs i) % 32) = 11
      · refine g_tin (tgt := 450) C std_L_law_32 ⟨by omega, by omega⟩ (by omega) (by omega) (by rw [sw13]; rfl) (by decide) ?_
        exact law_node l dC dI cI cJ cZ b0 s0 t0 hs hc hf hg hb he hm y0 ys yu f0 n0 m0 k_ch k_co k_ua k_ub k_ba k_rt k_rf k_ct k_cf k_nd k_na k_no k_bt k_bc k_br k_pc k_pr k_la k_lb k_ha k_hb k_ls k_wc i C hX hbl hbA hL ⟨h0, by omega⟩ cap n nc ns yk yc yd yw yx yb r1 e1 r2 e2 v1 v2 H choices bars total fo lf lo wi cu si nx bg pn wd fsz fco ffu fsu fbb fmo fle fba gst gk gct gcf gwt gwf gbe gcu fr1 fe1 fr2 fe2 fm fn mrt mrf mct mcf mnd mna mno mbt mbc mbr mpc mpr VV kTD kLD kcp kgst kbu (ih (i + 5) (by omega) (by omega) (by omega))
      by_cases sw14 : ((sx xs i) % 32) = 12
      · refine g_tin (tgt := 493) C std_L_law_32 ⟨by omega, by omega⟩ (by omega) (by omega) (by rw [sw14]; rfl) (by decide) ?_
        exact law_ways l dC dI cI cJ cZ b0 s0 t0 hs hc hf hg hb he hm y0 ys yu f0 n0 m0 k_ch k_co k_ua k_ub k_ba k_rt k_rf k_ct k_cf k_nd k_na k_no k_bt k_bc k_br k_pc k_pr k_la k_lb k_ha k_hb k_ls k_wc i C hX hbl hbA hL ⟨h0, by omega⟩ cap n nc ns yk yc yd yw yx yb r1 e1 r2 e2 v1 v2 H choices bars total fo lf lo wi cu si nx bg pn wd fsz fco ffu fsu fbb fmo fle fba gst gk gct gcf gwt gwf gbe gcu fr1 fe1 fr2 fe2 fm fn mrt mrf mct mcf mnd mna mno mbt mbc mbr mpc mpr VV kTD kLD kcp kgst kbu (ih (i + 5) (by omega) (by omega) (by omega))
      by_cases sw15 : ((sx xs i) % 32) = 13
      · refine g_tin (tgt := 553) C std_L_law_32 ⟨by omega, by omega⟩ (by omega) (by omega) (by rw [sw15]; rfl) (by decide) ?_
        exact law_dominated l dC dI cI cJ cZ b0 s0 t0 hs hc hf hg hb he hm y0 ys yu f0 n0 m0 k_ch k_co k_ua k_ub k_ba k_rt k_rf k_ct k_cf k_nd k_na k_no k_bt k_bc k_br k_pc k_pr k_la k_lb k_ha k_hb k_ls k_wc i C hX hbl hbA hL ⟨h0, by omega⟩ cap n nc ns yk yc yd yw yx yb r1 e1 r2 e2 v1 v2 H choices bars total fo lf lo wi cu si nx bg pn wd fsz fco ffu fsu fbb fmo fle fba gst gk gct gcf gwt gwf gbe gcu fr1 fe1 fr2 fe2 fm fn mrt mrf mct mcf mnd mna mno mbt mbc mbr mpc mpr VV kTD kLD kcp kgst kbu (ih (i + 5) (by omega) (by omega) (by omega))
      by_cases sw16 : ((sx xs i) % 32) = 14
      · refine g_tin (tgt := 586) C std_L_law_32 ⟨by omega, by omega⟩ (by omega) (by omega) (by rw [sw16]; rfl) (by decide) ?_
        exact law_leads l dC dI cI cJ cZ b0 s0 t0 hs hc hf hg hb he hm y0 ys yu f0 n0 m0 k_ch k_co k_ua k_ub k_ba k_rt k_rf k_ct k_cf k_nd k_na k_no k_bt k_bc k_br k_pc k_pr k_la k_lb k_ha k_hb k_ls k_wc i C hX hbl hbA hL ⟨h0, by omega⟩ cap n nc ns yk yc yd yw yx yb r1 e1 r2 e2 v1 v2 H choices bars total fo lf lo wi cu si nx bg pn wd fsz fco ffu fsu fbb fmo fle fba gst gk gct gcf gwt gwf gbe gcu fr1 fe1 fr2 fe2 fm fn mrt mrf mct mcf mnd mna mno mbt mbc mbr mpc mpr VV kTD kLD kcp kgst kbu (ih (i + 5) (by omega) (by omega) (by omega))
      by_cases sw17 : ((sx xs i) % 32) = 15
      · refine g_tin (tgt := 629) C std_L_law_32 ⟨by omega, by omega⟩ (by omega) (by omega) (by rw [sw17]; rfl) (by decide) ?_
        exact law_narrow l dC dI cI cJ cZ b0 s0 t0 hs hc hf hg hb he hm y0 ys yu f0 n0 m0 k_ch k_co k_ua k_ub k_ba k_rt k_rf k_ct k_cf k_nd k_na k_no k_bt k_bc k_br k_pc k_pr k_la k_lb k_ha k_hb k_ls k_wc i C hX hbl hbA hL ⟨h0, by omega⟩ cap n nc ns yk yc yd yw yx yb r1 e1 r2 e2 v1 v2 H choices bars total fo lf lo wi cu si nx bg pn wd fsz fco ffu fsu fbb fmo fle fba gst gk gct gcf gwt gwf gbe gcu fr1 fe1 fr2 fe2 fm fn mrt mrf mct mcf mnd mna mno mbt mbc mbr mpc mpr VV kTD kLD kcp kgst kbu (ih (i + 5) (by omega) (by omega) (by omega))
      by_cases sw18 : ((sx xs i) % 32) = 16
      · refine g_tin (tgt := 678) C std_L_law_32 ⟨by omega, by omega⟩ (by omega) (by omega) (by rw [sw18]; rfl) (by decide) ?_
        exact law_narrowed l dC dI cI cJ cZ b0 s0 t0 hs hc hf hg hb he hm y0 ys yu f0 n0 m0 k_ch k_co k_ua k_ub k_ba k_rt k_rf k_ct k_cf k_nd k_na k_no k_bt k_bc k_br k_pc k_pr k_la k_lb k_ha k_hb k_ls k_wc i C hX hbl hbA hL ⟨h0, by omega⟩ cap n nc ns yk yc yd yw yx yb r1 e1 r2 e2 v1 v2 H choices bars total fo lf lo wi cu si nx bg pn wd fsz fco ffu fsu fbb fmo fle fba gst gk gct gcf gwt gwf gbe gcu fr1 fe1 fr2 fe2 fm fn mrt mrf mct mcf mnd mna mno mbt mbc mbr mpc mpr VV kTD kLD kcp kgst kbu (ih (i + 5) (by omega) (by omega) (by omega))
      by_cases sw19 : ((sx xs i) % 32) = 17
      · refine g_tin (tgt := 701) C std_L_law_32 ⟨by omega, by omega⟩ (by omega) (by omega) (by rw [sw19]; rfl) (by decide) ?_
        exact law_count l dC dI cI cJ cZ b0 s0 t0 hs hc hf hg hb he hm y0 ys yu f0 n0 m0 k_ch k_co k_ua k_ub k_ba k_rt k_rf k_ct k_cf k_nd k_na k_no k_bt k_bc k_br k_pc k_pr k_la k_lb k_ha k_hb k_ls k_wc i C hX hbl hbA hL ⟨h0, by omega⟩ cap n nc ns yk yc yd yw yx yb r1 e1 r2 e2 v1 v2 H choices bars total fo lf lo wi cu si nx bg pn wd fsz fco ffu fsu fbb fmo fle fba gst gk gct gcf gwt gwf gbe gcu fr1 fe1 fr2 fe2 fm fn mrt mrf mct mcf mnd mna mno mbt mbc mbr mpc mpr VV kTD kLD kcp kgst kbu (ih (i + 5) (by omega) (by omega) (by omega))
      refine g_tout (tgt := 724) C std_L_law_32 ⟨by omega, by omega⟩ (by omega) (by decide) ?_
      refine g_iinc C (lv' := [(3, .int (iI (i + 5))), (2, .ref m0), (1, .ref s0), (0, .ref b0)]) 0 std_L_law_724 rfl (by decide) rfl ?_
      refine g_goto (tgt := 18) C std_L_law_727 (by decide) ?_
      exact ih (i + 5) (by omega) (by omega) (by omega) cap n nc ns yk yc yd yw yx yb r1 e1 r2 e2 v1 v2 H choices bars total fo lf lo wi cu si nx bg pn wd fsz fco ffu fsu fbb fmo fle fba gst gk gct gcf gwt gwf gbe gcu fr1 fe1 fr2 fe2 fm fn mrt mrf mct mcf mnd mna mno mbt mbc mbr mpc mpr VV (kTD) (kLD) (kcp) (kgst) (⟨by omega, by omega⟩)

