/-! THE LAW: rows for its script, answers that are the same; ranges -/
def sx (xs : Nat → Int32) (i : Int) : Int := (xs i.toNat).toInt
theorem sx_r {xs : Nat → Int32} {i : Int} : rI (sx xs i) := ⟨Int32.le_toInt _, Int32.toInt_lt _⟩
section LROWS
variable {p : Program} {l : Launch} {e : Env} {R : Room} {s : State} {m : MethodId} {args : Array Value} {below : List Frame} {meth : Method} {c : Code} {D : va_G} {cl : List vw_C} {tys : List (ClassId × FieldType)} {nw : List Cond} {cc : ByteArray} {nL : Nat} {Ts : List Cond} {own : String} {A : Nat → Prop} {cells slots : Nat} {Q : State → Prop} {ws ws' : va_W} {pc : Nat} {lv lv' : List (Nat × Value)} {st : List Value}
theorem g_sld (C : CX p s m args meth c D cl tys nw cc nL Ts own A) {b L : Nat} {xs : Nat → Int32} (hX : va_X b L xs s s.heap) (hbl : b < s.heap.size) (hbA : ¬ A b) {i : Int} (h0 : 0 ≤ i) (h1 : i < (L : Int)) (hL : (L : Int) ≤ 2147483647) (hd : decode cc pc = .ok (.iaload, 1)) (k : G p l e R s m args below meth c D cl nL A cells slots Q ws (pc + 1) lv (.int (iI (sx xs i)) :: st)) : G p l e R s m args below meth c D cl nL A cells slots Q ws pc lv (.int (iI i) :: .ref b :: st) :=
  fun H locs ls hP hD hS hl => va_sld C.1 C.2.1 hX hbl hbA hS (iI_in h0 h1 hL) hd (by
    have ee : xs (iI i).toNatClampNeg = iI (sx xs i) := by rw [iI_cl h0 (by omega)]; exact iI_of _
    rw [ee]; exact k H locs ls hP hD hS hl)
theorem g_slen (C : CX p s m args meth c D cl tys nw cc nL Ts own A) {b L : Nat} {xs : Nat → Int32} (hX : va_X b L xs s s.heap) (hbl : b < s.heap.size) (hbA : ¬ A b) (hd : decode cc pc = .ok (.arraylength, 1)) (k : G p l e R s m args below meth c D cl nL A cells slots Q ws (pc + 1) lv (.int (iI (L : Int)) :: st)) : G p l e R s m args below meth c D cl nL A cells slots Q ws pc lv (.ref b :: st) :=
  fun H locs ls hP hD hS hl => va_slen C.1 C.2.1 hX hbl hbA hS hd (by rw [show Int32.ofNat L = iI (L : Int) from (iI_nat L).symm]; exact k H locs ls hP hD hS hl)
theorem g_ceq (C : CX p s m args meth c D cl tys nw cc nL Ts own A) {x y off : Int} {tgt : Nat} (hd : decode cc pc = .ok (.if_icmp .eq off, 3)) (ht : (pc : Int) + off = (tgt : Int)) (h : iI x = iI y) (kt : G p l e R s m args below meth c D cl nL A cells slots Q ws tgt lv st) : G p l e R s m args below meth c D cl nL A cells slots Q ws pc lv (.int (iI y) :: .int (iI x) :: st) :=
  fun H locs ls hP hD hS hl => lv_icmp_eq C.1 C.2.1 hd ht (fun _ => kt H locs ls hP hD hS hl) (fun z => absurd h z)
theorem g_clq (C : CX p s m args meth c D cl tys nw cc nL Ts own A) {x y off : Int} {tgt : Nat} (hd0 : decode cc pc = .ok (.lcmp, 1)) (hd : decode cc (pc + 1) = .ok (.ifCond .eq off, 3)) (ht : ((pc + 1 : Nat) : Int) + off = (tgt : Int)) (h : lI x = lI y) (kt : G p l e R s m args below meth c D cl nL A cells slots Q ws tgt lv st) : G p l e R s m args below meth c D cl nL A cells slots Q ws pc lv (.long (lI y) :: .long (lI x) :: st) :=
  fun H locs ls hP hD hS hl => W.lcmp C.1 C.2.1 hd0 (lv_if_eq C.1 C.2.1 hd ht (fun _ => kt H locs ls hP hD hS hl) (fun z => absurd ((lg_cmp_eq _ _).mpr h) z))
end LROWS
theorem sel_c {P : Prop} {a b c : Int} (h : P → a = b) : sel P a c = sel P b c := by
  by_cases q : P
  · rw [sel_t q, sel_t q, h q]
  · rw [sel_f q, sel_f q]
/-- what the rows that grew have cost -/
def PH (c : Nat) : Int := 22 * (c : Int) + (if c = 4801 then 52811 else 0)
theorem ph_b {c : Nat} (h : c ≤ 4801) : 0 ≤ PH c ∧ PH c ≤ 158433 := by
  unfold PH; split <;> omega
theorem ph_g {c : Nat} {w : Int} (h1 : 0 ≤ w) (h2 : w ≤ 4801) (hc : 1 ≤ c ∧ c ≤ 4801) : ((gS c w : Nat) : Int) + PH c ≤ PH (gN c w) := by
  unfold gS
  by_cases q : w ≤ (c : Int)
  · rw [if_pos q]
    have : gN c w = c := by unfold gN; exact if_pos q
    rw [this]; omega
  · rw [if_neg q]
    have e : (gN c w : Int) = max w (min (2 * (c : Int)) 4801) := by
      rcases gN_kN (cap := c) h1 with z | z
      · exact absurd z.1 q
      · exact z.2
    unfold PH
    have hne : ¬ c = 4801 := by omega
    rw [if_neg hne]
    split <;> omega
theorem ph_l {fsz fco ffu fsu fbb fmo : Int → Int} (hT : TB fsz fco ffu fsu fbb fmo) : ∀ (k d c : Nat), d + k ≤ 12 → (∀ i : Nat, i ≤ d → cn fsz ffu fsu fbb fmo i ≤ 400) → 1 ≤ c ∧ c ≤ 4801 → ((layS fsz ffu fsu fbb fmo k d c : Nat) : Int) + PH c ≤ PH (layC fsz ffu fsu fbb fmo k d c)
  | 0, d, c, _, _, _ => by show ((0 : Nat) : Int) + PH c ≤ PH c; omega
  | k + 1, d, c, hd, h, hc => by
    have hn := need_b hT (by omega) h
    have hg := gN_b hn.1 hn.2 hc
    have hp := ph_g hn.1 hn.2 hc
    rw [layC_s]
    show ((gS c (need fsz ffu fsu fbb fmo d) + (if cn fsz ffu fsu fbb fmo (d + 1) ≤ 400 then layS fsz ffu fsu fbb fmo k (d + 1) (gN c (need fsz ffu fsu fbb fmo d)) else 0) : Nat) : Int) + PH c ≤ _
    by_cases q : cn fsz ffu fsu fbb fmo (d + 1) ≤ 400
    · rw [if_pos q, if_pos q]
      have := ph_l hT k (d + 1) (gN c (need fsz ffu fsu fbb fmo d)) (by omega) (fun i hi => by
        by_cases r : i = d + 1
        · subst r; exact q
        · exact h i (by omega)) hg
      omega
    · rw [if_neg q, if_neg q]; omega
section RNG
variable {fsz fco ffu fsu fbb fmo fle fba gst gk gct gcf gwt gwf gbe fr1 fe1 mrt mrf mct mcf mnd mna mno mpc mpr : Int → Int} {n : Nat} {tt fo pn : Int}
theorem r_mon (hC : RC fsz fco ffu fsu fbb fmo fle n gst gk gct gcf gwt gwf gbe tt fo fr1 fe1) : ∀ j, 0 ≤ j → j ≤ (n : Int) → gst (j + 1) ≤ gst ((n : Int) + 1) := by
  have key : ∀ k d : Nat, d + k = n → gst ((d : Int) + 1) ≤ gst ((n : Int) + 1) := by
    intro k
    induction k with
    | zero => intro d h; rw [show d = n by omega]; exact Int.le_refl _
    | succ k ih =>
      intro d h
      have h1 := ih (d + 1) (by omega)
      have h2 := (hC.1.1 (d + 1) (by omega)).1.2.1
      rw [show ((d + 1 : Nat) : Int) = (d : Int) + 1 by omega] at h1 h2
      omega
  intro j a b
  have := key (n - j.toNat) j.toNat (by omega)
  rw [show ((j.toNat : Nat) : Int) = j by omega] at this
  exact this
theorem r_find (hC : RC fsz fco ffu fsu fbb fmo fle n gst gk gct gcf gwt gwf gbe tt fo fr1 fe1) {i : Int} (h0 : 0 ≤ i) : ∀ m : Nat, m ≤ n → i < gst ((m : Int) + 1) → ∃ d : Nat, d ≤ n ∧ gst (d : Int) ≤ i ∧ i < gst ((d : Int) + 1) := by
  intro m
  induction m with
  | zero => intro hm h; exact ⟨0, by omega, by have := hC.1.2.2; show gst 0 ≤ i; omega, h⟩
  | succ m ih =>
    intro hm h
    by_cases q : i < gst ((m : Int) + 1)
    · exact ih (by omega) q
    · exact ⟨m + 1, hm, by rw [show ((m + 1 : Nat) : Int) = (m : Int) + 1 by omega]; omega, h⟩
theorem r_rl (hT : TB fsz fco ffu fsu fbb fmo) (hn : n ≤ 12) (hC : RC fsz fco ffu fsu fbb fmo fle n gst gk gct gcf gwt gwf gbe tt fo fr1 fe1) : ∀ i, 0 ≤ i → i < gst ((n : Int) + 1) → (0 ≤ gk i ∧ gk i < 32768) ∧ rL (gwf i) ∧ -100000 ≤ gct i ∧ gct i ≤ 100000 := by
  intro i a b
  obtain ⟨d, d1, d2, d3⟩ := r_find hC a n (Nat.le_refl n) b
  have hz := (hC.1.1 d d1).2.1.1 i d2 d3
  have hB := (hC.2.2.1 d d1 i d2 d3).1
  have h1 := wf_nn (fsz := fsz) (ffu := ffu) (fsu := fsu) (fbb := fbb) (fmo := fmo) (fle := fle) (n - d) d (gk i)
  have h2 := wf_big (fle := fle) hT (j := n - d) (d := d) (k := gk i) (by omega)
  have h3 := ct_rng hT d (gk i) (by omega) (by rw [← hz.2.1]; exact hz.2.2.1)
  have hv := hz.1
  unfold vk at hv
  refine ⟨by omega, ⟨by omega, by omega⟩, ?_⟩
  rw [hz.2.2.2]; omega
theorem r_fr (hT : TB fsz fco ffu fsu fbb fmo) (hn : n ≤ 12) (hC : RC fsz fco ffu fsu fbb fmo fle n gst gk gct gcf gwt gwf gbe tt fo fr1 fe1) (hM : RM fsz fco ffu fsu fbb fmo fle n mrt mrf mct mcf mnd mna mno mpc mpr pn) : (0 ≤ fo ∧ fo ≤ 20) ∧ ∀ i, 0 ≤ i → i < fo → 0 ≤ fr1 i ∧ fr1 i < 4611686018427387904 := by
  obtain ⟨e1, e2⟩ := r_fs hT hn hC hM
  refine ⟨hC.2.2.2.1, fun i a b => ?_⟩
  rw [e2 i a b]
  obtain ⟨k, hk⟩ := hM.2.2.2.1.2.1 i a (by omega)
  have h1 := pr_rb hT hn hk
  have h2 := pr_g hT n _ _ _ hn hk
  have hpw := pw8p (12 - n)
  omega
theorem r_pr (hT : TB fsz fco ffu fsu fbb fmo) (hn : n ≤ 12) (hM : RM fsz fco ffu fsu fbb fmo fle n mrt mrf mct mcf mnd mna mno mpc mpr pn) : (0 ≤ pn ∧ pn ≤ 20) ∧ ∀ i, 0 ≤ i → i < pn → 0 ≤ mpr i ∧ mpr i < 68719476736 := by
  refine ⟨hM.2.2.2.1.1, fun i a b => ?_⟩
  obtain ⟨k, hk⟩ := hM.2.2.2.1.2.1 i a (by omega)
  have h1 := pr_rb hT hn hk
  have hpw := pw8p (12 - n)
  omega
theorem r_mg (hM : RM fsz fco ffu fsu fbb fmo fle n mrt mrf mct mcf mnd mna mno mpc mpr pn) : ∀ j, 0 ≤ j → j ≤ (n : Int) → 0 ≤ mnd j ∧ mnd j ≤ 400 := fun j a b => by
  have := (hM.2.1 j.toNat (by omega)).1
  rw [show ((j.toNat : Nat) : Int) = j by omega] at this
  exact this.2
theorem r_mN (hT : TB fsz fco ffu fsu fbb fmo) (hn : n ≤ 12) (hC : RC fsz fco ffu fsu fbb fmo fle n gst gk gct gcf gwt gwf gbe tt fo fr1 fe1) (hM : RM fsz fco ffu fsu fbb fmo fle n mrt mrf mct mcf mnd mna mno mpc mpr pn) : ∀ d i, 0 ≤ d → d ≤ (n : Int) → 0 ≤ i → i < mnd d → (0 ≤ mna (400 * d + i) ∧ mna (400 * d + i) < 152971) ∧ rL (mrf (mna (400 * d + i))) ∧ (-100000 ≤ mct (mna (400 * d + i)) ∧ mct (mna (400 * d + i)) ≤ 100000) := by
  intro d i a b i1 i2
  obtain ⟨p1, p2, p3, p4, p5, p6, -⟩ := r_at hT hn hC hM (a := d) (b := i) ⟨⟨a, b⟩, i1, by omega⟩
  have hk := (kat_r p2).1
  have h1 := wf_nn (fsz := fsz) (ffu := ffu) (fsu := fsu) (fbb := fbb) (fmo := fmo) (fle := fle) (n - d.toNat) d.toNat (gk (gst d + i))
  have h2 := wf_big (fle := fle) hT (j := n - d.toNat) (d := d.toNat) (k := gk (gst d + i)) (by omega)
  have h3 := ct_rng hT d.toNat (gk (gst d + i)) (by omega) p3
  refine ⟨by omega, ⟨by omega, by omega⟩, ?_⟩
  rw [p5.2]; omega
theorem r_mM (hM : RM fsz fco ffu fsu fbb fmo fle n mrt mrf mct mcf mnd mna mno mpc mpr pn) : ∀ d : Nat, (d : Int) ≤ (n : Int) → ME fsz ffu fsu fbb fmo d (mnd (d : Int)) mna mno := fun d h => hM.2.1 d (by omega)
theorem r_nb (hT : TB fsz fco ffu fsu fbb fmo) (hn : n ≤ 12) {cap : Nat} (hcap : cap ≤ 4801) (hg : ∀ j, 0 ≤ j → j < 14 → 0 ≤ gst j ∧ gst j ≤ (cap : Int)) (hC : RC fsz fco ffu fsu fbb fmo fle n gst gk gct gcf gwt gwf gbe tt fo fr1 fe1) : ∀ a b k, 0 ≤ a → a < (n : Int) → 0 ≤ b → b < gst (a + 1) - gst a → 0 ≤ k → k < fsz a → rI (gbe ((gst a + b) * 6 + k)) := by
  intro a b k a1 a2 b1 b2 k1 k2
  have ea : ((a.toNat : Nat) : Int) = a := by omega
  have hLK := hC.1.2.1 a.toNat (by omega) k (gst a + b) k1 (by rw [ea]; exact k2) (by rw [ea]; omega) (by rw [ea]; omega)
  rw [ea] at hLK
  have h1 := hg (a + 2) (by omega) (by omega)
  have h2 := hg (a + 1) (by omega) (by omega)
  rcases hLK with ⟨-, x⟩ | ⟨x, -⟩
  · exact ⟨by omega, by omega⟩
  · exact ⟨by omega, by omega⟩
theorem r_w0 (hT : TB fsz fco ffu fsu fbb fmo) (hn : n ≤ 12) (hC : RC fsz fco ffu fsu fbb fmo fle n gst gk gct gcf gwt gwf gbe tt fo fr1 fe1) (hM : RM fsz fco ffu fsu fbb fmo fle n mrt mrf mct mcf mnd mna mno mpc mpr pn) : rL (gwf 0) := by
  have h := (r_root hT hn hC hM).1
  have h1 := wf_nn (fsz := fsz) (ffu := ffu) (fsu := fsu) (fbb := fbb) (fmo := fmo) (fle := fle) n 0 0
  have h2 := wf_big (fle := fle) hT (j := n) (d := 0) (k := 0) (by omega)
  exact ⟨by omega, by omega⟩
end RNG
theorem r_domv {fsz fco ffu fsu fbb fmo fle gst gk gct gcf gwt gwf gbe fr1 fe1 mrt mrf mct mcf mnd mna mno mpc mpr : Int → Int} {n : Nat} {tt fo pn : Int} (hT : TB fsz fco ffu fsu fbb fmo) (hn : n ≤ 12) (hC : RC fsz fco ffu fsu fbb fmo fle n gst gk gct gcf gwt gwf gbe tt fo fr1 fe1) (hM : RM fsz fco ffu fsu fbb fmo fle n mrt mrf mct mcf mnd mna mno mpc mpr pn) {a b z1 z2 : Int} (h1 : ((0 ≤ a ∧ a ≤ (n : Int)) ∧ 0 ≤ b ∧ b < gst (a + 1) - gst a) → FDp fle gk gct (gst a) b z1) (h2 : ((0 ≤ a ∧ a ≤ (n : Int)) ∧ 0 ≤ b ∧ b ≤ mnd a - 1) → MDp fle mct (fun i => mna (400 * a + i)) (mnd a) b z2) :
    sel ((0 ≤ a ∧ a ≤ (n : Int)) ∧ 0 ≤ b ∧ b < gst (a + 1) - gst a) z1 (-2000000) = sel ((0 ≤ a ∧ a ≤ (n : Int)) ∧ 0 ≤ b ∧ b ≤ mnd a - 1) z2 (-2000000) := by
  by_cases q : (0 ≤ a ∧ a ≤ (n : Int)) ∧ 0 ≤ b ∧ b < gst (a + 1) - gst a
  · have q2 := (r_hn hT hn hC hM).mp q
    rw [sel_t q, sel_t q2, r_dom hT hn hC hM q (h1 q) (h2 q2)]
  · rw [sel_f q, sel_f (fun z => q ((r_hn hT hn hC hM).mpr z))]
theorem r_count {fsz fco ffu fsu fbb fmo fle fba : Int → Int} {n : Nat} {ch ba k : Int} {H : Prop} (h : TD n ch ba fsz fco ffu fsu fbb fmo fle fba) : sel (k = 0) (n : Int) (sel (k = 1) ch (sel (k = 2) ba (sel (k = 3) (bI H) (-2000000)))) = sel (k = 0) (n : Int) (sel (k = 1) (sumR fsz 0 (n : Int).toNat) (sel (k = 2) (sumR fba 0 468) (sel (k = 3) (bI H) (-2000000)))) := by
  rw [h.2.2.2.2.2.1, h.2.2.2.2.2.2, Int.toNat_natCast]
theorem w_narrow {fsz fco ffu fsu fbb fmo fle fm VV : Int → Int} {lq : Prop} {n : Nat} {ww : Int} {v1 v2 w1 w2 : Nat} {fn g1 g2 R1 : Int → Int} {lo wi cu si nx wd l1 i1 c1 s1 x1 z1 d2 l2 i2 c2 z2 : Int} {r1 r2 : Int32}
    (hC : ((1 ≤ ww ∧ ww ≤ 60) ∧ r1 = iI z1 ∧ WL fsz fco ffu fsu fbb fmo lq ww n s1 g1 l1 i1 c1 ∧ WB fle g1 s1 z1) ∨ (¬ (1 ≤ ww ∧ ww ≤ 60) ∧ r1 = iI (-2000000) ∧ (w1, w2, g1, g2, l1, i1, c1, s1, x1, z1) = (v1, v2, fm, fn, lo, wi, cu, si, nx, -2000000)))
    (hM : ((1 ≤ ww ∧ ww ≤ 60) ∧ r2 = iI z2 ∧ WL fsz fco ffu fsu fbb fmo lq ww n d2 R1 l2 i2 c2 ∧ WB fle R1 d2 z2) ∨ (¬ (1 ≤ ww ∧ ww ≤ 60) ∧ r2 = iI (-2000000) ∧ (R1, d2, l2, i2, c2, z2) = (VV, wd, lo, wi, cu, -2000000))) : r1 = r2 ∧ l2 = l1 ∧ i2 = i1 ∧ c2 = c1 := by
  simp only [Prod.mk.injEq] at hC hM
  rcases hC with ⟨a1, a2, a3, a4⟩ | ⟨a1, a2, a3⟩ <;> rcases hM with ⟨b1, b2, b3, b4⟩ | ⟨b1, b2, b3⟩
  · obtain ⟨u1, u2, u3, u4, u5⟩ := wl_u a1.1 n a3 b3
    subst u1
    have := wb_u a4 b4 u5
    subst this
    exact ⟨a2.trans b2.symm, u2.symm, u3.symm, u4.symm⟩
  · exact absurd a1 b1
  · exact absurd b1 a1
  · exact ⟨a2.trans b2.symm, b3.2.2.1.trans a3.2.2.2.2.1.symm, b3.2.2.2.1.trans a3.2.2.2.2.2.1.symm, b3.2.2.2.2.1.trans a3.2.2.2.2.2.2.1.symm⟩
theorem w_run {fsz fco ffu fsu fbb fmo gst gk gct gwt gbe : Int → Int} {n : Nat} {tt : Int} {r1 r2 : Int32} {P1 P2 : Prop}
    (hC : ((∀ i : Nat, i ≤ n → cn fsz ffu fsu fbb fmo i ≤ 400) → r1 = iI tt ∧ LYS fsz fco ffu fsu fbb fmo n gst gk gwt gct gbe ∧ tt = gst ((n : Int) + 1) ∧ P1) ∧ (¬ (∀ i : Nat, i ≤ n → cn fsz ffu fsu fbb fmo i ≤ 400) → r1 = iI (-3000000)) ∧ P2) {P3 : Prop}
    (hM : ((∀ i : Nat, i ≤ n → cn fsz ffu fsu fbb fmo i ≤ 400) → r2 = iI (tot fsz ffu fsu fbb fmo n) ∧ P3) ∧ (¬ (∀ i : Nat, i ≤ n → cn fsz ffu fsu fbb fmo i ≤ 400) → r2 = iI (-3000000))) : r1 = r2 := by
  by_cases q : ∀ i : Nat, i ≤ n → cn fsz ffu fsu fbb fmo i ≤ 400
  · obtain ⟨a1, a2, a3, -⟩ := hC.1 q
    rw [a1, (hM.1 q).1, a3, (a2.1 n (Nat.le_refl n)).1.2.2.2]
  · rw [hC.2.1 q, hM.2 q]
