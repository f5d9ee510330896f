/-! CLASS AND MODEL SIDE BY SIDE: what is laid -/
def RC (fsz fco ffu fsu fbb fmo fle : Int → Int) (n : Nat) (gst gk gct gcf gwt gwf gbe : Int → Int) (tt fo : Int) (fr1 fe1 : Int → Int) : Prop :=
  LYS fsz fco ffu fsu fbb fmo n gst gk gwt gct gbe ∧ tt = gst ((n : Int) + 1) ∧ (∀ d : Nat, d ≤ n → BK fsz fco ffu fsu fbb fmo fle n gk gwf gcf d (gst (d : Int)) (gst ((d : Int) + 1))) ∧ FS (PC fsz fco ffu fsu fbb fmo fle n gst gk n) fo fr1 fe1
def RM (fsz fco ffu fsu fbb fmo fle : Int → Int) (n : Nat) (mrt mrf mct mcf mnd mna mno mpc mpr : Int → Int) (pn : Int) : Prop :=
  (∀ d : Nat, d ≤ n → DL fsz fco ffu fsu fbb fmo d mrt mct) ∧ (∀ d : Nat, d ≤ n → ME fsz ffu fsu fbb fmo d (mnd (d : Int)) mna mno) ∧ (∀ e : Nat, e ≤ n → ∀ k, vk k → 0 < wt fsz ffu fsu fbb fmo e k → FB fsz fco ffu fsu fbb fmo fle n e k mrf mcf) ∧ OPp (PR fsz fco ffu fsu fbb fmo fle n) n pn mpc mpr ∧ FS (PF (PR fsz fco ffu fsu fbb fmo fle n) n) pn (fun i => (mpc i + 12000) * 68719476736 + mpr i) (fun _ => 0)
/-- the first twenty are one -/
theorem fs_lo {Xs Ys : Int → Int → Prop} {m m' : Int} {R V R' V' : Int → Int} (h : FS Xs m R V) (h' : FS Ys m' R' V') (e : ∀ E, (∃ v, Xs E v) ↔ ∃ v, Ys E v) : ∀ k : Nat, (k : Int) < m → (k : Int) < m' ∧ R k = R' k := by
  obtain ⟨a1, a2, a3, a4⟩ := h
  obtain ⟨b1, b2, b3, b4⟩ := h'
  intro k
  induction k using Nat.strongRecOn with
  | ind k ih =>
    intro hk
    obtain ⟨v', hv'⟩ := (e (R k)).mp ⟨_, a2 k (by omega) hk⟩
    -- R k is in R'
    have in1 : (∃ i, (0 ≤ i ∧ i < m') ∧ R' i = R k) ∨ (m' = 20 ∧ R' 19 < R k) := b4 (R k) v' hv'
    have ge : ∀ i, 0 ≤ i → i < m' → R' i = R k → (k : Int) ≤ i := fun i i1 i2 i3 => by
      rcases Int.lt_or_le i k with z | z
      · exfalso
        obtain ⟨c1, c2⟩ := ih i.toNat (by omega) (by omega)
        rw [show ((i.toNat : Nat) : Int) = i by omega] at c1 c2
        have := a3 i k i1 z hk
        omega
      · exact z
    have hkm : (k : Int) < m' := by
      rcases in1 with ⟨i, i1, i2⟩ | ⟨i1, i2⟩
      · have := ge i i1.1 i1.2 i2; omega
      · omega
    refine ⟨hkm, ?_⟩
    obtain ⟨v, hv⟩ := (e (R' k)).mpr ⟨_, b2 k (by omega) hkm⟩
    have in2 := a4 (R' k) v hv
    have ge2 : ∀ i, 0 ≤ i → i < m → R i = R' k → (k : Int) ≤ i := fun i i1 i2 i3 => by
      rcases Int.lt_or_le i k with z | z
      · exfalso
        obtain ⟨c1, c2⟩ := ih i.toNat (by omega) (by omega)
        rw [show ((i.toNat : Nat) : Int) = i by omega] at c1 c2
        have := b3 i k i1 z hkm
        omega
      · exact z
    have le1 : R' k ≤ R k := by
      rcases in1 with ⟨i, i1, i2⟩ | ⟨i1, i2⟩
      · have := ge i i1.1 i1.2 i2
        by_cases z : i = (k : Int)
        · rw [← z, i2, z]; omega
        · have := b3 k i (by omega) (by omega) i1.2; omega
      · by_cases z : (k : Int) = 19
        · rw [z]; rw [z] at i2; omega
        · have := b3 k 19 (by omega) (by omega) (by omega); omega
    have le2 : R k ≤ R' k := by
      rcases in2 with ⟨i, i1, i2⟩ | ⟨i1, i2⟩
      · have := ge2 i i1.1 i1.2 i2
        by_cases z : i = (k : Int)
        · rw [← z, i2, z]; omega
        · have := a3 k i (by omega) (by omega) i1.2; omega
      · by_cases z : (k : Int) = 19
        · rw [z]; rw [z] at i2; omega
        · have := a3 k 19 (by omega) (by omega) (by omega); omega
    omega
theorem fs_u {Xs Ys : Int → Int → Prop} {m m' : Int} {R V R' V' : Int → Int} (h : FS Xs m R V) (h' : FS Ys m' R' V') (e : ∀ E, (∃ v, Xs E v) ↔ ∃ v, Ys E v) : m = m' ∧ ∀ i, 0 ≤ i → i < m → R i = R' i := by
  have a := h.1
  have b := h'.1
  have l1 := fs_lo h h' e
  have l2 := fs_lo h' h (fun E => (e E).symm)
  refine ⟨?_, fun i i1 i2 => ?_⟩
  · rcases Int.lt_trichotomy m m' with z | z | z
    · have := (l2 m.toNat (by omega)).1; omega
    · exact z
    · have := (l1 m'.toNat (by omega)).1; omega
  · have := (l1 i.toNat (by omega)).2
    rw [show ((i.toNat : Nat) : Int) = i by omega] at this
    exact this
section LD
variable {fsz fco ffu fsu fbb fmo fle fba gst gk gct gcf gwt gwf gbe fr1 fe1 mrt mrf mct mcf mnd mna mno mpc mpr : Int → Int} {n : Nat} {tt fo pn : Int}
theorem cod_n {r k g : Int} : cod fsz fco ffu fsu fbb fmo fle n n r k g = (g + 12000) * 68719476736 + r := by
  unfold cod
  rw [Nat.sub_self, show cf fsz fco ffu fsu fbb fmo fle 0 n k = 0 from rfl, Int.add_zero]
theorem r_fs (hT : TB fsz fco ffu fsu fbb fmo) (hn : n ≤ 12) (hC : RC fsz fco ffu fsu fbb fmo fle n gst gk gct gcf gwt gwf gbe tt fo fr1 fe1) (hM : RM fsz fco ffu fsu fbb fmo fle n mrt mrf mct mcf mnd mna mno mpc mpr pn) : fo = pn ∧ ∀ i, 0 ≤ i → i < fo → fr1 i = (mpc i + 12000) * 68719476736 + mpr i := by
  refine fs_u hC.2.2.2 hM.2.2.2.2 (fun E => ⟨fun ⟨v, r, k, g, h1, h2, _⟩ => ⟨0, r, k, g, h1, by rw [h2, cod_n], rfl⟩, fun ⟨v, r, k, g, h1, h2, _⟩ => ?_⟩)
  have hw := (pr_wt hT hn n r k g (Nat.le_refl n) h1).1
  obtain ⟨i, i1, i2, i3⟩ := (hC.1.1 n (Nat.le_refl n)).2.1.2.2 k hw
  exact ⟨i, r, k, g, h1, by rw [h2, cod_n], ⟨i1, i2⟩, i3⟩
/-- the node of a layer, in both -/
theorem r_nd (hT : TB fsz fco ffu fsu fbb fmo) (hn : n ≤ 12) (hC : RC fsz fco ffu fsu fbb fmo fle n gst gk gct gcf gwt gwf gbe tt fo fr1 fe1) (hM : RM fsz fco ffu fsu fbb fmo fle n mrt mrf mct mcf mnd mna mno mpc mpr pn) {d : Nat} (hd : d ≤ n) : gst ((d : Int) + 1) - gst (d : Int) = mnd (d : Int) ∧ ∀ i, 0 ≤ i → i < mnd (d : Int) → mna (400 * (d : Int) + i) = 11767 * (d : Int) + kat (gk (gst (d : Int) + i)) ∧ vk (gk (gst (d : Int) + i)) ∧ 0 < wt fsz ffu fsu fbb fmo d (gk (gst (d : Int) + i)) ∧ (gwt (gst (d : Int) + i) = wt fsz ffu fsu fbb fmo d (gk (gst (d : Int) + i)) ∧ gct (gst (d : Int) + i) = ct fsz fco ffu fsu fbb fmo d (gk (gst (d : Int) + i))) ∧ (mrt (mna (400 * (d : Int) + i)) = wt fsz ffu fsu fbb fmo d (gk (gst (d : Int) + i)) ∧ mct (mna (400 * (d : Int) + i)) = ct fsz fco ffu fsu fbb fmo d (gk (gst (d : Int) + i))) ∧ (gwf (gst (d : Int) + i) = wf fsz ffu fsu fbb fmo fle (n - d) d (gk (gst (d : Int) + i)) ∧ mrf (mna (400 * (d : Int) + i)) = wf fsz ffu fsu fbb fmo fle (n - d) d (gk (gst (d : Int) + i))) ∧ (0 < wf fsz ffu fsu fbb fmo fle (n - d) d (gk (gst (d : Int) + i)) → gcf (gst (d : Int) + i) = cf fsz fco ffu fsu fbb fmo fle (n - d) d (gk (gst (d : Int) + i)) ∧ mcf (mna (400 * (d : Int) + i)) = cf fsz fco ffu fsu fbb fmo fle (n - d) d (gk (gst (d : Int) + i))) := by
  obtain ⟨c1, c2, c3, c4⟩ := hC
  obtain ⟨m1, m2, m3, m4, m5⟩ := hM
  obtain ⟨l1, l2, l3⟩ := c1.1 d hd
  have hE : EN (fun k => 0 < wt fsz ffu fsu fbb fmo d k) (gst ((d : Int) + 1) - gst (d : Int)) (fun i => gk (gst (d : Int) + i)) := by
    refine ⟨by omega, fun i j a b c => l2.2.1 _ _ (by omega) (by omega) (by omega), fun E => ⟨fun ⟨i, a, b, c⟩ => ?_, fun q => ?_⟩⟩
    · have hz := l2.1 (gst (d : Int) + i) (by omega) (by omega)
      have c' : gk (gst (d : Int) + i) = E := c
      show 0 < wt fsz ffu fsu fbb fmo d E
      rw [← c', ← hz.2.1]; exact hz.2.2.1
    · obtain ⟨i, i1, i2, i3⟩ := l2.2.2 E q
      exact ⟨i - gst (d : Int), by omega, by omega, by show gk (gst (d : Int) + (i - gst (d : Int))) = E; rw [show gst (d : Int) + (i - gst (d : Int)) = i by omega]; exact i3⟩
  obtain ⟨e1, e2⟩ := en_eq hE (m2 d hd).2.1
  refine ⟨e1, fun i i1 i2 => ?_⟩
  have hk : gk (gst (d : Int) + i) = kk (mna (400 * (d : Int) + i) - 11767 * (d : Int)) := e2 i i1 (by omega)
  obtain ⟨q1, q2, q3⟩ := me_at hT (by omega) (m2 d hd) ⟨i1, i2⟩
  rw [← hk] at q1 q2 q3
  have hz := l2.1 (gst (d : Int) + i) (by omega) (by omega)
  have hD := m1 d hd _ q1
  have hF := m3 d hd _ q1 q2
  unfold FB at hF
  rw [← q3] at hD hF
  have hB := c3 d hd (gst (d : Int) + i) (by omega) (by omega)
  refine ⟨q3, q1, q2, ⟨hz.2.1, hz.2.2.2⟩, ⟨hD.1, hD.2 q2⟩, ⟨hB.1, hF.1⟩, fun hp => ⟨hB.2.1 (by rw [hB.1]; exact hp), ?_⟩⟩
  rw [hF.2, sel_t hp]
theorem r_root (hT : TB fsz fco ffu fsu fbb fmo) (hn : n ≤ 12) (hC : RC fsz fco ffu fsu fbb fmo fle n gst gk gct gcf gwt gwf gbe tt fo fr1 fe1) (hM : RM fsz fco ffu fsu fbb fmo fle n mrt mrf mct mcf mnd mna mno mpc mpr pn) : gwf 0 = wf fsz ffu fsu fbb fmo fle n 0 0 ∧ mrf 0 = wf fsz ffu fsu fbb fmo fle n 0 0 ∧ (0 < wf fsz ffu fsu fbb fmo fle n 0 0 → gcf 0 = cf fsz fco ffu fsu fbb fmo fle n 0 0) := by
  obtain ⟨g1, g2, g3⟩ := ls_root hC.1
  have hB := hC.2.2.1 0 (Nat.zero_le n) 0 (by show gst 0 ≤ 0; omega) (by show 0 < gst (0 + 1); exact g2)
  rw [g3] at hB
  exact ⟨hB.1, fb_root hT hM.2.2.1, fun hp => hB.2.1 (by rw [hB.1]; exact hp)⟩
theorem plan_best (hT : TB fsz fco ffu fsu fbb fmo) (hn : n ≤ 12) : ∀ (j d : Nat) (r k g : Int), d + j = n → PR fsz fco ffu fsu fbb fmo fle n d r k g → ∃ r' k' g', PR fsz fco ffu fsu fbb fmo fle n n r' k' g' ∧ g' = g + cf fsz fco ffu fsu fbb fmo fle (n - d) d k := by
  intro j
  induction j with
  | zero =>
    intro d r k g hd h
    have e : d = n := by omega
    subst e
    exact ⟨r, k, g, h, by rw [Nat.sub_self, show cf fsz fco ffu fsu fbb fmo fle 0 d k = 0 from rfl]; omega⟩
  | succ j ih =>
    intro d r k g hd h
    have hw := pr_wf d r k g h
    obtain ⟨c, c1, c2, c3, c4⟩ := cod_best hT hn (d := d) (by omega) (r := r) (g := g) hw
    have c5 := cod_child hT hn (d := d) (by omega) (r := r) (k := k) (g := g) c1 c2 c3
    have hr := pr_rb hT (by omega) h
    have hp := pw8p (11 - d)
    have hc0 : 0 ≤ c * 8 ^ (11 - d) := Int.mul_nonneg c1.1 (by omega)
    have hP : PR fsz fco ffu fsu fbb fmo fle n (d + 1) (r + c * 8 ^ (11 - d)) (kn fbb ffu fsu fmo ((d : Int) * 6 + c) c k) (g + fco ((d : Int) * 6 + c)) := ⟨c, k, g, r, h, c1, rfl, c2, c3, rfl, rfl⟩
    have hr2 := pr_rb hT (by omega) hP
    have hp2 := pw8p (12 - (d + 1))
    obtain ⟨r', k', g', q1, q2⟩ := ih (d + 1) _ _ _ (by omega) hP
    refine ⟨r', k', g', q1, ?_⟩
    rw [q2]
    unfold cod at c4 c5
    omega
theorem r_best (hT : TB fsz fco ffu fsu fbb fmo) (hn : n ≤ 12) (hC : RC fsz fco ffu fsu fbb fmo fle n gst gk gct gcf gwt gwf gbe tt fo fr1 fe1) (hM : RM fsz fco ffu fsu fbb fmo fle n mrt mrf mct mcf mnd mna mno mpc mpr pn) : (if 0 < gwf 0 then gcf 0 else -1000000) = sel (pn = 0) (-1000000) (mpc 0) := by
  obtain ⟨r1, r2, r3⟩ := r_root hT hn hC hM
  have h0 := hM.2.2.2.1.1
  by_cases q : 0 < wf fsz ffu fsu fbb fmo fle n 0 0
  · rw [if_pos (by rw [r1]; exact q), r3 q]
    obtain ⟨r', k', g', q1, q2⟩ := plan_best hT hn n 0 0 0 0 (by omega) (show PR fsz fco ffu fsu fbb fmo fle n 0 0 0 0 from ⟨rfl, rfl, rfl, q⟩)
    rw [Nat.sub_zero, Int.zero_add] at q2
    have hin := hM.2.2.2.2.2.2.2 _ 0 ⟨r', k', g', q1, rfl, rfl⟩
    have hp : 0 < pn := by
      rcases hin with ⟨i, i1, -⟩ | ⟨i1, -⟩ <;> omega
    rw [sel_f (by omega)]
    obtain ⟨k0, hk0⟩ := hM.2.2.2.1.2.1 0 (by omega) hp
    -- the first one's cost is not less, and not more
    have hx := pr_pre hT (d := 0) hn n (mpr 0) k0 (mpc 0) (by omega) (by rw [Nat.zero_add]; exact hk0)
    obtain ⟨r0, k1, g0, s1, s2, s3⟩ := hx
    obtain ⟨z1, z2, z3, -⟩ := s1
    subst z1 z2 z3
    rw [Nat.zero_add, cod_n] at s3
    have hb0 := pr_rb hT hn hk0
    have hb1 := pr_rb hT hn q1
    have hpw := pw8p (12 - n)
    have hle : (mpc 0 + 12000) * 68719476736 + mpr 0 ≤ (g' + 12000) * 68719476736 + r' := by
      rcases hin with ⟨i, i1, i2⟩ | ⟨i1, i2⟩
      · have i2' : (mpc i + 12000) * 68719476736 + mpr i = (g' + 12000) * 68719476736 + r' := i2
        by_cases z : i = 0
        · subst z; omega
        · have := hM.2.2.2.1.2.2 0 i (by omega) (by omega) i1.2; omega
      · have i2' : (mpc 19 + 12000) * 68719476736 + mpr 19 < (g' + 12000) * 68719476736 + r' := i2
        have := hM.2.2.2.1.2.2 0 19 (by omega) (by omega) (by omega); omega
    unfold cod at s3
    rw [Nat.sub_zero] at s3
    omega
  · rw [if_neg (by rw [r1]; exact q)]
    have hnn := wf_nn (fsz := fsz) (ffu := ffu) (fsu := fsu) (fbb := fbb) (fmo := fmo) (fle := fle) n 0 0
    have hz : pn = 0 := by
      rcases Int.lt_or_le 0 pn with z | z
      · obtain ⟨k0, hk0⟩ := hM.2.2.2.1.2.1 0 (by omega) z
        exact absurd hk0 (pr_none (by omega) n _ _ _)
      · omega
    rw [sel_t hz]
theorem r_plan (hT : TB fsz fco ffu fsu fbb fmo) (hn : n ≤ 12) (hC : RC fsz fco ffu fsu fbb fmo fle n gst gk gct gcf gwt gwf gbe tt fo fr1 fe1) (hM : RM fsz fco ffu fsu fbb fmo fle n mrt mrf mct mcf mnd mna mno mpc mpr pn) {a b : Int} : sel (a < 0 ∨ fo ≤ a) (-2000000) (sel (b = -1) (fr1 a / 68719476736 - 12000) (sel (0 ≤ b ∧ b < (n : Int)) (fr1 a / 2 ^ (3 * (11 - b)).toNat % 8) (-2000000))) = sel ((0 ≤ a ∧ a ≤ pn - 1) ∧ (-1 ≤ b ∧ b ≤ (n : Int) - 1)) (sel (b < 0) (mpc a) (mpr a / 2 ^ (3 * (11 - b)).toNat % 8)) (-2000000) := by
  obtain ⟨e1, e2⟩ := r_fs hT hn hC hM
  by_cases q : a < 0 ∨ fo ≤ a
  · rw [sel_t q, sel_f (by omega)]
  · rw [sel_f q, e2 a (by omega) (by omega)]
    obtain ⟨k0, hk0⟩ := hM.2.2.2.1.2.1 a (by omega) (by omega)
    have hb0 := pr_rb hT hn hk0
    have hpw := pw8p (12 - n)
    by_cases r : b = -1
    · rw [sel_t r, sel_t (by omega), sel_t (by omega)]; omega
    · rw [sel_f r]
      by_cases t : 0 ≤ b ∧ b < (n : Int)
      · rw [sel_t t, sel_t (by omega), sel_f (by omega)]
        obtain ⟨m, hm⟩ : ∃ m : Nat, (3 * (11 - b)).toNat = m ∧ m ≤ 33 := ⟨_, rfl, by omega⟩
        rw [hm.1]
        have hp : (2 : Int) ^ m * 2 ^ (33 - m) = 8589934592 := by rw [← Int.pow_add, show m + (33 - m) = 33 by omega]; rfl
        have hpos : (0 : Int) < 2 ^ m := Int.pow_pos (by omega)
        have hk : (mpc a + 12000) * 68719476736 + mpr a = mpr a + 2 ^ m * (((mpc a + 12000) * 2 ^ (33 - m)) * 8) := by
          have : (2 : Int) ^ m * (((mpc a + 12000) * 2 ^ (33 - m)) * 8) = (mpc a + 12000) * (2 ^ m * 2 ^ (33 - m)) * 8 := by
            rw [← Int.mul_assoc, Int.mul_left_comm]
          rw [this, hp]; omega
        rw [hk, Int.add_mul_ediv_left _ _ (by omega), Int.add_mul_emod_self_right]
      · rw [sel_f t, sel_f (by omega)]
theorem r_layer (hT : TB fsz fco ffu fsu fbb fmo) (hn : n ≤ 12) (hC : RC fsz fco ffu fsu fbb fmo fle n gst gk gct gcf gwt gwf gbe tt fo fr1 fe1) (hM : RM fsz fco ffu fsu fbb fmo fle n mrt mrf mct mcf mnd mna mno mpc mpr pn) {a : Int} : sel (0 ≤ a ∧ a ≤ (n : Int)) (gst (a + 1) - gst a) (-2000000) = sel (0 ≤ a ∧ a ≤ (n : Int)) (mnd a) (-2000000) := by
  by_cases q : 0 ≤ a ∧ a ≤ (n : Int)
  · have := (r_nd hT hn hC hM (d := a.toNat) (by omega)).1
    rw [show ((a.toNat : Nat) : Int) = a by omega] at this
    rw [this]
  · rw [sel_f q, sel_f q]
theorem r_hn (hT : TB fsz fco ffu fsu fbb fmo) (hn : n ≤ 12) (hC : RC fsz fco ffu fsu fbb fmo fle n gst gk gct gcf gwt gwf gbe tt fo fr1 fe1) (hM : RM fsz fco ffu fsu fbb fmo fle n mrt mrf mct mcf mnd mna mno mpc mpr pn) {a b : Int} : (((0 ≤ a ∧ a ≤ (n : Int)) ∧ 0 ≤ b ∧ b < gst (a + 1) - gst a) ↔ ((0 ≤ a ∧ a ≤ (n : Int)) ∧ 0 ≤ b ∧ b ≤ mnd a - 1)) := by
  constructor
  · intro q
    have := (r_nd hT hn hC hM (d := a.toNat) (by omega)).1
    rw [show ((a.toNat : Nat) : Int) = a by omega] at this
    omega
  · intro q
    have := (r_nd hT hn hC hM (d := a.toNat) (by omega)).1
    rw [show ((a.toNat : Nat) : Int) = a by omega] at this
    omega
/-- of a node that is there -/
theorem r_at (hT : TB fsz fco ffu fsu fbb fmo) (hn : n ≤ 12) (hC : RC fsz fco ffu fsu fbb fmo fle n gst gk gct gcf gwt gwf gbe tt fo fr1 fe1) (hM : RM fsz fco ffu fsu fbb fmo fle n mrt mrf mct mcf mnd mna mno mpc mpr pn) {a b : Int} (q : (0 ≤ a ∧ a ≤ (n : Int)) ∧ 0 ≤ b ∧ b ≤ mnd a - 1) : mna (400 * a + b) = 11767 * a + kat (gk (gst a + b)) ∧ vk (gk (gst a + b)) ∧ 0 < wt fsz ffu fsu fbb fmo a.toNat (gk (gst a + b)) ∧ (gwt (gst a + b) = wt fsz ffu fsu fbb fmo a.toNat (gk (gst a + b)) ∧ gct (gst a + b) = ct fsz fco ffu fsu fbb fmo a.toNat (gk (gst a + b))) ∧ (mrt (mna (400 * a + b)) = wt fsz ffu fsu fbb fmo a.toNat (gk (gst a + b)) ∧ mct (mna (400 * a + b)) = ct fsz fco ffu fsu fbb fmo a.toNat (gk (gst a + b))) ∧ (gwf (gst a + b) = wf fsz ffu fsu fbb fmo fle (n - a.toNat) a.toNat (gk (gst a + b)) ∧ mrf (mna (400 * a + b)) = wf fsz ffu fsu fbb fmo fle (n - a.toNat) a.toNat (gk (gst a + b))) ∧ (0 < wf fsz ffu fsu fbb fmo fle (n - a.toNat) a.toNat (gk (gst a + b)) → gcf (gst a + b) = cf fsz fco ffu fsu fbb fmo fle (n - a.toNat) a.toNat (gk (gst a + b)) ∧ mcf (mna (400 * a + b)) = cf fsz fco ffu fsu fbb fmo fle (n - a.toNat) a.toNat (gk (gst a + b))) := by
  have := (r_nd hT hn hC hM (d := a.toNat) (by omega)).2 b (by omega) (by rw [show ((a.toNat : Nat) : Int) = a by omega]; omega)
  rw [show ((a.toNat : Nat) : Int) = a by omega] at this
  exact this
theorem r_node (hT : TB fsz fco ffu fsu fbb fmo) (hn : n ≤ 12) (hC : RC fsz fco ffu fsu fbb fmo fle n gst gk gct gcf gwt gwf gbe tt fo fr1 fe1) (hM : RM fsz fco ffu fsu fbb fmo fle n mrt mrf mct mcf mnd mna mno mpc mpr pn) {a b k : Int} :
    sel ((0 ≤ a ∧ a ≤ (n : Int)) ∧ 0 ≤ b ∧ b < gst (a + 1) - gst a) (sel (k = 0) (gk (gst a + b) / 512) (sel (k = 1) (gk (gst a + b) / 8 % 64) (sel (k = 2) (gk (gst a + b) % 8 - 1) (sel (k = 3) (gct (gst a + b)) (sel (k = 4) (if 0 < gwf (gst a + b) then gcf (gst a + b) else -1000000) (-2000000)))))) (-2000000)
    = sel (((0 ≤ a ∧ a ≤ (n : Int)) ∧ 0 ≤ b ∧ b ≤ mnd a - 1) ∧ 0 ≤ k ∧ k ≤ 4) (sel (k = 0) (mna (400 * a + b) % 11767 / 7 / 41) (sel (k = 1) (mna (400 * a + b) % 11767 / 7 % 41) (sel (k = 2) (mna (400 * a + b) % 7 - 1) (sel (k = 3) (mct (mna (400 * a + b))) (sel (mrf (mna (400 * a + b)) = 0) (-1000000) (mcf (mna (400 * a + b)))))))) (-2000000) := by
  by_cases q : (0 ≤ a ∧ a ≤ (n : Int)) ∧ 0 ≤ b ∧ b < gst (a + 1) - gst a
  · have q2 := (r_hn hT hn hC hM).mp q
    rw [sel_t q]
    obtain ⟨p1, p2, p3, p4, p5, p6, p7⟩ := r_at hT hn hC hM q2
    have hk := kat_at p2 p1
    by_cases k0 : k = 0
    · rw [sel_t k0, sel_t ⟨q2, by omega⟩, sel_t k0, hk.2.1]
    · rw [sel_f k0]
      by_cases k1 : k = 1
      · rw [sel_t k1, sel_t ⟨q2, by omega⟩, sel_f k0, sel_t k1, hk.2.2.1]
      · rw [sel_f k1]
        by_cases k2 : k = 2
        · rw [sel_t k2, sel_t ⟨q2, by omega⟩, sel_f k0, sel_f k1, sel_t k2, hk.2.2.2]
        · rw [sel_f k2]
          by_cases k3 : k = 3
          · rw [sel_t k3, sel_t ⟨q2, by omega⟩, sel_f k0, sel_f k1, sel_f k2, sel_t k3, p4.2, p5.2]
          · rw [sel_f k3]
            by_cases k4 : k = 4
            · rw [sel_t k4, sel_t ⟨q2, by omega⟩, sel_f k0, sel_f k1, sel_f k2, sel_f k3, p6.1, p6.2]
              have hnn := wf_nn (fsz := fsz) (ffu := ffu) (fsu := fsu) (fbb := fbb) (fmo := fmo) (fle := fle) (n - a.toNat) a.toNat (gk (gst a + b))
              by_cases z : 0 < wf fsz ffu fsu fbb fmo fle (n - a.toNat) a.toNat (gk (gst a + b))
              · rw [if_pos z, sel_f (by omega), (p7 z).1, (p7 z).2]
              · rw [if_neg z, sel_t (by omega)]
            · rw [sel_f k4, sel_f (by omega)]
  · have q2 : ¬ ((0 ≤ a ∧ a ≤ (n : Int)) ∧ 0 ≤ b ∧ b ≤ mnd a - 1) := fun z => q ((r_hn hT hn hC hM).mpr z)
    rw [sel_f q, sel_f (fun z => q2 z.1)]
theorem r_ways (hT : TB fsz fco ffu fsu fbb fmo) (hn : n ≤ 12) (hC : RC fsz fco ffu fsu fbb fmo fle n gst gk gct gcf gwt gwf gbe tt fo fr1 fe1) (hM : RM fsz fco ffu fsu fbb fmo fle n mrt mrf mct mcf mnd mna mno mpc mpr pn) {a b : Int} {v : Prop} :
    sel ((0 ≤ a ∧ a ≤ (n : Int)) ∧ 0 ≤ b ∧ b < gst (a + 1) - gst a) (sel v (gwt (gst a + b)) (gwf (gst a + b))) (-2000000) = sel ((0 ≤ a ∧ a ≤ (n : Int)) ∧ 0 ≤ b ∧ b ≤ mnd a - 1) (sel v (mrt (mna (400 * a + b))) (mrf (mna (400 * a + b)))) (-2000000) := by
  by_cases q : (0 ≤ a ∧ a ≤ (n : Int)) ∧ 0 ≤ b ∧ b < gst (a + 1) - gst a
  · have q2 := (r_hn hT hn hC hM).mp q
    obtain ⟨p1, p2, p3, p4, p5, p6, p7⟩ := r_at hT hn hC hM q2
    rw [sel_t q, sel_t q2, p4.1, p5.1, p6.1, p6.2]
  · have q2 : ¬ ((0 ≤ a ∧ a ≤ (n : Int)) ∧ 0 ≤ b ∧ b ≤ mnd a - 1) := fun z => q ((r_hn hT hn hC hM).mpr z)
    rw [sel_f q, sel_f q2]
theorem r_leads (hT : TB fsz fco ffu fsu fbb fmo) (hn : n ≤ 12) (hC : RC fsz fco ffu fsu fbb fmo fle n gst gk gct gcf gwt gwf gbe tt fo fr1 fe1) (hM : RM fsz fco ffu fsu fbb fmo fle n mrt mrf mct mcf mnd mna mno mpc mpr pn) {a b k : Int} :
    sel (((0 ≤ a ∧ a ≤ (n : Int)) ∧ 0 ≤ b ∧ b < gst (a + 1) - gst a) ∧ ((0 ≤ a ∧ a < (n : Int)) ∧ 0 ≤ k ∧ k < fsz a)) (sel (gbe ((gst a + b) * 6 + k) < 0) (-1000000) (gbe ((gst a + b) * 6 + k) - gst (a + 1))) (-2000000)
    = sel (((0 ≤ a ∧ a ≤ (n : Int)) ∧ 0 ≤ b ∧ b ≤ mnd a - 1) ∧ (¬ a = (n : Int) ∧ 0 ≤ k ∧ k ≤ fsz a - 1)) (sel (nxt fbb ffu fsu fmo ((a.toNat : Nat) : Int) k (kk (mna (400 * ((a.toNat : Nat) : Int) + b) - 11767 * ((a.toNat : Nat) : Int))) = -1000000) (-1000000) (mno (nxt fbb ffu fsu fmo ((a.toNat : Nat) : Int) k (kk (mna (400 * ((a.toNat : Nat) : Int) + b) - 11767 * ((a.toNat : Nat) : Int)))))) (-2000000) := by
  by_cases q : (0 ≤ a ∧ a ≤ (n : Int)) ∧ 0 ≤ b ∧ b < gst (a + 1) - gst a
  · have q2 := (r_hn hT hn hC hM).mp q
    by_cases r : (0 ≤ a ∧ a < (n : Int)) ∧ 0 ≤ k ∧ k < fsz a
    · have hq3 : ((0 ≤ a ∧ a ≤ (n : Int)) ∧ 0 ≤ b ∧ b ≤ mnd a - 1) ∧ (¬ a = (n : Int) ∧ 0 ≤ k ∧ k ≤ fsz a - 1) := ⟨q2, by omega, by omega, by omega⟩
      rw [sel_t (And.intro q r), sel_t hq3]
      have ea : ((a.toNat : Nat) : Int) = a := by omega
      obtain ⟨p1, p2, p3, -⟩ := r_at hT hn hC hM q2
      have hkk : kk (mna (400 * ((a.toNat : Nat) : Int) + b) - 11767 * ((a.toNat : Nat) : Int)) = gk (gst a + b) := by
        rw [ea, p1, show 11767 * a + kat (gk (gst a + b)) - 11767 * a = kat (gk (gst a + b)) by omega]; exact kk_k p2
      rw [hkk, ea]
      have hsz := hT.1 a (by omega) (by omega)
      have hLK := hC.1.2.1 a.toNat (by omega) k (gst a + b) (by omega) (by rw [ea]; omega) (by rw [ea]; omega) (by rw [ea]; omega)
      rw [ea] at hLK
      have l1 := (hC.1.1 (a.toNat + 1) (by omega)).1
      rw [show ((a.toNat + 1 : Nat) : Int) = a + 1 by omega] at l1
      have l0 := (hC.1.1 a.toNat (by omega)).1
      rw [ea] at l0
      rcases hLK with ⟨x1, x2⟩ | ⟨x1, x2, x3⟩
      · rw [x2, sel_t (by omega), sel_t (nx_cases.elim (fun z => z.2) (fun z => absurd x1 z.1))]
      · have hnx : nxt fbb ffu fsu fmo a k (gk (gst a + b)) = 11767 * (a + 1) + kat (kn fbb ffu fsu fmo (a * 6 + k) k (gk (gst a + b))) := nx_cases.elim (fun z => absurd z.1 x3) (fun z => z.2)
        have hkv := (kn_vk hT (by omega) (by omega) (by omega) (by omega) p2 x3).1
        have hkr := (kat_r hkv).1
        rw [sel_f (by omega), sel_f (by rw [hnx]; omega), hnx]
        -- the place of that node in the layer behind
        have hnd := r_nd hT hn hC hM (d := a.toNat + 1) (by omega)
        rw [show ((a.toNat + 1 : Nat) : Int) = a + 1 by omega] at hnd
        have e0 := hnd.1
        rw [show a + 1 + 1 = a + 2 by omega] at e0
        have hi := hnd.2 (gbe ((gst a + b) * 6 + k) - gst (a + 1)) (by omega) (by omega)
        rw [show gst (a + 1) + (gbe ((gst a + b) * 6 + k) - gst (a + 1)) = gbe ((gst a + b) * 6 + k) by omega, x2] at hi
        have hMe := (hM.2.1 (a.toNat + 1) (by omega)).2.2 (gbe ((gst a + b) * 6 + k) - gst (a + 1)) (by omega) (by rw [show ((a.toNat + 1 : Nat) : Int) = a + 1 by omega]; omega)
        rw [show ((a.toNat + 1 : Nat) : Int) = a + 1 by omega, hi.1] at hMe
        exact hMe.2.symm
    · rw [sel_f (fun z => r z.2), sel_f (by omega)]
  · have q2 : ¬ ((0 ≤ a ∧ a ≤ (n : Int)) ∧ 0 ≤ b ∧ b ≤ mnd a - 1) := fun z => q ((r_hn hT hn hC hM).mpr z)
    rw [sel_f (fun z => q z.1), sel_f (fun z => q2 z.1)]
theorem key_lt {k j : Int} (hk : vk k) (hj : vk j) (h1 : k % 8 = j % 8) (h2 : k / 512 ≤ j / 512) (h3 : k / 8 % 64 ≤ j / 8 % 64) : k ≤ j := by
  unfold vk at hk hj; omega
theorem r_dom (hT : TB fsz fco ffu fsu fbb fmo) (hn : n ≤ 12) (hC : RC fsz fco ffu fsu fbb fmo fle n gst gk gct gcf gwt gwf gbe tt fo fr1 fe1) (hM : RM fsz fco ffu fsu fbb fmo fle n mrt mrf mct mcf mnd mna mno mpc mpr pn) {a b z1 z2 : Int} (q : (0 ≤ a ∧ a ≤ (n : Int)) ∧ 0 ≤ b ∧ b < gst (a + 1) - gst a) (h1 : FDp fle gk gct (gst a) b z1) (h2 : MDp fle mct (fun i => mna (400 * a + i)) (mnd a) b z2) : z1 = z2 := by
  have q2 := (r_hn hT hn hC hM).mp q
  have hnd := r_nd hT hn hC hM (d := a.toNat) (by omega)
  have ea : ((a.toNat : Nat) : Int) = a := by omega
  rw [ea] at hnd
  have hinc : ∀ i j, 0 ≤ i → i < j → j < mnd a → gk (gst a + i) < gk (gst a + j) := fun i j x1 x2 x3 => by
    have := (hC.1.1 a.toNat (by omega)).2.1.2.1 (gst a + i) (gst a + j)
    rw [ea] at this
    exact this (by omega) (by omega) (by omega)
  -- the two ways to say it agree
  have key : ∀ i, 0 ≤ i → i < mnd a → (DMp fle mct (mna (400 * a + i)) (mna (400 * a + b)) ↔ (i < b ∧ AGp fle gk gct (gst a + i) (gst a + b))) := by
    intro i i1 i2
    obtain ⟨p1, p2, p3, p4, p5, -⟩ := hnd.2 i i1 i2
    obtain ⟨s1, s2, s3, s4, s5, -⟩ := hnd.2 b (by omega) (by omega)
    have ka := kat_at p2 p1
    have kb := kat_at s2 s1
    unfold DMp AGp
    rw [ka.2.1, ka.2.2.1, ka.2.2.2, kb.2.1, kb.2.2.1, kb.2.2.2, p5.2, s5.2, p4.2, s4.2]
    constructor
    · rintro ⟨c1, c2, c3, c4, c5⟩
      have hne : ¬ i = b := fun z => c1 (by rw [z])
      have hle := key_lt p2 s2 (by omega) (by omega) (by omega)
      refine ⟨?_, by omega, c5, c2, c3⟩
      rcases Int.lt_trichotomy i b with z | z | z
      · exact z
      · exact absurd z hne
      · have := hinc b i (by omega) z i2; omega
    · rintro ⟨c0, c1, c2, c3, c4⟩
      refine ⟨fun z => ?_, c3, c4, by omega, c2⟩
      have := kat_lt p2 s2 (hinc i b i1 c0 (by omega))
      omega
  rcases h2 with ⟨k, k1, k2, k3, k4⟩ | ⟨k1, k2⟩
  · have kk := (key k k1.1 k1.2).mp k2
    rcases h1 with ⟨e1, e2⟩ | ⟨e1, e2, e3⟩
    · exact absurd kk.2 (e2 (gst a + k) (by omega) (by omega))
    · rcases Int.lt_trichotomy z1 k with t | t | t
      · exact absurd ((key z1 e1.1 (by omega)).mpr ⟨e1.2, e2⟩) (k3 z1 e1.1 t)
      · omega
      · exact absurd kk.2 (e3 (gst a + k) (by omega) (by omega))
  · rcases h1 with ⟨e1, e2⟩ | ⟨e1, e2, e3⟩
    · omega
    · exact absurd ((key z1 e1.1 (by omega)).mpr ⟨e1.2, e2⟩) (k1 z1 e1.1 (by omega))
end LD
