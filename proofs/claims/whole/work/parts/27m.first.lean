/-! THE FIRST TWENTY OF A SET OF NUMBERS -/
def FS (Xs : Int → Int → Prop) (m : Int) (R V : Int → Int) : Prop :=
  (0 ≤ m ∧ m ≤ 20) ∧ (∀ i, 0 ≤ i → i < m → Xs (R i) (V i)) ∧ (∀ i j, 0 ≤ i → i < j → j < m → R i < R j) ∧ (∀ E v, Xs E v → (∃ i, (0 ≤ i ∧ i < m) ∧ R i = E) ∨ (m = 20 ∧ R 19 < E))
theorem fs_0 {Xs : Int → Int → Prop} {R V : Int → Int} (h : ∀ E v, ¬ Xs E v) : FS Xs 0 R V := ⟨by omega, fun i h1 h2 => by omega, fun i j h1 h2 h3 => by omega, fun E v q => absurd q (h E v)⟩
theorem fs_congr {Xs Ys : Int → Int → Prop} {m : Int} {R V : Int → Int} (h : FS Xs m R V) (e : ∀ E v, Xs E v ↔ Ys E v) : FS Ys m R V :=
  ⟨h.1, fun i h1 h2 => (e _ _).mp (h.2.1 i h1 h2), h.2.2.1, fun E v q => h.2.2.2 E v ((e E v).mpr q)⟩
theorem fs_fn {Xs : Int → Int → Prop} {m : Int} {R V R' V' : Int → Int} (h : FS Xs m R V) (e : ∀ i, 0 ≤ i → i < 20 → R' i = R i ∧ V' i = V i) : FS Xs m R' V' := by
  obtain ⟨h1, h2, h3, h4⟩ := h
  refine ⟨h1, fun i i1 i2 => ?_, fun i j i1 i2 i3 => ?_, fun E v q => ?_⟩
  · rw [(e i i1 (by omega)).1, (e i i1 (by omega)).2]; exact h2 i i1 i2
  · rw [(e i i1 (by omega)).1, (e j (by omega) (by omega)).1]; exact h3 i j i1 i2 i3
  · rcases h4 E v q with ⟨i, i1, i2⟩ | ⟨i1, i2⟩
    · exact Or.inl ⟨i, i1, by rw [(e i i1.1 (by omega)).1]; exact i2⟩
    · exact Or.inr ⟨i1, by rw [(e 19 (by omega) (by omega)).1]; exact i2⟩
theorem fs_ins {Xs : Int → Int → Prop} {m m0 row en p : Int} {lr le LR LE : Int → Int} (h : FS Xs m lr le) (hm : (m < 20 ∧ m0 = m) ∨ (m = 20 ∧ m0 = 19 ∧ row < lr 19)) (hp : 0 ≤ p ∧ p ≤ m0)
    (f1 : ∀ i, 0 ≤ i → i < p → LR i = lr i ∧ LE i = le i) (f2 : LR p = row ∧ LE p = en) (f3 : ∀ i, p < i → i ≤ m0 → LR i = lr (i - 1) ∧ LE i = le (i - 1)) (o1 : ∀ i, 0 ≤ i → i < p → lr i < row) (o2 : ∀ i, p ≤ i → i < m0 → row < lr i) :
    FS (fun E v => Xs E v ∨ (E = row ∧ v = en)) (m0 + 1) LR LE := by
  obtain ⟨h1, h2, h3, h4⟩ := h
  have hlast : m0 = 19 → m = 20 → LR 19 < lr 19 := by
    intro e1 e2
    by_cases q : p = 19
    · have := f2.1; rw [q] at this; rw [this]; omega
    · rw [(f3 19 (by omega) (by omega)).1]; exact h3 (19 - 1) 19 (by omega) (by omega) (by omega)
  refine ⟨by omega, fun i i1 i2 => ?_, fun i j i1 i2 i3 => ?_, fun E v q => ?_⟩
  · by_cases q : i < p
    · rw [(f1 i i1 q).1, (f1 i i1 q).2]; exact Or.inl (h2 i i1 (by omega))
    · by_cases r : i = p
      · subst r; exact Or.inr f2
      · rw [(f3 i (by omega) (by omega)).1, (f3 i (by omega) (by omega)).2]; exact Or.inl (h2 (i - 1) (by omega) (by omega))
  · by_cases q : j < p
    · rw [(f1 i i1 (by omega)).1, (f1 j (by omega) q).1]; exact h3 i j i1 i2 (by omega)
    · by_cases r : j = p
      · rw [r, f2.1, (f1 i i1 (by omega)).1]; exact o1 i i1 (by omega)
      · rw [(f3 j (by omega) (by omega)).1]
        by_cases t : i < p
        · rw [(f1 i i1 t).1]; exact h3 i (j - 1) i1 (by omega) (by omega)
        · by_cases u : i = p
          · rw [u, f2.1]; exact o2 (j - 1) (by omega) (by omega)
          · rw [(f3 i (by omega) (by omega)).1]; exact h3 (i - 1) (j - 1) (by omega) (by omega) (by omega)
  · rcases q with q | ⟨q, -⟩
    · rcases h4 E v q with ⟨i, i1, i2⟩ | ⟨i1, i2⟩
      · by_cases r : i < p
        · exact Or.inl ⟨i, by omega, by rw [(f1 i i1.1 r).1]; exact i2⟩
        · by_cases t : i < m0
          · refine Or.inl ⟨i + 1, by omega, ?_⟩
            rw [(f3 (i + 1) (by omega) (by omega)).1, show i + 1 - 1 = i by omega]; exact i2
          · have e1 : i = 19 := by omega
            subst e1
            exact Or.inr ⟨by omega, by rw [← i2]; exact hlast (by omega) (by omega)⟩
      · refine Or.inr ⟨by omega, ?_⟩
        have := hlast (by omega) i1
        omega
    · exact Or.inl ⟨p, by omega, by rw [f2.1, q]⟩
theorem fs_out {Xs : Int → Int → Prop} {row en : Int} {lr le : Int → Int} (h : FS Xs 20 lr le) (hr : lr 19 < row) : FS (fun E v => Xs E v ∨ (E = row ∧ v = en)) 20 lr le := by
  obtain ⟨h1, h2, h3, h4⟩ := h
  refine ⟨h1, fun i i1 i2 => Or.inl (h2 i i1 i2), h3, fun E v q => ?_⟩
  rcases q with q | ⟨q, -⟩
  · exact h4 E v q
  · exact Or.inr ⟨rfl, by rw [q]; exact hr⟩
/-- the rows of length d that begin plans, with the nodes at which they end -/
def PC (fsz fco ffu fsu fbb fmo fle : Int → Int) (n : Nat) (gst gk : Int → Int) (d : Nat) (E v : Int) : Prop :=
  ∃ r k g, PR fsz fco ffu fsu fbb fmo fle n d r k g ∧ E = cod fsz fco ffu fsu fbb fmo fle n d r k g ∧ (gst (d : Int) ≤ v ∧ v < gst ((d : Int) + 1)) ∧ gk v = k
def rowf (fco gbe gcf R V : Int → Int) (d i c : Int) : Int := R i + (fco (d * 6 + c) + gcf (gbe (V i * 6 + c)) - gcf (V i)) * 68719476736 + c * 2 ^ (3 * (11 - d)).toNat
/-- what the rows kept lead to -/
def XR (fco gbe gwf gcf R V : Int → Int) (d sz x y : Int) (E v : Int) : Prop :=
  ∃ i c, (0 ≤ i ∧ (i < x ∨ (i = x ∧ c < y))) ∧ (0 ≤ c ∧ c < sz) ∧ (0 ≤ gbe (V i * 6 + c) ∧ ¬ gwf (gbe (V i * 6 + c)) = 0) ∧ E = rowf fco gbe gcf R V d i c ∧ v = gbe (V i * 6 + c)
theorem pw2 {d : Nat} (h : d < 12) : (2 : Int) ^ (3 * (11 - (d : Int))).toNat = 8 ^ (11 - d) := by
  rw [show (3 * (11 - (d : Int))).toNat = 3 * (11 - d) by omega, Int.pow_mul]; rfl
section FN
variable {fsz fco ffu fsu fbb fmo fle gst gk gwt gct gbe gwf gcf R V : Int → Int} {n d : Nat} {m : Int}
/-- a child of a row kept -/
theorem pc_child (hT : TB fsz fco ffu fsu fbb fmo) (hn : n ≤ 12) (hd : d < n) (hLS : LYS fsz fco ffu fsu fbb fmo n gst gk gwt gct gbe) (hB : ∀ d : Nat, d ≤ n → BK fsz fco ffu fsu fbb fmo fle n gk gwf gcf d (gst (d : Int)) (gst ((d : Int) + 1)))
    {E v c : Int} (h : PC fsz fco ffu fsu fbb fmo fle n gst gk d E v) (hc : 0 ≤ c ∧ c < fsz (d : Int)) :
    ∃ r k g, PR fsz fco ffu fsu fbb fmo fle n d r k g ∧ E = cod fsz fco ffu fsu fbb fmo fle n d r k g ∧ gk v = k ∧ ((0 ≤ gbe (v * 6 + c) ∧ ¬ gwf (gbe (v * 6 + c)) = 0) ↔ (¬ kn fbb ffu fsu fmo ((d : Int) * 6 + c) c k = -1 ∧ 0 < wf fsz ffu fsu fbb fmo fle (n - (d + 1)) (d + 1) (kn fbb ffu fsu fmo ((d : Int) * 6 + c) c k))) ∧
      ((0 ≤ gbe (v * 6 + c) ∧ ¬ gwf (gbe (v * 6 + c)) = 0) → E + (fco ((d : Int) * 6 + c) + gcf (gbe (v * 6 + c)) - gcf v) * 68719476736 + c * 2 ^ (3 * (11 - (d : Int))).toNat = cod fsz fco ffu fsu fbb fmo fle n (d + 1) (r + c * 8 ^ (11 - d)) (kn fbb ffu fsu fmo ((d : Int) * 6 + c) c k) (g + fco ((d : Int) * 6 + c)) ∧ PC fsz fco ffu fsu fbb fmo fle n gst gk (d + 1) (cod fsz fco ffu fsu fbb fmo fle n (d + 1) (r + c * 8 ^ (11 - d)) (kn fbb ffu fsu fmo ((d : Int) * 6 + c) c k) (g + fco ((d : Int) * 6 + c))) (gbe (v * 6 + c))) := by
  obtain ⟨r, k, g, h1, h2, h3, h4⟩ := h
  refine ⟨r, k, g, h1, h2, h4, ?_⟩
  have hLK := hLS.2.1 d hd c v hc.1 hc.2 h3.1 h3.2
  have hs0 := (hLS.1 d (by omega)).1
  have hs1 := (hLS.1 (d + 1) (by omega)).1
  have hw := pr_wf d r k g h1
  have hBd := hB d (by omega) v h3.1 h3.2
  rw [h4] at hLK hBd
  rcases hLK with ⟨x1, x2⟩ | ⟨x1, x2, x3⟩
  · exact ⟨⟨fun z => by omega, fun z => absurd x1 z.1⟩, fun z => by omega⟩
  · have e2 : ((d + 1 : Nat) : Int) = (d : Int) + 1 := by omega
    have hBn := hB (d + 1) (by omega) (gbe (v * 6 + c)) (by rw [e2]; exact x1.1) (by rw [e2, show (d : Int) + 1 + 1 = (d : Int) + 2 by omega]; exact x1.2)
    rw [x2] at hBn
    have hnn := wf_nn (fsz := fsz) (ffu := ffu) (fsu := fsu) (fbb := fbb) (fmo := fmo) (fle := fle) (n - (d + 1)) (d + 1) (kn fbb ffu fsu fmo ((d : Int) * 6 + c) c k)
    have key : (0 ≤ gbe (v * 6 + c) ∧ ¬ gwf (gbe (v * 6 + c)) = 0) ↔ (¬ kn fbb ffu fsu fmo ((d : Int) * 6 + c) c k = -1 ∧ 0 < wf fsz ffu fsu fbb fmo fle (n - (d + 1)) (d + 1) (kn fbb ffu fsu fmo ((d : Int) * 6 + c) c k)) := by
      rw [hBn.1]
      exact ⟨fun z => ⟨x3, by omega⟩, fun z => ⟨by omega, by omega⟩⟩
    refine ⟨key, fun z => ?_⟩
    have z2 := key.mp z
    have c1 := hBn.2.1 (by rw [hBn.1]; exact z2.2)
    have c2 := hBd.2.1 (by rw [hBd.1]; exact hw)
    refine ⟨?_, r + c * 8 ^ (11 - d), _, g + fco ((d : Int) * 6 + c), ⟨c, k, g, r, h1, hc, rfl, x3, z2.2, rfl, rfl⟩, rfl, ?_, x2⟩
    · rw [pw2 (by omega), c1, c2, h2]
      unfold cod
      omega
    · rw [e2, show (d : Int) + 1 + 1 = (d : Int) + 2 by omega]; exact x1
theorem pc_mult (hT : TB fsz fco ffu fsu fbb fmo) (hd : d ≤ 12) {E v : Int} (h : PC fsz fco ffu fsu fbb fmo fle n gst gk d E v) : ∃ q, E = q * 8 ^ (12 - d) := by
  obtain ⟨r, k, g, h1, h2, -⟩ := h
  obtain ⟨q, q1, -⟩ := pr_r hT d r k g hd h1
  have e : (8 : Int) ^ d * 8 ^ (12 - d) = 68719476736 := by
    rw [← Int.pow_add, show d + (12 - d) = 12 by omega]; rfl
  refine ⟨(g + cf fsz fco ffu fsu fbb fmo fle (n - d) d k + 12000) * 8 ^ d + q, ?_⟩
  rw [h2, Int.add_mul, Int.mul_assoc, e, ← q1]
  rfl
theorem mult_lt {M a b q p : Int} (hM : 0 < M) (ha : a = q * M) (hb : b = p * M) (h : a < b) : a + M ≤ b := by
  have h1 : q < p := by
    rcases Int.lt_or_le q p with z | z
    · exact z
    · have := Int.mul_le_mul_of_nonneg_right z (Int.le_of_lt hM); omega
  have h2 : (q + 1) * M ≤ p * M := Int.mul_le_mul_of_nonneg_right (by omega) (by omega)
  rw [Int.add_mul, Int.one_mul, ← ha, ← hb] at h2
  exact h2
/-- the first twenty of the next length come from the first twenty of this one -/
theorem fs_next (hT : TB fsz fco ffu fsu fbb fmo) (hn : n ≤ 12) (hd : d < n) (hLS : LYS fsz fco ffu fsu fbb fmo n gst gk gwt gct gbe) (hB : ∀ d : Nat, d ≤ n → BK fsz fco ffu fsu fbb fmo fle n gk gwf gcf d (gst (d : Int)) (gst ((d : Int) + 1)))
    (h : FS (PC fsz fco ffu fsu fbb fmo fle n gst gk d) m R V) {m' : Int} {R' V' : Int → Int} (h' : FS (XR fco gbe gwf gcf R V (d : Int) (fsz (d : Int)) m 0) m' R' V') : FS (PC fsz fco ffu fsu fbb fmo fle n gst gk (d + 1)) m' R' V' := by
  obtain ⟨a1, a2, a3, a4⟩ := h
  obtain ⟨b1, b2, b3, b4⟩ := h'
  have hM := pw8p (12 - d)
  refine ⟨b1, fun i i1 i2 => ?_, b3, fun E v q => ?_⟩
  · obtain ⟨j, c, c1, c2, c3, c4, c5⟩ := b2 i i1 i2
    obtain ⟨r, k, g, p1, p2, p3, p4, p5⟩ := pc_child hT hn hd hLS hB (a2 j c1.1 (by omega)) c2
    obtain ⟨p6, p7⟩ := p5 c3
    have e : R' i = cod fsz fco ffu fsu fbb fmo fle n (d + 1) (r + c * 8 ^ (11 - d)) (kn fbb ffu fsu fmo ((d : Int) * 6 + c) c k) (g + fco ((d : Int) * 6 + c)) := by
      rw [c4]; exact p6
    rw [e, c5]; exact p7
  · obtain ⟨r', k', g', q1, q2, q3, q4⟩ := q
    obtain ⟨c, k0, g0, r0, s1, s2, s3, s4, s5, s6, s7⟩ := q1
    -- the parent of E
    have hwp := pr_wf d r0 k0 g0 s1
    have hchild := cod_child hT hn hd (r := r0) (k := k0) (g := g0) s2 (by rw [s3]; exact s4) (by rw [s3]; exact s5)
    rw [s3, ← s6, ← s7, ← q2] at hchild
    -- a node with its key
    have hLd := hLS.1 d (by omega)
    have hk0 : 0 < wt fsz ffu fsu fbb fmo d k0 := by
      have : ∀ (d : Nat) (r k g : Int), d ≤ n → PR fsz fco ffu fsu fbb fmo fle n d r k g → 0 < wt fsz ffu fsu fbb fmo d k := by
        intro d
        induction d with
        | zero => intro r k g _ h; rw [h.2.1]; unfold wt; rw [if_pos rfl]; omega
        | succ d ih =>
          intro r k g hd h
          obtain ⟨c, k0, g0, r0, t1, t2, t3, t4, t5, t6, t7⟩ := h
          have w := ih r0 k0 g0 (by omega) t1
          rw [← t3]
          exact wt_pos hT (by omega) t2.1 t2.2 (wt_vk hT d k0 (by omega) w) w (by rw [t3]; exact t4)
      exact this d r0 k0 g0 (by omega) s1
    obtain ⟨v0, v1, v2, v3⟩ := hLd.2.1.2.2 k0 hk0
    have hpar : PC fsz fco ffu fsu fbb fmo fle n gst gk d (cod fsz fco ffu fsu fbb fmo fle n d r0 k0 g0) v0 := ⟨r0, k0, g0, s1, rfl, ⟨v1, v2⟩, v3⟩
    rcases a4 _ _ hpar with ⟨i, i1, i2⟩ | ⟨i1, i2⟩
    · -- the parent is kept: E is among the children
      obtain ⟨r, k, g, p1, p2, p3, p4, p5⟩ := pc_child hT hn hd hLS hB (a2 i i1.1 i1.2) s2
      have hr0 := pr_rb hT (by omega) s1
      have hr := pr_rb hT (by omega) p1
      have er : r = r0 := by
        rw [p2] at i2
        unfold cod at i2
        have hp := pw8p (12 - d)
        omega
      subst er
      obtain ⟨ek, eg⟩ := pr_fun hT d r k g k0 g0 (by omega) p1 s1
      subst ek eg
      have hcnd := p4.mpr ⟨by rw [s3]; exact s4, by rw [s3]; exact s5⟩
      have p6 := (p5 hcnd).1
      refine b4 E _ ⟨i, c, ⟨i1.1, Or.inl i1.2⟩, s2, hcnd, ?_, rfl⟩
      rw [q2, s6, s7, ← s3, ← p6]
      rfl
    · -- twenty better ones
      have step : ∀ i : Nat, (i : Int) < 20 → (m' = 20 ∧ R' 19 < E) ∨ ∃ j B, (i : Int) ≤ j ∧ j < m' ∧ R' j = B ∧ B < R (i : Int) + 8 ^ (12 - d) := by
        have best : ∀ i : Nat, (i : Int) < 20 → ∃ B w, XR fco gbe gwf gcf R V (d : Int) (fsz (d : Int)) m 0 B w ∧ R (i : Int) ≤ B ∧ B < R (i : Int) + 8 ^ (12 - d) := by
          intro i hi
          have hPi := a2 (i : Int) (by omega) (by omega)
          obtain ⟨r, k, g, p1, p2, -, -⟩ := id hPi
          obtain ⟨c, d1, d2, d3, d4⟩ := cod_best hT hn hd (r := r) (g := g) (pr_wf d r k g p1)
          obtain ⟨r1, k1, g1, p1', p2', p3', p4', p5'⟩ := pc_child hT hn hd hLS hB hPi d1
          have hr0 := pr_rb hT (by omega) p1
          have hr := pr_rb hT (by omega) p1'
          have er : r1 = r := by
            have e := p2.symm.trans p2'
            unfold cod at e
            have hp := pw8p (12 - d)
            omega
          subst er
          obtain ⟨ek, eg⟩ := pr_fun hT d r1 k1 g1 k g (by omega) p1' p1
          subst ek eg
          have hcnd := p4'.mpr ⟨d2, d3⟩
          have p6 := (p5' hcnd).1
          have hch := cod_child hT hn hd (r := r1) (k := k1) (g := g1) d1 d2 d3
          refine ⟨_, _, ⟨(i : Int), c, ⟨by omega, Or.inl (by omega)⟩, d1, hcnd, rfl, rfl⟩, ?_, ?_⟩
          · show R (i : Int) ≤ R (i : Int) + (fco ((d : Int) * 6 + c) + gcf (gbe (V (i : Int) * 6 + c)) - gcf (V (i : Int))) * 68719476736 + c * 2 ^ (3 * (11 - (d : Int))).toNat
            rw [p6, p2']; exact hch
          · show R (i : Int) + (fco ((d : Int) * 6 + c) + gcf (gbe (V (i : Int) * 6 + c)) - gcf (V (i : Int))) * 68719476736 + c * 2 ^ (3 * (11 - (d : Int))).toNat < _
            rw [p6, p2']; exact d4
        have hup : ∀ i : Nat, (i : Int) < 20 → R (i : Int) + 8 ^ (12 - d) ≤ E := by
          intro i hi
          obtain ⟨x1, hx1⟩ := pc_mult hT (by omega) (a2 (i : Int) (by omega) (by omega))
          obtain ⟨x2, hx2⟩ := pc_mult hT (by omega) hpar
          have hlt : R (i : Int) < cod fsz fco ffu fsu fbb fmo fle n d r0 k0 g0 := by
            by_cases z : (i : Int) = 19
            · rw [z]; exact i2
            · have := a3 (i : Int) 19 (by omega) (by omega) (by omega); omega
          have := mult_lt hM hx1 hx2 hlt
          omega
        intro i
        induction i with
        | zero =>
          intro hi
          obtain ⟨B, w, w1, w2, w3⟩ := best 0 hi
          rcases b4 B w w1 with ⟨j, j1, j2⟩ | ⟨j1, j2⟩
          · exact Or.inr ⟨j, B, by omega, j1.2, j2, w3⟩
          · have := hup 0 hi; exact Or.inl ⟨j1, by omega⟩
        | succ i ih =>
          intro hi
          rcases ih (by omega) with z | ⟨j, B, z1, z2, z3, z4⟩
          · exact Or.inl z
          · obtain ⟨B', w, w1, w2, w3⟩ := best (i + 1) hi
            have u1 := hup (i + 1) hi
            obtain ⟨x1, hx1⟩ := pc_mult hT (by omega) (a2 (i : Int) (by omega) (by omega))
            obtain ⟨x2, hx2⟩ := pc_mult hT (by omega) (a2 ((i + 1 : Nat) : Int) (by omega) (by omega))
            have hlt := mult_lt hM hx1 hx2 (a3 (i : Int) ((i + 1 : Nat) : Int) (by omega) (by omega) (by omega))
            rcases b4 B' w w1 with ⟨j', j1, j2⟩ | ⟨j1, j2⟩
            · refine Or.inr ⟨j', B', ?_, j1.2, j2, w3⟩
              have : j < j' := by
                rcases Int.lt_or_le j j' with t | t
                · exact t
                · by_cases t2 : j' = j
                  · subst t2; omega
                  · have := b3 j' j j1.1 (by omega) z2; omega
              omega
            · exact Or.inl ⟨j1, by omega⟩
      rcases step 19 (by omega) with z | ⟨j, B, z1, z2, z3, z4⟩
      · exact Or.inr z
      · have e1 : j = 19 := by omega
        subst e1
        refine Or.inr ⟨by omega, ?_⟩
        obtain ⟨x1, hx1⟩ := pc_mult hT (by omega) (a2 19 (by omega) (by omega))
        obtain ⟨x2, hx2⟩ := pc_mult hT (by omega) hpar
        have := mult_lt hM hx1 hx2 i2
        rw [z3]
        have e19 : ((19 : Nat) : Int) = 19 := rfl
        rw [e19] at z4
        omega
end FN
