/-! what the rows kept lead to, one by one -/
theorem xr_0 {fco gbe gwf gcf R V : Int → Int} {d sz : Int} : ∀ E v, ¬ XR fco gbe gwf gcf R V d sz 0 0 E v := by
  intro E v h
  obtain ⟨i, c, h1, h2, -⟩ := h
  omega
theorem xr_s {fco gbe gwf gcf R V : Int → Int} {d sz x y : Int} (hx : 0 ≤ x) (hy : 0 ≤ y ∧ y < sz) : ∀ E v, (XR fco gbe gwf gcf R V d sz x y E v ∨ ((0 ≤ gbe (V x * 6 + y) ∧ ¬ gwf (gbe (V x * 6 + y)) = 0) ∧ E = rowf fco gbe gcf R V d x y ∧ v = gbe (V x * 6 + y))) ↔ XR fco gbe gwf gcf R V d sz x (y + 1) E v := by
  intro E v
  constructor
  · rintro (⟨i, c, h1, h2, h3, h4, h5⟩ | ⟨h3, h4, h5⟩)
    · exact ⟨i, c, ⟨h1.1, by omega⟩, h2, h3, h4, h5⟩
    · exact ⟨x, y, ⟨hx, Or.inr ⟨rfl, by omega⟩⟩, hy, h3, h4, h5⟩
  · rintro ⟨i, c, h1, h2, h3, h4, h5⟩
    by_cases q : i = x ∧ c = y
    · obtain ⟨q1, q2⟩ := q
      subst q1 q2
      exact Or.inr ⟨h3, h4, h5⟩
    · exact Or.inl ⟨i, c, ⟨h1.1, by omega⟩, h2, h3, h4, h5⟩
theorem xr_e {fco gbe gwf gcf R V : Int → Int} {d sz x y : Int} (hx : 0 ≤ x) (hy : sz ≤ y) : ∀ E v, XR fco gbe gwf gcf R V d sz x y E v ↔ XR fco gbe gwf gcf R V d sz (x + 1) 0 E v := by
  intro E v
  constructor
  · rintro ⟨i, c, h1, h2, h3, h4, h5⟩
    exact ⟨i, c, ⟨h1.1, by omega⟩, h2, h3, h4, h5⟩
  · rintro ⟨i, c, h1, h2, h3, h4, h5⟩
    exact ⟨i, c, ⟨h1.1, by omega⟩, h2, h3, h4, h5⟩
section RN
variable {fsz fco ffu fsu fbb fmo fle gst gk gwt gct gbe gwf gcf R V : Int → Int} {n d : Nat} {m : Int}
theorem pc_rng (hT : TB fsz fco ffu fsu fbb fmo) (hn : n ≤ 12) (hd : d ≤ n) {E v : Int} (h : PC fsz fco ffu fsu fbb fmo fle n gst gk d E v) : 0 ≤ E ∧ E < 4611686018427387904 := by
  obtain ⟨r, k, g, h1, h2, -⟩ := h
  have a := pr_g hT d r k g (by omega) h1
  have b := cf_rng hT (n - d) d k (by omega) (pr_wf d r k g h1)
  have c := pr_rb hT (by omega) h1
  have p := pw8p (12 - d)
  rw [h2]
  unfold cod
  omega
theorem row_pc (hT : TB fsz fco ffu fsu fbb fmo) (hn : n ≤ 12) (hd : d < n) (hLS : LYS fsz fco ffu fsu fbb fmo n gst gk gwt gct gbe) (hB : ∀ d : Nat, d ≤ n → BK fsz fco ffu fsu fbb fmo fle n gk gwf gcf d (gst (d : Int)) (gst ((d : Int) + 1)))
    (h : FS (PC fsz fco ffu fsu fbb fmo fle n gst gk d) m R V) {i c : Int} (hi : 0 ≤ i ∧ i < m) (hc : 0 ≤ c ∧ c < fsz (d : Int)) (hq : 0 ≤ gbe (V i * 6 + c) ∧ ¬ gwf (gbe (V i * 6 + c)) = 0) : PC fsz fco ffu fsu fbb fmo fle n gst gk (d + 1) (rowf fco gbe gcf R V (d : Int) i c) (gbe (V i * 6 + c)) := by
  obtain ⟨r, k, g, p1, p2, p3, p4, p5⟩ := pc_child hT hn hd hLS hB (h.2.1 i hi.1 hi.2) hc
  obtain ⟨p6, p7⟩ := p5 hq
  have e : rowf fco gbe gcf R V (d : Int) i c = cod fsz fco ffu fsu fbb fmo fle n (d + 1) (r + c * 8 ^ (11 - d)) (kn fbb ffu fsu fmo ((d : Int) * 6 + c) c k) (g + fco ((d : Int) * 6 + c)) := p6
  rw [e]; exact p7
theorem row_inj (hT : TB fsz fco ffu fsu fbb fmo) (hn : n ≤ 12) (hd : d < n) (hLS : LYS fsz fco ffu fsu fbb fmo n gst gk gwt gct gbe) (hB : ∀ d : Nat, d ≤ n → BK fsz fco ffu fsu fbb fmo fle n gk gwf gcf d (gst (d : Int)) (gst ((d : Int) + 1)))
    (h : FS (PC fsz fco ffu fsu fbb fmo fle n gst gk d) m R V) {i c i' c' : Int} (hi : 0 ≤ i ∧ i < m) (hc : 0 ≤ c ∧ c < fsz (d : Int)) (hq : 0 ≤ gbe (V i * 6 + c) ∧ ¬ gwf (gbe (V i * 6 + c)) = 0) (hi' : 0 ≤ i' ∧ i' < m) (hc' : 0 ≤ c' ∧ c' < fsz (d : Int)) (hq' : 0 ≤ gbe (V i' * 6 + c') ∧ ¬ gwf (gbe (V i' * 6 + c')) = 0)
    (e : rowf fco gbe gcf R V (d : Int) i c = rowf fco gbe gcf R V (d : Int) i' c') : i = i' ∧ c = c' := by
  have hsz := hT.1 (d : Int) (by omega) (by omega)
  obtain ⟨r, k, g, p1, p2, p3, p4, p5⟩ := pc_child hT hn hd hLS hB (h.2.1 i hi.1 hi.2) hc
  obtain ⟨r', k', g', p1', p2', p3', p4', p5'⟩ := pc_child hT hn hd hLS hB (h.2.1 i' hi'.1 hi'.2) hc'
  have e1 := (p5 hq).1
  have e2 := (p5' hq').1
  have e3 : cod fsz fco ffu fsu fbb fmo fle n (d + 1) (r + c * 8 ^ (11 - d)) (kn fbb ffu fsu fmo ((d : Int) * 6 + c) c k) (g + fco ((d : Int) * 6 + c)) = cod fsz fco ffu fsu fbb fmo fle n (d + 1) (r' + c' * 8 ^ (11 - d)) (kn fbb ffu fsu fmo ((d : Int) * 6 + c') c' k') (g' + fco ((d : Int) * 6 + c')) := by
    rw [← e1, ← e2]; exact e
  have hr := pr_rb hT (by omega) p1
  have hr' := pr_rb hT (by omega) p1'
  have hp := pw8p (11 - d)
  rw [pw8 (by omega)] at hr hr'
  have b1 : c * 8 ^ (11 - d) ≤ 5 * 8 ^ (11 - d) := Int.mul_le_mul_of_nonneg_right (by omega) (by omega)
  have b1' : c' * 8 ^ (11 - d) ≤ 5 * 8 ^ (11 - d) := Int.mul_le_mul_of_nonneg_right (by omega) (by omega)
  have b2 : 0 ≤ c * 8 ^ (11 - d) := Int.mul_nonneg hc.1 (by omega)
  have b2' : 0 ≤ c' * 8 ^ (11 - d) := Int.mul_nonneg hc'.1 (by omega)
  have e4 : r + c * 8 ^ (11 - d) = r' + c' * 8 ^ (11 - d) := by
    unfold cod at e3
    omega
  obtain ⟨q, q1, -⟩ := pr_r hT d _ _ _ (by omega) p1
  obtain ⟨q', q1', -⟩ := pr_r hT d _ _ _ (by omega) p1'
  rw [pw8 (by omega)] at q1 q1'
  rw [q1, q1'] at e4
  obtain ⟨e5, e6⟩ := pr_split hp ⟨hc.1, by omega⟩ ⟨hc'.1, by omega⟩ e4
  subst e6
  have e7 : r = r' := by rw [q1, q1', e5]
  subst e7
  obtain ⟨e8, e9⟩ := pr_fun hT d r k g k' g' (by omega) p1 p1'
  subst e8 e9
  refine ⟨?_, rfl⟩
  have e10 : R i = R i' := p2.trans p2'.symm
  rcases Int.lt_trichotomy i i' with t | t | t
  · have := h.2.2.1 i i' hi.1 t hi'.2; omega
  · exact t
  · have := h.2.2.1 i' i hi'.1 t hi.2; omega
theorem xr_ne (hT : TB fsz fco ffu fsu fbb fmo) (hn : n ≤ 12) (hd : d < n) (hLS : LYS fsz fco ffu fsu fbb fmo n gst gk gwt gct gbe) (hB : ∀ d : Nat, d ≤ n → BK fsz fco ffu fsu fbb fmo fle n gk gwf gcf d (gst (d : Int)) (gst ((d : Int) + 1)))
    (h : FS (PC fsz fco ffu fsu fbb fmo fle n gst gk d) m R V) {x y m' : Int} {LR LE : Int → Int} (hx : 0 ≤ x ∧ x < m) (hy : 0 ≤ y ∧ y < fsz (d : Int)) (h' : FS (XR fco gbe gwf gcf R V (d : Int) (fsz (d : Int)) x y) m' LR LE) (hq : 0 ≤ gbe (V x * 6 + y) ∧ ¬ gwf (gbe (V x * 6 + y)) = 0) : ∀ i, 0 ≤ i → i < m' → ¬ LR i = rowf fco gbe gcf R V (d : Int) x y := by
  intro i i1 i2 e
  obtain ⟨j, c, c1, c2, c3, c4, c5⟩ := h'.2.1 i i1 i2
  rw [c4] at e
  have := row_inj hT hn hd hLS hB h ⟨c1.1, by omega⟩ c2 c3 hx hy hq e
  omega
theorem xr_rng (hT : TB fsz fco ffu fsu fbb fmo) (hn : n ≤ 12) (hd : d < n) (hLS : LYS fsz fco ffu fsu fbb fmo n gst gk gwt gct gbe) (hB : ∀ d : Nat, d ≤ n → BK fsz fco ffu fsu fbb fmo fle n gk gwf gcf d (gst (d : Int)) (gst ((d : Int) + 1)))
    (h : FS (PC fsz fco ffu fsu fbb fmo fle n gst gk d) m R V) {x y m' : Int} {LR LE : Int → Int} (hx : 0 ≤ x ∧ x ≤ m) (hy : x = m → y ≤ 0) (h' : FS (XR fco gbe gwf gcf R V (d : Int) (fsz (d : Int)) x y) m' LR LE) : ∀ i, 0 ≤ i → i < m' → 0 ≤ LR i ∧ LR i < 4611686018427387904 := by
  intro i i1 i2
  obtain ⟨j, c, c1, c2, c3, c4, c5⟩ := h'.2.1 i i1 i2
  rw [c4]
  exact pc_rng hT hn (by omega) (row_pc hT hn hd hLS hB h ⟨c1.1, by omega⟩ c2 c3)
end RN
theorem fs_skip {Xs Ys : Int → Int → Prop} {m : Int} {R V : Int → Int} (h : FS Xs m R V) (hn : ∀ E v, ¬ Ys E v) : FS (fun E v => Xs E v ∨ Ys E v) m R V :=
  fs_congr h (fun E v => ⟨Or.inl, fun q => q.elim id (fun z => absurd z (hn E v))⟩)
