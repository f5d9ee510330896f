/-! THE MODEL'S WAY BACK -/
theorem uZ_id {f : Int → Int} {k : Int} : uZ f k (f k) = f := by
  funext j
  by_cases q : j = k
  · subst q; rw [uZ_s]
  · rw [uZ_n q]
theorem uZ_uZ {f : Int → Int} {k a b : Int} : uZ (uZ f k a) k b = uZ f k b := by
  funext j
  by_cases q : j = k
  · subst q; rw [uZ_s, uZ_s]
  · rw [uZ_n q, uZ_n q, uZ_n q]
theorem me_at {fsz fco ffu fsu fbb fmo : Int → Int} (hT : TB fsz fco ffu fsu fbb fmo) {d : Nat} (hd : d ≤ 12) {m x : Int} {na no : Int → Int} (h : ME fsz ffu fsu fbb fmo d m na no) (hx : 0 ≤ x ∧ x < m) : vk (kk (na (400 * (d : Int) + x) - 11767 * (d : Int))) ∧ 0 < wt fsz ffu fsu fbb fmo d (kk (na (400 * (d : Int) + x) - 11767 * (d : Int))) ∧ na (400 * (d : Int) + x) = 11767 * (d : Int) + kat (kk (na (400 * (d : Int) + x) - 11767 * (d : Int))) := by
  have h1 := h.2.2 x hx.1 hx.2
  have h2 := kk_r (x := na (400 * (d : Int) + x) - 11767 * (d : Int)) (by omega)
  exact ⟨h2.1, (h.2.1.2.2 _).mp ⟨x, hx.1, hx.2, rfl⟩, by rw [h2.2]; omega⟩
/-- what goes from a node is known -/
def FB (fsz fco ffu fsu fbb fmo fle : Int → Int) (n d : Nat) (k : Int) (RF CF : Int → Int) : Prop := RF (11767 * (d : Int) + kat k) = wf fsz ffu fsu fbb fmo fle (n - d) d k ∧ CF (11767 * (d : Int) + kat k) = sel (0 < wf fsz ffu fsu fbb fmo fle (n - d) d k) (cf fsz fco ffu fsu fbb fmo fle (n - d) d k) 900000
/-- layers above d are known, of layer d the nodes below x; the rest is as at the start -/
def GB (fsz fco ffu fsu fbb fmo fle : Int → Int) (n d : Nat) (x : Int) (K RF CF : Int → Int) : Prop :=
  (∀ e : Nat, d < e → e ≤ n → ∀ k, vk k → 0 < wt fsz ffu fsu fbb fmo e k → FB fsz fco ffu fsu fbb fmo fle n e k RF CF) ∧ (∀ i, 0 ≤ i → i < x → FB fsz fco ffu fsu fbb fmo fle n d (K i) RF CF) ∧
  (∀ j, 0 ≤ j → j < 11767 * ((d : Int) + 1) → (∀ i, 0 ≤ i → i < x → ¬ j = 11767 * (d : Int) + kat (K i)) → RF j = 0 ∧ CF j = 900000)
def GO (fsz fco ffu fsu fbb fmo fle : Int → Int) (n dn : Nat) (RF CF : Int → Int) : Prop :=
  (∀ e : Nat, dn ≤ e → e ≤ n → ∀ k, vk k → 0 < wt fsz ffu fsu fbb fmo e k → FB fsz fco ffu fsu fbb fmo fle n e k RF CF) ∧ (∀ j, 0 ≤ j → j < 11767 * (dn : Int) → RF j = 0 ∧ CF j = 900000)
theorem go_0 {fsz fco ffu fsu fbb fmo fle : Int → Int} {n : Nat} {RF CF : Int → Int} (h : ∀ j, 0 ≤ j → j < 11767 * ((n : Int) + 1) → RF j = 0 ∧ CF j = 900000) : GO fsz fco ffu fsu fbb fmo fle n (n + 1) RF CF :=
  ⟨fun e a b => by omega, fun j a b => h j a (by omega)⟩
theorem go_gb {fsz fco ffu fsu fbb fmo fle : Int → Int} {n d : Nat} {K RF CF : Int → Int} (h : GO fsz fco ffu fsu fbb fmo fle n (d + 1) RF CF) : GB fsz fco ffu fsu fbb fmo fle n d 0 K RF CF :=
  ⟨fun e a b => h.1 e (by omega) b, fun i a b => by omega, fun j a b _ => h.2 j a (by omega)⟩
theorem gb_go {fsz fco ffu fsu fbb fmo fle : Int → Int} {n d : Nat} {x m : Int} {K RF CF : Int → Int} (h : GB fsz fco ffu fsu fbb fmo fle n d x K RF CF) (hE : EN (fun k => 0 < wt fsz ffu fsu fbb fmo d k) m K) (hx : x = m) (hv : ∀ i, 0 ≤ i → i < x → vk (K i)) : GO fsz fco ffu fsu fbb fmo fle n d RF CF := by
  refine ⟨fun e a b k hk hw => ?_, fun j a b => ?_⟩
  · by_cases q : e = d
    · subst q
      obtain ⟨i, i1, i2, i3⟩ := (hE.2.2 k).mpr hw
      have := h.2.1 i i1 (by omega)
      rw [i3] at this; exact this
    · exact h.1 e (by omega) b k hk hw
  · exact h.2.2 j a (by omega) (fun i i1 i2 q => by have := (kat_r (hv i i1 i2)).1; omega)
theorem gb_zero {fsz fco ffu fsu fbb fmo fle : Int → Int} {n d : Nat} {x m : Int} {K RF CF : Int → Int} (h : GB fsz fco ffu fsu fbb fmo fle n d x K RF CF) (hE : EN (fun k => 0 < wt fsz ffu fsu fbb fmo d k) m K) (hx : 0 ≤ x ∧ x < m) (hv : ∀ i, 0 ≤ i → i < m → vk (K i)) : RF (11767 * (d : Int) + kat (K x)) = 0 ∧ CF (11767 * (d : Int) + kat (K x)) = 900000 := by
  have hk := (kat_r (hv x hx.1 hx.2)).1
  refine h.2.2 _ (by omega) (by omega) (fun i i1 i2 q => ?_)
  have := kat_lt (hv i i1 (by omega)) (hv x hx.1 hx.2) (hE.2.1 i x i1 i2 hx.2)
  omega
theorem gb_node {fsz fco ffu fsu fbb fmo fle : Int → Int} {n d : Nat} {x m a v w : Int} {K RF CF : Int → Int} (h : GB fsz fco ffu fsu fbb fmo fle n d x K RF CF) (hE : EN (fun k => 0 < wt fsz ffu fsu fbb fmo d k) m K) (hx : 0 ≤ x ∧ x < m) (hv : ∀ i, 0 ≤ i → i < m → vk (K i)) (ha : a = 11767 * (d : Int) + kat (K x)) (h1 : v = wf fsz ffu fsu fbb fmo fle (n - d) d (K x)) (h2 : w = sel (0 < wf fsz ffu fsu fbb fmo fle (n - d) d (K x)) (cf fsz fco ffu fsu fbb fmo fle (n - d) d (K x)) 900000) : GB fsz fco ffu fsu fbb fmo fle n d (x + 1) K (uZ RF a v) (uZ CF a w) := by
  have hk := (kat_r (hv x hx.1 hx.2)).1
  refine ⟨fun e b c k k1 k2 => ?_, fun i i1 i2 => ?_, fun j j1 j2 j3 => ?_⟩
  · have := h.1 e b c k k1 k2
    have hr := (kat_r k1).1
    unfold FB at this ⊢
    rw [uZ_n (by omega), uZ_n (by omega)]; exact this
  · by_cases q : i = x
    · subst q; unfold FB; rw [← ha, uZ_s, uZ_s]; exact ⟨h1, h2⟩
    · have := h.2.1 i i1 (by omega)
      have hl := kat_lt (hv i i1 (by omega)) (hv x hx.1 hx.2) (hE.2.1 i x i1 (by omega) hx.2)
      unfold FB at this ⊢
      rw [uZ_n (by omega), uZ_n (by omega)]; exact this
  · have := j3 x hx.1 (by omega)
    rw [uZ_n (by omega), uZ_n (by omega)]
    exact h.2.2 j j1 j2 (fun i i1 i2 => j3 i i1 (by omega))
noncomputable def bsw (ffu fsu fbb fmo fsz fle : Int → Int) (n d : Nat) (k : Int) (y : Nat) : Int := sumR (fun c => if kn fbb ffu fsu fmo ((d : Int) * 6 + c) c k = -1 then 0 else wf fsz ffu fsu fbb fmo fle (n - (d + 1)) (d + 1) (kn fbb ffu fsu fmo ((d : Int) * 6 + c) c k)) 0 y
noncomputable def bcw (ffu fsu fbb fmo fsz fco fle : Int → Int) (n d : Nat) (k : Int) (y : Nat) : Int := minR (fun c => ¬ kn fbb ffu fsu fmo ((d : Int) * 6 + c) c k = -1 ∧ 0 < wf fsz ffu fsu fbb fmo fle (n - (d + 1)) (d + 1) (kn fbb ffu fsu fmo ((d : Int) * 6 + c) c k)) (fun c => cf fsz fco ffu fsu fbb fmo fle (n - (d + 1)) (d + 1) (kn fbb ffu fsu fmo ((d : Int) * 6 + c) c k) + fco ((d : Int) * 6 + c)) 0 y
theorem bs_no {ffu fsu fbb fmo fsz fco fle : Int → Int} {n d : Nat} {k y : Int} (hy : 0 ≤ y) (h : kn fbb ffu fsu fmo ((d : Int) * 6 + y) y k = -1 ∨ wf fsz ffu fsu fbb fmo fle (n - (d + 1)) (d + 1) (kn fbb ffu fsu fmo ((d : Int) * 6 + y) y k) = 0) : bsw ffu fsu fbb fmo fsz fle n d k (y + 1).toNat = bsw ffu fsu fbb fmo fsz fle n d k y.toNat ∧ bcw ffu fsu fbb fmo fsz fco fle n d k (y + 1).toNat = bcw ffu fsu fbb fmo fsz fco fle n d k y.toNat := by
  rw [show (y + 1).toNat = y.toNat + 1 by omega]
  have e : 0 + ((y.toNat : Nat) : Int) = y := by omega
  constructor
  · show sumR _ 0 y.toNat + (if kn fbb ffu fsu fmo ((d : Int) * 6 + (0 + (y.toNat : Int))) (0 + (y.toNat : Int)) k = -1 then 0 else wf fsz ffu fsu fbb fmo fle (n - (d + 1)) (d + 1) (kn fbb ffu fsu fmo ((d : Int) * 6 + (0 + (y.toNat : Int))) (0 + (y.toNat : Int)) k)) = _
    rw [e]
    by_cases q : kn fbb ffu fsu fmo ((d : Int) * 6 + y) y k = -1
    · rw [if_pos q, Int.add_zero]; rfl
    · rw [if_neg q, h.resolve_left q, Int.add_zero]; rfl
  · refine minR_no ?_
    rw [e]
    rintro ⟨q1, q2⟩
    have := h.resolve_left q1
    omega
theorem bs_yes {ffu fsu fbb fmo fsz fco fle : Int → Int} {n d : Nat} {k y : Int} (hy : 0 ≤ y) (h : ¬ kn fbb ffu fsu fmo ((d : Int) * 6 + y) y k = -1) (hw : 0 < wf fsz ffu fsu fbb fmo fle (n - (d + 1)) (d + 1) (kn fbb ffu fsu fmo ((d : Int) * 6 + y) y k)) : bsw ffu fsu fbb fmo fsz fle n d k (y + 1).toNat = bsw ffu fsu fbb fmo fsz fle n d k y.toNat + wf fsz ffu fsu fbb fmo fle (n - (d + 1)) (d + 1) (kn fbb ffu fsu fmo ((d : Int) * 6 + y) y k) ∧ bcw ffu fsu fbb fmo fsz fco fle n d k (y + 1).toNat = min (bcw ffu fsu fbb fmo fsz fco fle n d k y.toNat) (cf fsz fco ffu fsu fbb fmo fle (n - (d + 1)) (d + 1) (kn fbb ffu fsu fmo ((d : Int) * 6 + y) y k) + fco ((d : Int) * 6 + y)) := by
  rw [show (y + 1).toNat = y.toNat + 1 by omega]
  have e : 0 + ((y.toNat : Nat) : Int) = y := by omega
  constructor
  · show sumR _ 0 y.toNat + (if kn fbb ffu fsu fmo ((d : Int) * 6 + (0 + (y.toNat : Int))) (0 + (y.toNat : Int)) k = -1 then 0 else wf fsz ffu fsu fbb fmo fle (n - (d + 1)) (d + 1) (kn fbb ffu fsu fmo ((d : Int) * 6 + (0 + (y.toNat : Int))) (0 + (y.toNat : Int)) k)) = _
    rw [e, if_neg h]; rfl
  · unfold bcw
    rw [minR_yes (by rw [e]; exact ⟨h, hw⟩), e]
theorem minR_900 {P : Int → Prop} {v : Int → Int} {s : Int} : ∀ n : Nat, minR P v s n ≤ 900000
  | 0 => Int.le_refl _
  | n + 1 => by
    have ih := minR_900 (P := P) (v := v) (s := s) n
    by_cases q : P (s + (n : Int))
    · rw [minR_yes q]; omega
    · rw [minR_no q]; exact ih
theorem bcw_r {fsz fco ffu fsu fbb fmo fle : Int → Int} (hT : TB fsz fco ffu fsu fbb fmo) {n d : Nat} {k : Int} {y : Nat} (hn : n ≤ 12) (hd : d < n) (hy : (y : Int) ≤ fsz (d : Int)) : -100000 ≤ bcw ffu fsu fbb fmo fsz fco fle n d k y ∧ bcw ffu fsu fbb fmo fsz fco fle n d k y ≤ 900000 := by
  refine ⟨minR_ge (by omega) y (fun c a b q => ?_), minR_900 y⟩
  have hsz := hT.1 (d : Int) (by omega) (by omega)
  have h1 := cf_rng hT (n - (d + 1)) (d + 1) _ (by omega) q.2
  have h2 := hT.2.1 ((d : Int) * 6 + c) (by omega) (by omega)
  show -100000 ≤ cf fsz fco ffu fsu fbb fmo fle (n - (d + 1)) (d + 1) (kn fbb ffu fsu fmo ((d : Int) * 6 + c) c k) + fco ((d : Int) * 6 + c)
  omega
theorem bs_fin {fsz fco ffu fsu fbb fmo fle : Int → Int} {n d : Nat} {k y v w : Int} (hd : d < n) (hy : y = fsz (d : Int)) (h1 : v = bsw ffu fsu fbb fmo fsz fle n d k y.toNat) (h2 : w = bcw ffu fsu fbb fmo fsz fco fle n d k y.toNat) : v = wf fsz ffu fsu fbb fmo fle (n - d) d k ∧ w = sel (0 < wf fsz ffu fsu fbb fmo fle (n - d) d k) (cf fsz fco ffu fsu fbb fmo fle (n - d) d k) 900000 := by
  have e : n - d = (n - (d + 1)) + 1 := by omega
  subst hy
  have e1 : bsw ffu fsu fbb fmo fsz fle n d k (fsz (d : Int)).toNat = wf fsz ffu fsu fbb fmo fle (n - d) d k := by rw [e]; rfl
  refine ⟨h1.trans e1, ?_⟩
  by_cases q : 0 < wf fsz ffu fsu fbb fmo fle (n - d) d k
  · rw [sel_t q, h2, e]; rfl
  · rw [sel_f q, h2]
    refine minR_zero _ (fun c a b z => ?_)
    have hnn : ∀ i, 0 ≤ (if kn fbb ffu fsu fmo ((d : Int) * 6 + i) i k = -1 then 0 else wf fsz ffu fsu fbb fmo fle (n - (d + 1)) (d + 1) (kn fbb ffu fsu fmo ((d : Int) * 6 + i) i k)) := fun i => by
      split
      · exact Int.le_refl 0
      · exact wf_nn _ _ _
    have ht := sumR_term hnn (fsz (d : Int)).toNat c a b
    rw [if_neg z.1] at ht
    have hs : sumR (fun c => if kn fbb ffu fsu fmo ((d : Int) * 6 + c) c k = -1 then 0 else wf fsz ffu fsu fbb fmo fle (n - (d + 1)) (d + 1) (kn fbb ffu fsu fmo ((d : Int) * 6 + c) c k)) 0 (fsz (d : Int)).toNat = wf fsz ffu fsu fbb fmo fle (n - d) d k := e1
    have hz := z.2
    omega
theorem nx_cases {fbb ffu fsu fmo : Int → Int} {d cp k : Int} : (kn fbb ffu fsu fmo (d * 6 + cp) cp k = -1 ∧ nxt fbb ffu fsu fmo d cp k = -1000000) ∨ (¬ kn fbb ffu fsu fmo (d * 6 + cp) cp k = -1 ∧ nxt fbb ffu fsu fmo d cp k = 11767 * (d + 1) + kat (kn fbb ffu fsu fmo (d * 6 + cp) cp k)) := by
  by_cases q : kn fbb ffu fsu fmo (d * 6 + cp) cp k = -1
  · exact Or.inl ⟨q, by unfold nxt; exact sel_t q⟩
  · exact Or.inr ⟨q, by unfold nxt; exact sel_f q⟩
theorem wt_00 {fsz ffu fsu fbb fmo : Int → Int} {k : Int} (h : 0 < wt fsz ffu fsu fbb fmo 0 k) : k % 8 = 0 := by
  by_cases q : k = 0
  · subst q; rfl
  · have h2 : 0 < (if k = 0 then (1 : Int) else 0) := h
    rw [if_neg q] at h2; omega
theorem wf_end1 {fsz ffu fsu fbb fmo fle : Int → Int} {n d : Nat} {k : Int} (hd : d = n) (h1 : fle 0 ≤ k / 512) (h2 : fle 1 ≤ k / 8 % 64) : 1 = wf fsz ffu fsu fbb fmo fle (n - d) d k := by
  rw [show n - d = 0 by omega]; exact (if_pos ⟨h1, h2⟩).symm
theorem wf_end0 {fsz ffu fsu fbb fmo fle : Int → Int} {n d : Nat} {k : Int} (hd : d = n) (h1 : ¬ (fle 0 ≤ k / 512 ∧ fle 1 ≤ k / 8 % 64)) : 0 = wf fsz ffu fsu fbb fmo fle (n - d) d k := by
  rw [show n - d = 0 by omega]; exact (if_neg h1).symm
theorem wf_sel1 {fsz fco ffu fsu fbb fmo fle : Int → Int} {n d : Nat} {k : Int} (hd : d = n) (h1 : fle 0 ≤ k / 512) (h2 : fle 1 ≤ k / 8 % 64) : 0 = sel (0 < wf fsz ffu fsu fbb fmo fle (n - d) d k) (cf fsz fco ffu fsu fbb fmo fle (n - d) d k) 900000 := by
  rw [← wf_end1 hd h1 h2, sel_t (by omega), show n - d = 0 by omega]; rfl
theorem wf_sel0 {fsz fco ffu fsu fbb fmo fle : Int → Int} {n d : Nat} {k : Int} (hd : d = n) (h1 : ¬ (fle 0 ≤ k / 512 ∧ fle 1 ≤ k / 8 % 64)) : 900000 = sel (0 < wf fsz ffu fsu fbb fmo fle (n - d) d k) (cf fsz fco ffu fsu fbb fmo fle (n - d) d k) 900000 := by
  rw [← wf_end0 hd h1, sel_f (by omega)]
theorem bs_z {ffu fsu fbb fmo fsz fle : Int → Int} {n d : Nat} {k : Int} : bsw ffu fsu fbb fmo fsz fle n d k (0 : Int).toNat = 0 := rfl
theorem bc_z {ffu fsu fbb fmo fsz fco fle : Int → Int} {n d : Nat} {k : Int} : bcw ffu fsu fbb fmo fsz fco fle n d k (0 : Int).toNat = 900000 := rfl
