/-! THE MODEL'S RUN -/
noncomputable def tp (fsz ffu fsu fbb fmo : Int → Int) : Nat → Int
  | 0 => 0
  | d + 1 => tot fsz ffu fsu fbb fmo d
theorem tp_s {fsz ffu fsu fbb fmo : Int → Int} : ∀ d : Nat, tp fsz ffu fsu fbb fmo (d + 1) = tp fsz ffu fsu fbb fmo d + cn fsz ffu fsu fbb fmo d
  | 0 => (Int.zero_add _).symm
  | _ + 1 => rfl
theorem tp_b {fsz ffu fsu fbb fmo : Int → Int} (d : Nat) (h : ∀ i : Nat, i < d → cn fsz ffu fsu fbb fmo i ≤ 400) : 0 ≤ tp fsz ffu fsu fbb fmo d ∧ tp fsz ffu fsu fbb fmo d ≤ 400 * (d : Int) + 1 := by
  cases d with
  | zero => exact ⟨Int.le_refl _, by show (0 : Int) ≤ _; omega⟩
  | succ d => have := tot_b (fsz := fsz) (ffu := ffu) (fsu := fsu) (fbb := fbb) (fmo := fmo) d (fun i hi => h i (by omega)); exact ⟨this.1, by show tot fsz ffu fsu fbb fmo d ≤ _; omega⟩
theorem me_keep {fsz ffu fsu fbb fmo : Int → Int} {e : Nat} {m z : Int} {na no na' no' : Int → Int} (h : ME fsz ffu fsu fbb fmo e m na no) (hz : (e : Int) < z) (h1 : ∀ j, j < 400 * z → na' j = na j) (h2 : ∀ j, j < 11767 * z → no' j = no j) : ME fsz ffu fsu fbb fmo e m na' no' := by
  obtain ⟨a, b, c⟩ := h
  have hn : ∀ i, i < m → na' (400 * (e : Int) + i) = na (400 * (e : Int) + i) := fun i hi => h1 _ (by omega)
  refine ⟨a, ⟨b.1, fun i j i1 i2 i3 => ?_, fun E => ?_⟩, fun i i1 i2 => ?_⟩
  · show kk (na' (400 * (e : Int) + i) - _) < kk (na' (400 * (e : Int) + j) - _)
    rw [hn i (by omega), hn j i3]; exact b.2.1 i j i1 i2 i3
  · rw [← b.2.2 E]
    constructor
    · rintro ⟨i, i1, i2, i3⟩
      refine ⟨i, i1, i2, ?_⟩
      rw [← i3]
      show kk (na _ - _) = kk (na' _ - _)
      rw [hn i i2]
    · rintro ⟨i, i1, i2, i3⟩
      refine ⟨i, i1, i2, ?_⟩
      rw [← i3]
      show kk (na' _ - _) = kk (na _ - _)
      rw [hn i i2]
  · rw [hn i i2]
    have := c i i1 i2
    exact ⟨this.1, by rw [h2 _ (by omega)]; exact this.2⟩
theorem dl_keep {fsz fco ffu fsu fbb fmo : Int → Int} {e : Nat} {RT CT : Int → Int} {j v w : Int} (h : DL fsz fco ffu fsu fbb fmo e RT CT) (hj : 11767 * ((e : Int) + 1) ≤ j) : DL fsz fco ffu fsu fbb fmo e (uZ RT j v) (uZ CT j w) := by
  intro k hk
  have := (kat_r hk).1
  rw [uZ_n (by omega), uZ_n (by omega)]
  exact h k hk
theorem dl_rt {fsz fco ffu fsu fbb fmo : Int → Int} {d : Nat} {RT CT : Int → Int} (h : DL fsz fco ffu fsu fbb fmo d RT CT) : ∀ x, 0 ≤ x → x < 11767 → RT (11767 * (d : Int) + x) = wt fsz ffu fsu fbb fmo d (kk x) := fun x a b => by
  have hk := kk_r ⟨a, b⟩
  have := (h (kk x) hk.1).1
  rw [hk.2] at this
  exact this
theorem dl_0 {fsz fco ffu fsu fbb fmo : Int → Int} {RT CT : Int → Int} (h : ∀ j, 0 ≤ j → j < 11767 → RT j = 0) : DL fsz fco ffu fsu fbb fmo 0 (uZ RT 0 1) (uZ CT 0 0) := by
  intro k hk
  have hr := kat_r hk
  rw [show 11767 * ((0 : Nat) : Int) + kat k = kat k by omega]
  by_cases q : k = 0
  · subst q
    rw [show kat 0 = 0 from by decide, uZ_s, uZ_s]
    exact ⟨rfl, fun _ => rfl⟩
  · have hne : ¬ kat k = 0 := fun z => by
      have : k = 0 := by rw [← kk_k hk, z]; rfl
      exact q this
    rw [uZ_n hne, uZ_n hne, h _ hr.1.1 hr.1.2]
    have : wt fsz ffu fsu fbb fmo 0 k = 0 := if_neg q
    rw [this]
    exact ⟨rfl, fun z => by omega⟩
def PV (fsz fco ffu fsu fbb fmo : Int → Int) (d : Nat) (K : Int → Int) (x y : Int) (RT CT : Int → Int) : Prop := PU fsz fco ffu fsu fbb fmo d K x.toNat y RT CT
section PVS
variable {fsz fco ffu fsu fbb fmo K RT CT : Int → Int} {d : Nat} {x y : Int}
theorem pv_0 (h : ∀ j, 11767 * ((d : Int) + 1) ≤ j → j < 11767 * ((d : Int) + 2) → RT j = 0 ∧ CT j = 900000) : PV fsz fco ffu fsu fbb fmo d K 0 0 RT CT := pu_0 (fun x a b => h _ (by omega) (by omega))
theorem pv_e (hx : 0 ≤ x) (hy : y = fsz (d : Int)) (h : PV fsz fco ffu fsu fbb fmo d K x y RT CT) : PV fsz fco ffu fsu fbb fmo d K (x + 1) 0 RT CT := by
  unfold PV; rw [show (x + 1).toNat = x.toNat + 1 by omega]; exact pu_e hy h
theorem pv_n (hx : 0 ≤ x) (h : PV fsz fco ffu fsu fbb fmo d K x y RT CT) (hk : kn fbb ffu fsu fmo ((d : Int) * 6 + y) y (K x) = -1) : PV fsz fco ffu fsu fbb fmo d K x (y + 1) RT CT :=
  pu_n h (by rw [show ((x.toNat : Nat) : Int) = x by omega]; exact hk)
theorem pv_y (hT : TB fsz fco ffu fsu fbb fmo) (hd : d < 12) (hx : 0 ≤ x) {w v : Int} (h : PV fsz fco ffu fsu fbb fmo d K x y RT CT) (hy : 0 ≤ y ∧ y < fsz (d : Int)) (hK : vk (K x)) (h0 : 0 < wt fsz ffu fsu fbb fmo d (K x)) (hk : ¬ kn fbb ffu fsu fmo ((d : Int) * 6 + y) y (K x) = -1)
    (hw : w = RT (11767 * ((d : Int) + 1) + kat (kn fbb ffu fsu fmo ((d : Int) * 6 + y) y (K x))) + wt fsz ffu fsu fbb fmo d (K x))
    (hv : v = min (CT (11767 * ((d : Int) + 1) + kat (kn fbb ffu fsu fmo ((d : Int) * 6 + y) y (K x)))) (ct fsz fco ffu fsu fbb fmo d (K x) + fco ((d : Int) * 6 + y))) :
    PV fsz fco ffu fsu fbb fmo d K x (y + 1) (uZ RT (11767 * ((d : Int) + 1) + kat (kn fbb ffu fsu fmo ((d : Int) * 6 + y) y (K x))) w) (uZ CT (11767 * ((d : Int) + 1) + kat (kn fbb ffu fsu fmo ((d : Int) * 6 + y) y (K x))) v) := by
  have e : ((x.toNat : Nat) : Int) = x := by omega
  have := pu_y hT hd (w := w) (v := v) h hy (by rw [e]; exact hK) (by rw [e]; exact h0) (by rw [e]; exact hk) (by rw [e]; exact hw) (by rw [e]; exact hv)
  rw [e] at this
  exact this
theorem pv_d (hT : TB fsz fco ffu fsu fbb fmo) (hd : d < 12) (hx : 0 ≤ x) (h : PV fsz fco ffu fsu fbb fmo d K x 0 RT CT) (hE : EN (fun k => 0 < wt fsz ffu fsu fbb fmo d k) x K) : DL fsz fco ffu fsu fbb fmo (d + 1) RT CT :=
  pu_d hT hd h (by rw [show ((x.toNat : Nat) : Int) = x by omega]; exact hE)
theorem pv_r (hT : TB fsz fco ffu fsu fbb fmo) (hd : d < 12) (h : PV fsz fco ffu fsu fbb fmo d K x y RT CT) (hy : 0 ≤ y ∧ y < fsz (d : Int)) {k : Int} (hk : vk k) (h8 : k % 8 = y + 1) : -100000 ≤ CT (11767 * ((d : Int) + 1) + kat k) ∧ CT (11767 * ((d : Int) + 1) + kat k) ≤ 900000 := by
  have := (h k hk).2 ⟨by omega, by omega⟩
  rw [this, sel_f (by omega)]
  refine ⟨minR_ge (by omega) _ (fun i _ _ q => ?_), minR_900 _⟩
  have hsz := hT.1 (d : Int) (by omega) (by omega)
  have h1 := ct_rng hT d (K i) (by omega) q.1
  have h2 := hT.2.1 ((d : Int) * 6 + (k % 8 - 1)) (by omega) (by omega)
  show -100000 ≤ ct fsz fco ffu fsu fbb fmo d (K i) + fco ((d : Int) * 6 + (k % 8 - 1))
  omega
end PVS
theorem rz_s {RT RF CT CF : Int → Int} {x : Int} (h : ∀ j, 0 ≤ j → j < x → RT j = 0 ∧ RF j = 0 ∧ CT j = 900000 ∧ CF j = 900000) : ∀ j, 0 ≤ j → j < x + 1 → uZ RT x 0 j = 0 ∧ uZ RF x 0 j = 0 ∧ uZ CT x 900000 j = 900000 ∧ uZ CF x 900000 j = 900000 := fun j a b => by
  by_cases q : j = x
  · subst q; rw [uZ_s, uZ_s, uZ_s, uZ_s]; exact ⟨rfl, rfl, rfl, rfl⟩
  · rw [uZ_n q, uZ_n q, uZ_n q, uZ_n q]; exact h j a (by omega)
theorem me_all {fsz ffu fsu fbb fmo : Int → Int} {d : Nat} {ND NA NO N1 A2 O2 : Int → Int} (h : ∀ e : Nat, e < d → ME fsz ffu fsu fbb fmo e (ND (e : Int)) NA NO) (hM : ME fsz ffu fsu fbb fmo d (N1 (d : Int)) A2 O2) (h1 : ∀ j, ¬ j = (d : Int) → N1 j = ND j) (h2 : ∀ j, j < 400 * (d : Int) → A2 j = NA j) (h3 : ∀ j, j < 11767 * (d : Int) → O2 j = NO j) : ∀ e : Nat, e < d + 1 → ME fsz ffu fsu fbb fmo e (N1 (e : Int)) A2 O2 := fun e a => by
  by_cases q : e = d
  · subst q; exact hM
  · rw [h1 _ (by omega)]; exact me_keep (h e (by omega)) (z := (d : Int)) (by omega) h2 h3
theorem dl_all {fsz fco ffu fsu fbb fmo : Int → Int} {d n : Nat} {R C : Int → Int} (h : ∀ e : Nat, e ≤ d → DL fsz fco ffu fsu fbb fmo e R C) (h1 : d < n → DL fsz fco ffu fsu fbb fmo (d + 1) R C) : ∀ e : Nat, e ≤ d + 1 → e ≤ n → DL fsz fco ffu fsu fbb fmo e R C := fun e a b => by
  by_cases q : e = d + 1
  · subst q; exact h1 (by omega)
  · exact h e (by omega)
