/-! THE MODEL'S RUN: rows and costs pushed ahead -/
/-- what the node i gives to the key k of the next layer -/
noncomputable def pg (fsz ffu fsu fbb fmo : Int → Int) (d : Nat) (K : Int → Int) (k i : Int) : Int := if (0 ≤ k % 8 - 1 ∧ k % 8 - 1 < fsz (d : Int)) ∧ kn fbb ffu fsu fmo ((d : Int) * 6 + (k % 8 - 1)) (k % 8 - 1) (K i) = k then wt fsz ffu fsu fbb fmo d (K i) else 0
def pP (fsz ffu fsu fbb fmo : Int → Int) (d : Nat) (K : Int → Int) (k i : Int) : Prop := 0 < wt fsz ffu fsu fbb fmo d (K i) ∧ kn fbb ffu fsu fmo ((d : Int) * 6 + (k % 8 - 1)) (k % 8 - 1) (K i) = k
noncomputable def pv_ (fsz fco ffu fsu fbb fmo : Int → Int) (d : Nat) (K : Int → Int) (k i : Int) : Int := ct fsz fco ffu fsu fbb fmo d (K i) + fco ((d : Int) * 6 + (k % 8 - 1))
/-- pushed: all of the nodes below x, of the node x the choices below y -/
def PU (fsz fco ffu fsu fbb fmo : Int → Int) (d : Nat) (K : Int → Int) (x : Nat) (y : Int) (RT CT : Int → Int) : Prop :=
  ∀ k, vk k → RT (11767 * ((d : Int) + 1) + kat k) = sumR (pg fsz ffu fsu fbb fmo d K k) 0 x + sel (k % 8 - 1 < y) (pg fsz ffu fsu fbb fmo d K k (x : Int)) 0 ∧
    (0 ≤ k % 8 - 1 ∧ k % 8 - 1 < fsz (d : Int) → CT (11767 * ((d : Int) + 1) + kat k) = sel (k % 8 - 1 < y) (minR (pP fsz ffu fsu fbb fmo d K k) (pv_ fsz fco ffu fsu fbb fmo d K k) 0 (x + 1)) (minR (pP fsz ffu fsu fbb fmo d K k) (pv_ fsz fco ffu fsu fbb fmo d K k) 0 x))
theorem pu_0 {fsz fco ffu fsu fbb fmo : Int → Int} {d : Nat} {K RT CT : Int → Int} (h : ∀ x, 0 ≤ x → x < 11767 → RT (11767 * ((d : Int) + 1) + x) = 0 ∧ CT (11767 * ((d : Int) + 1) + x) = 900000) : PU fsz fco ffu fsu fbb fmo d K 0 0 RT CT := by
  intro k hk
  have hr := (kat_r hk).1
  obtain ⟨h1, h2⟩ := h (kat k) hr.1 hr.2
  constructor
  · rw [h1]
    by_cases q : k % 8 - 1 < 0
    · rw [sel_t q]
      have : pg fsz ffu fsu fbb fmo d K k ((0 : Nat) : Int) = 0 := by unfold pg; apply if_neg; intro z; omega
      rw [this]; rfl
    · rw [sel_f q]; rfl
  · intro hc
    rw [h2, sel_f (by omega)]; rfl
theorem pu_e {fsz fco ffu fsu fbb fmo : Int → Int} {d : Nat} {K RT CT : Int → Int} {x : Nat} {y : Int} (hy : y = fsz (d : Int)) (h : PU fsz fco ffu fsu fbb fmo d K x y RT CT) : PU fsz fco ffu fsu fbb fmo d K (x + 1) 0 RT CT := by
  intro k hk
  obtain ⟨h1, h2⟩ := h k hk
  constructor
  · rw [h1]
    show _ = sumR (pg fsz ffu fsu fbb fmo d K k) 0 x + pg fsz ffu fsu fbb fmo d K k (0 + (x : Int)) + _
    rw [Int.zero_add]
    by_cases q : k % 8 - 1 < 0
    · rw [sel_t (show k % 8 - 1 < 0 from q)]
      have e : ∀ i, pg fsz ffu fsu fbb fmo d K k i = 0 := fun i => by unfold pg; apply if_neg; intro z; omega
      rw [e, e]
      by_cases z : k % 8 - 1 < y
      · rw [sel_t z]; omega
      · rw [sel_f z]; omega
    · rw [sel_f (show ¬ k % 8 - 1 < 0 from q)]
      by_cases z : k % 8 - 1 < y
      · rw [sel_t z]; omega
      · rw [sel_f z]
        have : pg fsz ffu fsu fbb fmo d K k (x : Int) = 0 := by unfold pg; apply if_neg; intro w; omega
        rw [this]; omega
  · intro hc
    rw [h2 hc, sel_t (by omega), sel_f (by omega)]
theorem pg_sh {fsz ffu fsu fbb fmo : Int → Int} {d : Nat} {K : Int → Int} {k i : Int} (h : ¬ kn fbb ffu fsu fmo ((d : Int) * 6 + (k % 8 - 1)) (k % 8 - 1) (K i) = k) : pg fsz ffu fsu fbb fmo d K k i = 0 := by
  unfold pg; exact if_neg (fun z => h z.2)
/-- nothing is pushed -/
theorem pu_n {fsz fco ffu fsu fbb fmo : Int → Int} {d : Nat} {K RT CT : Int → Int} {x : Nat} {y : Int} (h : PU fsz fco ffu fsu fbb fmo d K x y RT CT) (hk : kn fbb ffu fsu fmo ((d : Int) * 6 + y) y (K (x : Int)) = -1) : PU fsz fco ffu fsu fbb fmo d K x (y + 1) RT CT := by
  intro k hv
  obtain ⟨h1, h2⟩ := h k hv
  by_cases q : k % 8 - 1 = y
  · have hne : ¬ kn fbb ffu fsu fmo ((d : Int) * 6 + (k % 8 - 1)) (k % 8 - 1) (K (x : Int)) = k := by
      rw [q, hk]; have := hv.1; omega
    constructor
    · rw [h1, sel_f (by omega), sel_t (by omega), pg_sh hne]
    · intro hc
      rw [h2 hc, sel_f (by omega), sel_t (by omega), minR_no (fun z => hne (by rw [Int.zero_add] at z; exact z.2))]
  · constructor
    · rw [h1]
      by_cases z : k % 8 - 1 < y
      · rw [sel_t z, sel_t (by omega)]
      · rw [sel_f z, sel_f (by omega)]
    · intro hc
      rw [h2 hc]
      by_cases z : k % 8 - 1 < y
      · rw [sel_t z, sel_t (by omega)]
      · rw [sel_f z, sel_f (by omega)]
/-- the node x pushes by its choice y -/
theorem pu_y {fsz fco ffu fsu fbb fmo : Int → Int} (hT : TB fsz fco ffu fsu fbb fmo) {d : Nat} (hd : d < 12) {K RT CT : Int → Int} {x : Nat} {y w v : Int} (h : PU fsz fco ffu fsu fbb fmo d K x y RT CT) (hy : 0 ≤ y ∧ y < fsz (d : Int)) (hK : vk (K (x : Int))) (h0 : 0 < wt fsz ffu fsu fbb fmo d (K (x : Int))) (hk : ¬ kn fbb ffu fsu fmo ((d : Int) * 6 + y) y (K (x : Int)) = -1)
    (hw : w = RT (11767 * ((d : Int) + 1) + kat (kn fbb ffu fsu fmo ((d : Int) * 6 + y) y (K (x : Int)))) + wt fsz ffu fsu fbb fmo d (K (x : Int)))
    (hv : v = min (CT (11767 * ((d : Int) + 1) + kat (kn fbb ffu fsu fmo ((d : Int) * 6 + y) y (K (x : Int))))) (ct fsz fco ffu fsu fbb fmo d (K (x : Int)) + fco ((d : Int) * 6 + y))) :
    PU fsz fco ffu fsu fbb fmo d K x (y + 1) (uZ RT (11767 * ((d : Int) + 1) + kat (kn fbb ffu fsu fmo ((d : Int) * 6 + y) y (K (x : Int)))) w) (uZ CT (11767 * ((d : Int) + 1) + kat (kn fbb ffu fsu fmo ((d : Int) * 6 + y) y (K (x : Int)))) v) := by
  have hsz := hT.1 (d : Int) (by omega) (by omega)
  obtain ⟨v1, v2, v3⟩ := kn_vk hT (by omega) (by omega) hy.1 (by omega) hK hk
  intro k hv0
  obtain ⟨h1, h2⟩ := h k hv0
  by_cases q : k = kn fbb ffu fsu fmo ((d : Int) * 6 + y) y (K (x : Int))
  · have hc : k % 8 - 1 = y := by rw [q]; omega
    have hkn : kn fbb ffu fsu fmo ((d : Int) * 6 + (k % 8 - 1)) (k % 8 - 1) (K (x : Int)) = k := by rw [hc]; exact q.symm
    rw [← q, uZ_s, uZ_s]
    rw [← q] at hw hv
    constructor
    · rw [hw, h1, sel_f (by omega), sel_t (by omega)]
      have : pg fsz ffu fsu fbb fmo d K k (x : Int) = wt fsz ffu fsu fbb fmo d (K (x : Int)) := by unfold pg; exact if_pos ⟨by omega, hkn⟩
      rw [this]; omega
    · intro hz
      rw [hv, h2 hz, sel_f (by omega), sel_t (by omega), minR_yes (by rw [Int.zero_add]; exact ⟨h0, hkn⟩)]
      unfold pv_
      rw [Int.zero_add, hc]
  · have hne : ¬ kat k = kat (kn fbb ffu fsu fmo ((d : Int) * 6 + y) y (K (x : Int))) := fun z => q (by rw [← kk_k hv0, z, kk_k v1])
    rw [uZ_n (by omega), uZ_n (by omega)]
    by_cases e : k % 8 - 1 = y
    · have hn : ¬ kn fbb ffu fsu fmo ((d : Int) * 6 + (k % 8 - 1)) (k % 8 - 1) (K (x : Int)) = k := by
        rw [e]; exact fun z => q z.symm
      constructor
      · rw [h1, sel_f (by omega), sel_t (by omega), pg_sh hn]
      · intro hc
        rw [h2 hc, sel_f (by omega), sel_t (by omega), minR_no (fun z => hn (by rw [Int.zero_add] at z; exact z.2))]
    · constructor
      · rw [h1]
        by_cases z : k % 8 - 1 < y
        · rw [sel_t z, sel_t (by omega)]
        · rw [sel_f z, sel_f (by omega)]
      · intro hc
        rw [h2 hc]
        by_cases z : k % 8 - 1 < y
        · rw [sel_t z, sel_t (by omega)]
        · rw [sel_f z, sel_f (by omega)]
/-- a layer of the model: rows, costs -/
def DL (fsz fco ffu fsu fbb fmo : Int → Int) (d : Nat) (RT CT : Int → Int) : Prop := ∀ k, vk k → RT (11767 * (d : Int) + kat k) = wt fsz ffu fsu fbb fmo d k ∧ (0 < wt fsz ffu fsu fbb fmo d k → CT (11767 * (d : Int) + kat k) = ct fsz fco ffu fsu fbb fmo d k)
/-- all is pushed -/
theorem pu_d {fsz fco ffu fsu fbb fmo : Int → Int} (hT : TB fsz fco ffu fsu fbb fmo) {d : Nat} (hd : d < 12) {K RT CT : Int → Int} {x : Nat} (h : PU fsz fco ffu fsu fbb fmo d K x 0 RT CT) (hE : EN (fun k => 0 < wt fsz ffu fsu fbb fmo d k) (x : Int) K) : DL fsz fco ffu fsu fbb fmo (d + 1) RT CT := by
  have hv : ∀ i, 0 ≤ i → i < 0 + (x : Int) → 0 ≤ K i ∧ K i < ((32768 : Nat) : Int) := fun i a b => by
    have := wt_vk hT d _ (by omega) ((hE.2.2 (K i)).mp ⟨i, a, by omega, rfl⟩)
    unfold vk at this; omega
  intro k hk
  obtain ⟨h1, h2⟩ := h k hk
  rw [show 11767 * ((d + 1 : Nat) : Int) = 11767 * ((d : Int) + 1) by omega]
  constructor
  · rw [h1]
    have e := sum_keys (g := fun j => if (0 ≤ k % 8 - 1 ∧ k % 8 - 1 < fsz (d : Int)) ∧ kn fbb ffu fsu fmo ((d : Int) * 6 + (k % 8 - 1)) (k % 8 - 1) j = k then wt fsz ffu fsu fbb fmo d j else 0) (gk := K) (s := 0) x 32768 (fun i j a b c => hE.2.1 i j a b (by omega)) hv (fun j a b c => by
      have c : ¬ (if (0 ≤ k % 8 - 1 ∧ k % 8 - 1 < fsz (d : Int)) ∧ kn fbb ffu fsu fmo ((d : Int) * 6 + (k % 8 - 1)) (k % 8 - 1) j = k then wt fsz ffu fsu fbb fmo d j else 0) = 0 := c
      have hp : 0 < wt fsz ffu fsu fbb fmo d j := by
        by_cases z : (0 ≤ k % 8 - 1 ∧ k % 8 - 1 < fsz (d : Int)) ∧ kn fbb ffu fsu fmo ((d : Int) * 6 + (k % 8 - 1)) (k % 8 - 1) j = k
        · rw [if_pos z] at c; have := wt_nn (fsz := fsz) (ffu := ffu) (fsu := fsu) (fbb := fbb) (fmo := fmo) d j; omega
        · rw [if_neg z] at c; exact absurd rfl c
      obtain ⟨i, i1, i2, i3⟩ := (hE.2.2 j).mpr hp
      exact ⟨i, i1, by omega, i3⟩)
    have e2 : sel (k % 8 - 1 < 0) (pg fsz ffu fsu fbb fmo d K k (x : Int)) 0 = 0 := by
      by_cases q : k % 8 - 1 < 0
      · rw [sel_t q]; unfold pg; apply if_neg; intro z; omega
      · exact sel_f q
    rw [e2, Int.add_zero]
    exact e
  · intro hw
    obtain ⟨j, -, -, hc, -⟩ := wt_from hw
    rw [h2 hc, sel_f (by omega)]
    exact min_keys (P := fun j => 0 < wt fsz ffu fsu fbb fmo d j ∧ kn fbb ffu fsu fmo ((d : Int) * 6 + (k % 8 - 1)) (k % 8 - 1) j = k) (v := fun j => ct fsz fco ffu fsu fbb fmo d j + fco ((d : Int) * 6 + (k % 8 - 1))) (gk := K) (s := 0) x 32768 (fun i j a b c => hE.2.1 i j a b (by omega)) hv (fun j a b c => by
      obtain ⟨i, i1, i2, i3⟩ := (hE.2.2 j).mpr c.1
      exact ⟨i, i1, by omega, i3⟩)
