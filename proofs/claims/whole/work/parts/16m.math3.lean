/-! THE LAYERS, as numbers: keys, ways, costs -/
def vk (k : Int) : Prop := 0 ≤ k ∧ k / 512 ≤ 40 ∧ k / 8 % 64 ≤ 40 ∧ k % 8 ≤ 6
/-- what is told lies within its bounds -/
def TB (fsz fco ffu fsu fbb fmo : Int → Int) : Prop := (∀ j, 0 ≤ j → j < 12 → 0 ≤ fsz j ∧ fsz j ≤ 6) ∧ (∀ j, 0 ≤ j → j < 72 → -1000 ≤ fco j ∧ fco j ≤ 1000) ∧ (∀ j, 0 ≤ j → j < 72 → (0 ≤ ffu j ∧ ffu j ≤ 20) ∧ (0 ≤ fsu j ∧ fsu j ≤ 20) ∧ 0 ≤ fbb j ∧ fbb j < 64) ∧ (∀ j, 0 ≤ j → j < 2 → 0 ≤ fmo j ∧ fmo j ≤ 40)
theorem kn_dec {fbb ffu fsu fmo : Int → Int} {pl c k : Int} (h : ¬ kn fbb ffu fsu fmo pl c k = -1) : kop fbb ffu fsu fmo pl k := Classical.byContradiction fun q => h (kn_shut q)
theorem kn_val {fbb ffu fsu fmo : Int → Int} {pl c k : Int} (hk : 0 ≤ k) (h : ¬ kn fbb ffu fsu fmo pl c k = -1) : kn fbb ffu fsu fmo pl c k = 8 * (k / 8) + (ffu pl * 512 + fsu pl * 8 + (c + 1)) := by
  rw [kn_open (kn_dec h)]
  omega
theorem kn_vk {fsz fco ffu fsu fbb fmo : Int → Int} (hT : TB fsz fco ffu fsu fbb fmo) {pl c k : Int} (h0 : 0 ≤ pl) (h1 : pl < 72) (hc0 : 0 ≤ c) (hc : c < 6) (hk : vk k) (h : ¬ kn fbb ffu fsu fmo pl c k = -1) : vk (kn fbb ffu fsu fmo pl c k) ∧ kn fbb ffu fsu fmo pl c k % 8 = c + 1 ∧ 1 ≤ kn fbb ffu fsu fmo pl c k := by
  have h2 := kn_dec h
  have h3 := hT.2.2.1 pl h0 h1
  have h4 := hT.2.2.2 0 (by omega) (by omega)
  have h5 := hT.2.2.2 1 (by omega) (by omega)
  obtain ⟨-, h6, h7⟩ := h2
  rw [kn_open (kn_dec h)]
  unfold vk at hk ⊢
  omega
theorem kn_mono {fbb ffu fsu fmo : Int → Int} {pl c k1 k2 : Int} (h0 : 0 ≤ k1) (h : k1 ≤ k2) (q1 : ¬ kn fbb ffu fsu fmo pl c k1 = -1) (q2 : ¬ kn fbb ffu fsu fmo pl c k2 = -1) : kn fbb ffu fsu fmo pl c k1 ≤ kn fbb ffu fsu fmo pl c k2 := by
  rw [kn_val h0 q1, kn_val (by omega) q2]
  omega
/-- rows to a node of layer d -/
noncomputable def wt (fsz ffu fsu fbb fmo : Int → Int) : Nat → Int → Int
  | 0, k => if k = 0 then 1 else 0
  | d + 1, k => sumR (fun j => if (0 ≤ k % 8 - 1 ∧ k % 8 - 1 < fsz (d : Int)) ∧ kn fbb ffu fsu fmo ((d : Int) * 6 + (k % 8 - 1)) (k % 8 - 1) j = k then wt fsz ffu fsu fbb fmo d j else 0) 0 32768
noncomputable def ct (fsz fco ffu fsu fbb fmo : Int → Int) : Nat → Int → Int
  | 0, _ => 0
  | d + 1, k => minR (fun j => 0 < wt fsz ffu fsu fbb fmo d j ∧ kn fbb ffu fsu fmo ((d : Int) * 6 + (k % 8 - 1)) (k % 8 - 1) j = k) (fun j => ct fsz fco ffu fsu fbb fmo d j + fco ((d : Int) * 6 + (k % 8 - 1))) 0 32768
noncomputable def cn (fsz ffu fsu fbb fmo : Int → Int) (d : Nat) : Int := sumR (fun k => if 0 < wt fsz ffu fsu fbb fmo d k then 1 else 0) 0 32768
theorem sumR_nn {g : Int → Int} {s : Int} (h : ∀ i, 0 ≤ g i) : ∀ n, 0 ≤ sumR g s n
  | 0 => Int.le_refl 0
  | n + 1 => Int.add_nonneg (sumR_nn h n) (h _)
theorem wt_nn {fsz ffu fsu fbb fmo : Int → Int} : ∀ (d : Nat) (k : Int), 0 ≤ wt fsz ffu fsu fbb fmo d k
  | 0, k => by
    show 0 ≤ (if k = 0 then (1 : Int) else 0)
    split <;> omega
  | d + 1, k => by
    refine sumR_nn (fun i => ?_) _
    split
    · exact wt_nn d i
    · exact Int.le_refl 0
theorem sumR_pos {g : Int → Int} {s : Int} (h : ∀ i, 0 ≤ g i) : ∀ n, 0 < sumR g s n → ∃ i, s ≤ i ∧ i < s + (n : Int) ∧ 0 < g i
  | 0, q => absurd q (Int.lt_irrefl 0)
  | n + 1, q => by
    by_cases r : 0 < g (s + (n : Int))
    · exact ⟨s + (n : Int), by omega, by omega, r⟩
    · have r2 := h (s + (n : Int))
      have r3 : g (s + (n : Int)) = 0 := by omega
      have q2 : 0 < sumR g s n + g (s + (n : Int)) := q
      rw [r3, Int.add_zero] at q2
      obtain ⟨i, a, b, c⟩ := sumR_pos h n q2
      exact ⟨i, a, by omega, c⟩
/-- a key of the next layer comes from one of this -/
theorem wt_from {fsz ffu fsu fbb fmo : Int → Int} {d : Nat} {k : Int} (h : 0 < wt fsz ffu fsu fbb fmo (d + 1) k) : ∃ j, (0 ≤ j ∧ j < 32768) ∧ 0 < wt fsz ffu fsu fbb fmo d j ∧ (0 ≤ k % 8 - 1 ∧ k % 8 - 1 < fsz (d : Int)) ∧ kn fbb ffu fsu fmo ((d : Int) * 6 + (k % 8 - 1)) (k % 8 - 1) j = k := by
  obtain ⟨j, h1, h2, h3⟩ := sumR_pos (fun i => by
    show 0 ≤ (if (0 ≤ k % 8 - 1 ∧ k % 8 - 1 < fsz (d : Int)) ∧ kn fbb ffu fsu fmo ((d : Int) * 6 + (k % 8 - 1)) (k % 8 - 1) i = k then wt fsz ffu fsu fbb fmo d i else 0)
    split
    · exact wt_nn d i
    · exact Int.le_refl 0) _ h
  by_cases q : (0 ≤ k % 8 - 1 ∧ k % 8 - 1 < fsz (d : Int)) ∧ kn fbb ffu fsu fmo ((d : Int) * 6 + (k % 8 - 1)) (k % 8 - 1) j = k
  · rw [if_pos q] at h3
    exact ⟨j, ⟨by omega, by omega⟩, h3, q.1, q.2⟩
  · rw [if_neg q] at h3
    exact absurd h3 (Int.lt_irrefl 0)
theorem wt_vk {fsz fco ffu fsu fbb fmo : Int → Int} (hT : TB fsz fco ffu fsu fbb fmo) : ∀ (d : Nat) (k : Int), d ≤ 12 → 0 < wt fsz ffu fsu fbb fmo d k → vk k := by
  intro d
  induction d with
  | zero =>
    intro k _ h
    unfold wt at h
    by_cases q : k = 0
    · subst q; unfold vk; omega
    · rw [if_neg q] at h; omega
  | succ d ih =>
    intro k hd h
    obtain ⟨j, h1, h2, h3, h4⟩ := wt_from h
    have hj := ih j (by omega) h2
    have hs := hT.1 (d : Int) (by omega) (by omega)
    have hne : ¬ kn fbb ffu fsu fmo ((d : Int) * 6 + (k % 8 - 1)) (k % 8 - 1) j = -1 := by rw [h4]; omega
    have h5 := kn_vk hT (c := k % 8 - 1) (pl := (d : Int) * 6 + (k % 8 - 1)) (by omega) (by omega) (by omega) (by omega) hj hne
    rw [h4] at h5
    exact h5.1
/-- over the nodes, in the order of their keys, and over all keys -/
theorem sum_keys {g gk : Int → Int} {s : Int} : ∀ (n K : Nat), (∀ i j, s ≤ i → i < j → j < s + (n : Int) → gk i < gk j) → (∀ i, s ≤ i → i < s + (n : Int) → 0 ≤ gk i ∧ gk i < (K : Int)) → (∀ k, 0 ≤ k → k < (K : Int) → ¬ g k = 0 → ∃ i, s ≤ i ∧ i < s + (n : Int) ∧ gk i = k) → sumR (fun i => g (gk i)) s n = sumR g 0 K
  | 0, K, _, _, h3 => by
    have := sumR_gap (g := g) (s := 0) (n := 0) K (fun i a b => Classical.byContradiction fun q => by
      obtain ⟨z, z1, z2, -⟩ := h3 i (by omega) (by omega) q
      omega)
    rw [Nat.zero_add] at this
    rw [this]
    rfl
  | n + 1, K, h1, h2, h3 => by
    obtain ⟨a1, a2⟩ := h2 (s + (n : Int)) (by omega) (by omega)
    obtain ⟨m, hm⟩ : ∃ m : Nat, gk (s + (n : Int)) = (m : Int) := ⟨(gk (s + (n : Int))).toNat, by omega⟩
    obtain ⟨t, ht⟩ : ∃ t : Nat, K = (m + 1) + t := ⟨K - (m + 1), by omega⟩
    have e1 : sumR g 0 K = sumR g 0 (m + 1) := by
      rw [ht]
      refine sumR_gap t (fun i b1 b2 => Classical.byContradiction fun q => ?_)
      obtain ⟨z, z1, z2, z3⟩ := h3 i (by omega) (by omega) q
      by_cases r : z = s + (n : Int)
      · subst r; omega
      · have := h1 z (s + (n : Int)) z1 (by omega) (by omega); omega
    have ih := sum_keys (g := g) (gk := gk) (s := s) n m (fun i j b1 b2 b3 => h1 i j b1 b2 (by omega)) (fun i b1 b2 => ⟨(h2 i b1 (by omega)).1, by rw [← hm]; exact h1 i _ b1 (by omega) (by omega)⟩) (fun k b1 b2 b3 => by
      obtain ⟨z, z1, z2, z3⟩ := h3 k b1 (by omega) b3
      refine ⟨z, z1, ?_, z3⟩
      by_cases r : z = s + (n : Int)
      · subst r; omega
      · omega)
    rw [e1]
    show sumR (fun i => g (gk i)) s n + g (gk (s + (n : Int))) = sumR g 0 m + g (0 + (m : Int))
    rw [ih, hm, Int.zero_add]
theorem sum_keys_le {g gk : Int → Int} {s : Int} (hg : ∀ k, 0 ≤ g k) : ∀ (n K : Nat), (∀ i j, s ≤ i → i < j → j < s + (n : Int) → gk i < gk j) → (∀ i, s ≤ i → i < s + (n : Int) → 0 ≤ gk i ∧ gk i < (K : Int)) → sumR (fun i => g (gk i)) s n ≤ sumR g 0 K
  | 0, K, _, _ => sumR_nn hg K
  | n + 1, K, h1, h2 => by
    obtain ⟨a1, a2⟩ := h2 (s + (n : Int)) (by omega) (by omega)
    obtain ⟨m, hm⟩ : ∃ m : Nat, gk (s + (n : Int)) = (m : Int) := ⟨(gk (s + (n : Int))).toNat, by omega⟩
    have mono : ∀ t : Nat, sumR g 0 (m + 1) ≤ sumR g 0 (m + 1 + t) := by
      intro t
      induction t with
      | zero => exact Int.le_refl _
      | succ t ih => exact Int.le_trans ih (Int.le_add_of_nonneg_right (hg _))
    have e1 := mono (K - (m + 1))
    rw [show m + 1 + (K - (m + 1)) = K by omega] at e1
    have ih := sum_keys_le (g := g) (gk := gk) (s := s) hg n m (fun i j b1 b2 b3 => h1 i j b1 b2 (by omega)) (fun i b1 b2 => ⟨(h2 i b1 (by omega)).1, by rw [← hm]; exact h1 i _ b1 (by omega) (by omega)⟩)
    refine Int.le_trans ?_ e1
    show sumR (fun i => g (gk i)) s n + g (gk (s + (n : Int))) ≤ sumR g 0 m + g (0 + (m : Int))
    rw [hm, Int.zero_add]
    omega
theorem min_keys {P : Int → Prop} {v gk : Int → Int} {s : Int} : ∀ (n K : Nat), (∀ i j, s ≤ i → i < j → j < s + (n : Int) → gk i < gk j) → (∀ i, s ≤ i → i < s + (n : Int) → 0 ≤ gk i ∧ gk i < (K : Int)) → (∀ k, 0 ≤ k → k < (K : Int) → P k → ∃ i, s ≤ i ∧ i < s + (n : Int) ∧ gk i = k) → minR (fun i => P (gk i)) (fun i => v (gk i)) s n = minR P v 0 K
  | 0, K, _, _, h3 => by
    have := minR_gap (P := P) (v := v) (s := 0) (n := 0) K (fun i a b q => by
      obtain ⟨z, z1, z2, -⟩ := h3 i (by omega) (by omega) q
      omega)
    rw [Nat.zero_add] at this
    rw [this]
    rfl
  | n + 1, K, h1, h2, h3 => by
    obtain ⟨a1, a2⟩ := h2 (s + (n : Int)) (by omega) (by omega)
    obtain ⟨m, hm⟩ : ∃ m : Nat, gk (s + (n : Int)) = (m : Int) := ⟨(gk (s + (n : Int))).toNat, by omega⟩
    obtain ⟨t, ht⟩ : ∃ t : Nat, K = (m + 1) + t := ⟨K - (m + 1), by omega⟩
    have e1 : minR P v 0 K = minR P v 0 (m + 1) := by
      rw [ht]
      refine minR_gap t (fun i b1 b2 q => ?_)
      obtain ⟨z, z1, z2, z3⟩ := h3 i (by omega) (by omega) q
      by_cases r : z = s + (n : Int)
      · subst r; omega
      · have := h1 z (s + (n : Int)) z1 (by omega) (by omega); omega
    have ih := min_keys (P := P) (v := v) (gk := gk) (s := s) n m (fun i j b1 b2 b3 => h1 i j b1 b2 (by omega)) (fun i b1 b2 => ⟨(h2 i b1 (by omega)).1, by rw [← hm]; exact h1 i _ b1 (by omega) (by omega)⟩) (fun k b1 b2 b3 => by
      obtain ⟨z, z1, z2, z3⟩ := h3 k b1 (by omega) b3
      refine ⟨z, z1, ?_, z3⟩
      by_cases r : z = s + (n : Int)
      · subst r; omega
      · omega)
    rw [e1]
    by_cases q : P (gk (s + (n : Int)))
    · rw [minR_yes (P := fun i => P (gk i)) q, ih, minR_yes (P := P) (by rw [Int.zero_add, ← hm]; exact q), hm, Int.zero_add]
    · rw [minR_no (P := fun i => P (gk i)) q, ih, minR_no (P := P) (by rw [Int.zero_add, ← hm]; exact q)]
theorem sumR_split {g : Int → Int} {s : Int} {n : Nat} : ∀ m : Nat, sumR g s (n + m) = sumR g s n + sumR g (s + (n : Int)) m
  | 0 => (Int.add_zero _).symm
  | m + 1 => by
    show sumR g s (n + m) + g (s + ((n + m : Nat) : Int)) = sumR g s n + (sumR g (s + (n : Int)) m + g (s + (n : Int) + (m : Int)))
    rw [sumR_split m, show s + ((n + m : Nat) : Int) = s + (n : Int) + (m : Int) by omega, Int.add_assoc]
theorem sumR_congr {g h : Int → Int} {s : Int} : ∀ n : Nat, (∀ i, s ≤ i → i < s + (n : Int) → g i = h i) → sumR g s n = sumR h s n
  | 0, _ => rfl
  | n + 1, q => by
    show sumR g s n + _ = sumR h s n + _
    rw [sumR_congr n (fun i a b => q i a (by omega)), q _ (by omega) (by omega)]
theorem minR_congr {P P' : Int → Prop} {v v' : Int → Int} {s : Int} : ∀ n : Nat, (∀ i, s ≤ i → i < s + (n : Int) → (P i ↔ P' i) ∧ (P i → v i = v' i)) → minR P v s n = minR P' v' s n
  | 0, _ => rfl
  | n + 1, q => by
    obtain ⟨a, b⟩ := q (s + (n : Int)) (by omega) (by omega)
    have ih := minR_congr n (fun i h1 h2 => q i h1 (by omega))
    by_cases r : P (s + (n : Int))
    · rw [minR_yes r, minR_yes (a.mp r), ih, b r]
    · rw [minR_no r, minR_no (fun z => r (a.mpr z)), ih]
theorem minR_zero {P : Int → Prop} {v : Int → Int} {s : Int} : ∀ n : Nat, (∀ i, s ≤ i → i < s + (n : Int) → ¬ P i) → minR P v s n = 900000
  | 0, _ => rfl
  | n + 1, q => by
    rw [minR_no (q _ (by omega) (by omega))]
    exact minR_zero n (fun i a b => q i a (by omega))
theorem minR_split {P : Int → Prop} {v : Int → Int} {s : Int} {n : Nat} (h : ∀ i, s ≤ i → i < s + (n : Int) → ¬ P i) : ∀ m : Nat, minR P v s (n + m) = minR P v (s + (n : Int)) m
  | 0 => minR_zero n h
  | m + 1 => by
    have e : s + ((n + m : Nat) : Int) = s + (n : Int) + (m : Int) := by omega
    by_cases r : P (s + (n : Int) + (m : Int))
    · rw [show n + (m + 1) = (n + m) + 1 by omega, minR_yes (by rw [e]; exact r), minR_yes r, minR_split h m, e]
    · rw [show n + (m + 1) = (n + m) + 1 by omega, minR_no (by rw [e]; exact r), minR_no r, minR_split h m]
theorem minR_le {P : Int → Prop} {v : Int → Int} {s : Int} : ∀ n : Nat, ∀ i, s ≤ i → i < s + (n : Int) → P i → minR P v s n ≤ v i
  | 0, i, a, b, _ => by omega
  | n + 1, i, a, b, q => by
    by_cases r : i = s + (n : Int)
    · subst r; rw [minR_yes q]; omega
    · have ih := minR_le (P := P) (v := v) n i a (by omega) q
      by_cases z : P (s + (n : Int))
      · rw [minR_yes z]; omega
      · rw [minR_no z]; exact ih
theorem minR_ge {P : Int → Prop} {v : Int → Int} {s lo : Int} (h0 : lo ≤ 900000) : ∀ n : Nat, (∀ i, s ≤ i → i < s + (n : Int) → P i → lo ≤ v i) → lo ≤ minR P v s n
  | 0, _ => h0
  | n + 1, q => by
    have ih := minR_ge (P := P) (v := v) h0 n (fun i a b => q i a (by omega))
    by_cases z : P (s + (n : Int))
    · rw [minR_yes z]; have := q _ (by omega) (by omega) z; omega
    · rw [minR_no z]; exact ih
