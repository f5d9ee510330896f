/-! ROWS THAT BEGIN PLANS, as numbers -/
/-- a row of d choices (three bits each, r), its end's key k, its cost g, that begins a plan -/
def PR (fsz fco ffu fsu fbb fmo fle : Int → Int) (n : Nat) : Nat → Int → Int → Int → Prop
  | 0, r, k, g => r = 0 ∧ k = 0 ∧ g = 0 ∧ 0 < wf fsz ffu fsu fbb fmo fle n 0 0
  | d + 1, r, k, g => ∃ c k0 g0 r0, PR fsz fco ffu fsu fbb fmo fle n d r0 k0 g0 ∧ (0 ≤ c ∧ c < fsz (d : Int)) ∧ kn fbb ffu fsu fmo ((d : Int) * 6 + c) c k0 = k ∧ ¬ k = -1 ∧ 0 < wf fsz ffu fsu fbb fmo fle (n - (d + 1)) (d + 1) k ∧ r = r0 + c * 8 ^ (11 - d) ∧ g = g0 + fco ((d : Int) * 6 + c)
theorem pw8 {d : Nat} (h : d < 12) : (8 : Int) ^ (12 - d) = 8 * 8 ^ (11 - d) := by
  rw [show 12 - d = (11 - d) + 1 by omega, Int.pow_succ, Int.mul_comm]
theorem pw8p (j : Nat) : (0 : Int) < 8 ^ j := Int.pow_pos (by omega)
theorem pr_r {fsz fco ffu fsu fbb fmo fle : Int → Int} (hT : TB fsz fco ffu fsu fbb fmo) {n : Nat} : ∀ (d : Nat) (r k g : Int), d ≤ 12 → PR fsz fco ffu fsu fbb fmo fle n d r k g → ∃ q, r = q * 8 ^ (12 - d) ∧ 0 ≤ q ∧ q < 8 ^ d := by
  intro d
  induction d with
  | zero => intro r k g _ h; exact ⟨0, by rw [h.1]; simp, by omega, by decide⟩
  | succ d ih =>
    intro r k g hd h
    obtain ⟨c, k0, g0, r0, h1, h2, h3, h4, h5, h6, h7⟩ := h
    obtain ⟨q, q1, q2, q3⟩ := ih r0 k0 g0 (by omega) h1
    have hsz := hT.1 (d : Int) (by omega) (by omega)
    refine ⟨8 * q + c, ?_, by omega, ?_⟩
    · rw [h6, q1, pw8 (by omega), show 12 - (d + 1) = 11 - d by omega, Int.add_mul]
      rw [← Int.mul_assoc, Int.mul_comm q 8]
    · rw [Int.pow_succ]; omega
theorem pr_rb {fsz fco ffu fsu fbb fmo fle : Int → Int} (hT : TB fsz fco ffu fsu fbb fmo) {n d : Nat} {r k g : Int} (hd : d ≤ 12) (h : PR fsz fco ffu fsu fbb fmo fle n d r k g) : 0 ≤ r ∧ r + 8 ^ (12 - d) ≤ 68719476736 := by
  obtain ⟨q, q1, q2, q3⟩ := pr_r hT d r k g hd h
  have hp := pw8p (12 - d)
  have e : (8 : Int) ^ d * 8 ^ (12 - d) = 68719476736 := by
    rw [← Int.pow_add, show d + (12 - d) = 12 by omega]; rfl
  have h2 : (q + 1) * 8 ^ (12 - d) ≤ 8 ^ d * 8 ^ (12 - d) := Int.mul_le_mul_of_nonneg_right (by omega) (by omega)
  rw [e, Int.add_mul, Int.one_mul, ← q1] at h2
  have h3 : 0 ≤ q * 8 ^ (12 - d) := Int.mul_nonneg q2 (by omega)
  exact ⟨by rw [q1]; exact h3, h2⟩
/-- the last choice, and what is before it, stand in r -/
theorem pr_split {M q1 q2 c1 c2 : Int} (hM : 0 < M) (h1 : 0 ≤ c1 ∧ c1 < 8) (h2 : 0 ≤ c2 ∧ c2 < 8) (h : q1 * (8 * M) + c1 * M = q2 * (8 * M) + c2 * M) : q1 = q2 ∧ c1 = c2 := by
  have h3 : (8 * q1 + c1) * M = (8 * q2 + c2) * M := by
    rw [Int.add_mul, Int.add_mul, Int.mul_comm 8 q1, Int.mul_comm 8 q2, Int.mul_assoc, Int.mul_assoc]; exact h
  have h4 := Int.eq_of_mul_eq_mul_right (by omega) h3
  omega
theorem pr_fun {fsz fco ffu fsu fbb fmo fle : Int → Int} (hT : TB fsz fco ffu fsu fbb fmo) {n : Nat} : ∀ (d : Nat) (r k g k' g' : Int), d ≤ 12 → PR fsz fco ffu fsu fbb fmo fle n d r k g → PR fsz fco ffu fsu fbb fmo fle n d r k' g' → k = k' ∧ g = g' := by
  intro d
  induction d with
  | zero => intro r k g k' g' _ h h'; exact ⟨h.2.1.trans h'.2.1.symm, h.2.2.1.trans h'.2.2.1.symm⟩
  | succ d ih =>
    intro r k g k' g' hd h h'
    obtain ⟨c, k0, g0, r0, h1, h2, h3, h4, h5, h6, h7⟩ := h
    obtain ⟨c', k0', g0', r0', h1', h2', h3', h4', h5', h6', h7'⟩ := h'
    have hsz := hT.1 (d : Int) (by omega) (by omega)
    obtain ⟨q, q1, q2, q3⟩ := pr_r hT d _ _ _ (by omega) h1
    obtain ⟨q', q1', q2', q3'⟩ := pr_r hT d _ _ _ (by omega) h1'
    rw [pw8 (by omega)] at q1 q1'
    have e := h6.symm.trans h6'
    rw [q1, q1'] at e
    obtain ⟨e1, e2⟩ := pr_split (pw8p (11 - d)) ⟨h2.1, by omega⟩ ⟨h2'.1, by omega⟩ e
    subst e1 e2
    rw [← q1'] at q1
    subst q1
    obtain ⟨e3, e4⟩ := ih r0 k0 g0 k0' g0' (by omega) h1 h1'
    subst e3 e4
    exact ⟨h3.symm.trans h3', h7.trans h7'.symm⟩
theorem pr_wf {fsz fco ffu fsu fbb fmo fle : Int → Int} {n : Nat} : ∀ (d : Nat) (r k g : Int), PR fsz fco ffu fsu fbb fmo fle n d r k g → 0 < wf fsz ffu fsu fbb fmo fle (n - d) d k
  | 0, r, k, g, h => by rw [h.2.1]; exact h.2.2.2
  | d + 1, r, k, g, h => by
    obtain ⟨c, k0, g0, r0, h1, h2, h3, h4, h5, h6, h7⟩ := h
    exact h5
theorem pr_g {fsz fco ffu fsu fbb fmo fle : Int → Int} (hT : TB fsz fco ffu fsu fbb fmo) {n : Nat} : ∀ (d : Nat) (r k g : Int), d ≤ 12 → PR fsz fco ffu fsu fbb fmo fle n d r k g → -(1000 * (d : Int)) ≤ g ∧ g ≤ 1000 * (d : Int) := by
  intro d
  induction d with
  | zero => intro r k g _ h; have := h.2.2.1; omega
  | succ d ih =>
    intro r k g hd h
    obtain ⟨c, k0, g0, r0, h1, h2, h3, h4, h5, h6, h7⟩ := h
    have hsz := hT.1 (d : Int) (by omega) (by omega)
    have := ih r0 k0 g0 (by omega) h1
    have hco := hT.2.1 ((d : Int) * 6 + c) (by omega) (by omega)
    omega
/-- the number of such a row: the least cost of a plan that begins with it, then its choices -/
noncomputable def cod (fsz fco ffu fsu fbb fmo fle : Int → Int) (n d : Nat) (r k g : Int) : Int := (g + cf fsz fco ffu fsu fbb fmo fle (n - d) d k + 12000) * 68719476736 + r
theorem minR_att {P : Int → Prop} {v : Int → Int} {s : Int} : ∀ n : Nat, (∃ i, s ≤ i ∧ i < s + (n : Int) ∧ P i ∧ v i ≤ 900000) → ∃ i, s ≤ i ∧ i < s + (n : Int) ∧ P i ∧ minR P v s n = v i
  | 0, ⟨i, h1, h2, _⟩ => by omega
  | n + 1, h => by
    by_cases q : ∃ i, s ≤ i ∧ i < s + (n : Int) ∧ P i ∧ v i ≤ 900000
    · obtain ⟨i, i1, i2, i3, i4⟩ := minR_att n q
      by_cases r : P (s + (n : Int))
      · rw [minR_yes r]
        by_cases t : v (s + (n : Int)) < minR P v s n
        · exact ⟨s + (n : Int), by omega, by omega, r, by omega⟩
        · exact ⟨i, i1, by omega, i3, by omega⟩
      · rw [minR_no r]; exact ⟨i, i1, by omega, i3, i4⟩
    · obtain ⟨i, i1, i2, i3, i4⟩ := h
      have e : i = s + (n : Int) := Classical.byContradiction fun z => q ⟨i, i1, by omega, i3, i4⟩
      subst e
      rw [minR_yes i3]
      have : ∀ m : Nat, m ≤ n → minR P v s m = 900000 ∨ 900000 ≤ minR P v s m := by
        intro m
        induction m with
        | zero => intro _; exact Or.inl rfl
        | succ m ih =>
          intro hm
          by_cases r : P (s + (m : Int))
          · rw [minR_yes r]
            have := ih (by omega)
            have h5 : ¬ v (s + (m : Int)) ≤ 900000 := fun z => q ⟨s + (m : Int), by omega, by omega, r, z⟩
            omega
          · rw [minR_no r]; exact ih (by omega)
      have := this n (Nat.le_refl n)
      exact ⟨s + (n : Int), i1, i2, i3, by omega⟩
/-- a child of a row: its number is not less; one of them has the same least cost -/
theorem cod_child {fsz fco ffu fsu fbb fmo fle : Int → Int} (hT : TB fsz fco ffu fsu fbb fmo) {n d : Nat} (hn : n ≤ 12) (hd : d < n) {r k g c : Int} (hc : 0 ≤ c ∧ c < fsz (d : Int)) (h1 : ¬ kn fbb ffu fsu fmo ((d : Int) * 6 + c) c k = -1) (h2 : 0 < wf fsz ffu fsu fbb fmo fle (n - (d + 1)) (d + 1) (kn fbb ffu fsu fmo ((d : Int) * 6 + c) c k)) :
    cod fsz fco ffu fsu fbb fmo fle n d r k g ≤ cod fsz fco ffu fsu fbb fmo fle n (d + 1) (r + c * 8 ^ (11 - d)) (kn fbb ffu fsu fmo ((d : Int) * 6 + c) c k) (g + fco ((d : Int) * 6 + c)) := by
  have e : n - d = (n - (d + 1)) + 1 := by omega
  have hle : cf fsz fco ffu fsu fbb fmo fle (n - d) d k ≤ cf fsz fco ffu fsu fbb fmo fle (n - (d + 1)) (d + 1) (kn fbb ffu fsu fmo ((d : Int) * 6 + c) c k) + fco ((d : Int) * 6 + c) := by
    rw [e]
    exact minR_le (P := fun c => ¬ kn fbb ffu fsu fmo ((d : Int) * 6 + c) c k = -1 ∧ 0 < wf fsz ffu fsu fbb fmo fle (n - (d + 1)) (d + 1) (kn fbb ffu fsu fmo ((d : Int) * 6 + c) c k)) (v := fun c => cf fsz fco ffu fsu fbb fmo fle (n - (d + 1)) (d + 1) (kn fbb ffu fsu fmo ((d : Int) * 6 + c) c k) + fco ((d : Int) * 6 + c)) (s := 0) (fsz (d : Int)).toNat c hc.1 (by omega) ⟨h1, h2⟩
  have hp : 0 ≤ c * 8 ^ (11 - d) := Int.mul_nonneg hc.1 (Int.le_of_lt (pw8p _))
  unfold cod
  omega
theorem cod_best {fsz fco ffu fsu fbb fmo fle : Int → Int} (hT : TB fsz fco ffu fsu fbb fmo) {n d : Nat} (hn : n ≤ 12) (hd : d < n) {r k g : Int} (h : 0 < wf fsz ffu fsu fbb fmo fle (n - d) d k) :
    ∃ c, (0 ≤ c ∧ c < fsz (d : Int)) ∧ ¬ kn fbb ffu fsu fmo ((d : Int) * 6 + c) c k = -1 ∧ 0 < wf fsz ffu fsu fbb fmo fle (n - (d + 1)) (d + 1) (kn fbb ffu fsu fmo ((d : Int) * 6 + c) c k) ∧ cod fsz fco ffu fsu fbb fmo fle n (d + 1) (r + c * 8 ^ (11 - d)) (kn fbb ffu fsu fmo ((d : Int) * 6 + c) c k) (g + fco ((d : Int) * 6 + c)) < cod fsz fco ffu fsu fbb fmo fle n d r k g + 8 ^ (12 - d) := by
  have hsz := hT.1 (d : Int) (by omega) (by omega)
  have e : n - d = (n - (d + 1)) + 1 := by omega
  rw [e] at h
  obtain ⟨c, c1, c2, c3⟩ := sumR_pos (fun c => by
    show 0 ≤ (if kn fbb ffu fsu fmo ((d : Int) * 6 + c) c k = -1 then 0 else wf fsz ffu fsu fbb fmo fle (n - (d + 1)) (d + 1) (kn fbb ffu fsu fmo ((d : Int) * 6 + c) c k))
    split
    · exact Int.le_refl 0
    · exact wf_nn _ (d + 1) _) _ h
  have c4 : 0 < (if kn fbb ffu fsu fmo ((d : Int) * 6 + c) c k = -1 then 0 else wf fsz ffu fsu fbb fmo fle (n - (d + 1)) (d + 1) (kn fbb ffu fsu fmo ((d : Int) * 6 + c) c k)) := c3
  have hne : ¬ kn fbb ffu fsu fmo ((d : Int) * 6 + c) c k = -1 := fun q => by rw [if_pos q] at c4; omega
  rw [if_neg hne] at c4
  have hco := hT.2.1 ((d : Int) * 6 + c) (by omega) (by omega)
  have hr := cf_rng hT (n - (d + 1)) (d + 1) _ (by omega) c4
  obtain ⟨b, b1, b2, b3, b4⟩ := minR_att (P := fun c => ¬ kn fbb ffu fsu fmo ((d : Int) * 6 + c) c k = -1 ∧ 0 < wf fsz ffu fsu fbb fmo fle (n - (d + 1)) (d + 1) (kn fbb ffu fsu fmo ((d : Int) * 6 + c) c k)) (v := fun c => cf fsz fco ffu fsu fbb fmo fle (n - (d + 1)) (d + 1) (kn fbb ffu fsu fmo ((d : Int) * 6 + c) c k) + fco ((d : Int) * 6 + c)) (s := 0) (fsz (d : Int)).toNat ⟨c, c1, c2, ⟨hne, c4⟩, by
    show cf fsz fco ffu fsu fbb fmo fle (n - (d + 1)) (d + 1) (kn fbb ffu fsu fmo ((d : Int) * 6 + c) c k) + fco ((d : Int) * 6 + c) ≤ 900000
    omega⟩
  have b5 : cf fsz fco ffu fsu fbb fmo fle (n - d) d k = cf fsz fco ffu fsu fbb fmo fle (n - (d + 1)) (d + 1) (kn fbb ffu fsu fmo ((d : Int) * 6 + b) b k) + fco ((d : Int) * 6 + b) := by
    rw [e]; exact b4
  refine ⟨b, ⟨b1, by omega⟩, b3.1, b3.2, ?_⟩
  have hb : b * 8 ^ (11 - d) < 8 ^ (12 - d) := by
    rw [pw8 (by omega)]
    exact Int.mul_lt_mul_of_pos_right (by omega) (pw8p _)
  unfold cod
  rw [b5]
  omega
