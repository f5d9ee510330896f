/-! sums, least values, one node made -/
/-- sums and least values over a stretch of whole numbers -/
def sumR (g : Int → Int) (s : Int) : Nat → Int
  | 0 => 0
  | n + 1 => sumR g s n + g (s + (n : Int))
noncomputable def minR (P : Int → Prop) (v : Int → Int) (s : Int) : Nat → Int
  | 0 => 900000
  | n + 1 => @ite Int (P (s + (n : Int))) (Classical.propDecidable _) (min (minR P v s n) (v (s + (n : Int)))) (minR P v s n)
theorem sumR_gap {g : Int → Int} {s : Int} {n : Nat} : ∀ k : Nat, (∀ i, s + (n : Int) ≤ i → i < s + ((n + k : Nat) : Int) → g i = 0) → sumR g s (n + k) = sumR g s n
  | 0, _ => rfl
  | k + 1, h => by
    show sumR g s (n + k) + g (s + ((n + k : Nat) : Int)) = _
    rw [h _ (by omega) (by omega), Int.add_zero]
    exact sumR_gap k (fun i h1 h2 => h i h1 (by omega))
theorem minR_yes {P : Int → Prop} {v : Int → Int} {s : Int} {n : Nat} (h : P (s + (n : Int))) : minR P v s (n + 1) = min (minR P v s n) (v (s + (n : Int))) := if_pos h
theorem minR_no {P : Int → Prop} {v : Int → Int} {s : Int} {n : Nat} (h : ¬ P (s + (n : Int))) : minR P v s (n + 1) = minR P v s n := if_neg h
theorem minR_gap {P : Int → Prop} {v : Int → Int} {s : Int} {n : Nat} : ∀ k : Nat, (∀ i, s + (n : Int) ≤ i → i < s + ((n + k : Nat) : Int) → ¬ P i) → minR P v s (n + k) = minR P v s n
  | 0, _ => rfl
  | k + 1, h => by
    rw [show n + (k + 1) = (n + k) + 1 by omega, minR_no (h _ (by omega) (by omega))]
    exact minR_gap k (fun i h1 h2 => h i h1 (by omega))
/-- one node is being made: its choice's cursor has come to CU b -/
def ANp (gbe gct gwt gcu : Int → Int) (b co e key total : Int) (CU F GC GW : Int → Int) : Prop :=
  (∀ j, ¬ j = b → CU j = gcu j) ∧ (gcu b ≤ CU b ∧ CU b ≤ e) ∧ (CU b < e → ¬ gbe (CU b * 6 + b) = -1) ∧
  (∀ i, gcu b ≤ i → i < CU b → (gbe (i * 6 + b) = key ∧ F (i * 6 + b) = total) ∨ (gbe (i * 6 + b) = -1 ∧ F (i * 6 + b) = -1)) ∧
  (∀ j, (∀ i, gcu b ≤ i → i < CU b → ¬ j = i * 6 + b) → F j = gbe j) ∧
  ((∀ j, ¬ j = total → GC j = gct j) ∧ GC total = min (gct (gcu b) + co) (minR (fun i => gbe (i * 6 + b) = key) (fun i => gct i + co) (gcu b) (CU b - gcu b).toNat) ∧ -200000 ≤ GC total ∧ GC total ≤ 200000) ∧
  ((∀ j, ¬ j = total → GW j = gwt j) ∧ GW total = sumR (fun i => if gbe (i * 6 + b) = key then gwt i else 0) (gcu b) (CU b - gcu b).toNat)
theorem an_0 {gbe gct gwt gcu : Int → Int} {b co e key total : Int} (h1 : gcu b < e) (h2 : ¬ gbe (gcu b * 6 + b) = -1) (h3 : -200000 ≤ gct (gcu b) + co ∧ gct (gcu b) + co ≤ 200000) : ANp gbe gct gwt gcu b co e key total gcu gbe (uZ gct total (gct (gcu b) + co)) (uZ gwt total 0) := by
  refine ⟨fun _ _ => rfl, ⟨Int.le_refl _, by omega⟩, fun _ => h2, fun i a b => by omega, fun _ _ => rfl, ⟨fun j h => uZ_n h, ?_, ?_, ?_⟩, fun j h => uZ_n h, ?_⟩
  · rw [uZ_s, Int.sub_self]
    show _ = min _ 900000
    omega
  · rw [uZ_s]; exact h3.1
  · rw [uZ_s]; exact h3.2
  · rw [uZ_s, Int.sub_self]; rfl
theorem an_step {gbe gct gwt gcu CU F GC GW CU2 : Int → Int} {b co e key total : Int} (h : ANp gbe gct gwt gcu b co e key total CU F GC GW) (hlt : CU b < e) (hkey : F (CU b * 6 + b) = key) (het : e ≤ total) (hk : ¬ key = -1) (hr : -200000 ≤ GC (CU b) + co ∧ GC (CU b) + co ≤ 200000)
    (q1 : ∀ j, ¬ j = b → CU2 j = uZ CU b (CU b + 1) j) (q2 : uZ CU b (CU b + 1) b ≤ CU2 b ∧ CU2 b ≤ e) (q3 : ∀ i, uZ CU b (CU b + 1) b ≤ i → i < CU2 b → uZ F (CU b * 6 + b) total (i * 6 + b) = -1) (q4 : CU2 b < e → ¬ uZ F (CU b * 6 + b) total (CU2 b * 6 + b) = -1) :
    ANp gbe gct gwt gcu b co e key total CU2 (uZ F (CU b * 6 + b) total) (uZ GC total (min (GC total) (GC (CU b) + co))) (uZ GW total (GW total + GW (CU b))) := by
  obtain ⟨k1, k2, k3, k4, k5, ⟨k6, k6b, k6c, k6d⟩, k7, k7b⟩ := h
  rw [uZ_s] at q2 q3
  have hF : ∀ i, CU b ≤ i → F (i * 6 + b) = gbe (i * 6 + b) := fun i hi => k5 _ (fun z h1 h2 => by omega)
  have hg : gbe (CU b * 6 + b) = key := by rw [← hF _ (Int.le_refl _)]; exact hkey
  have hm : ∀ i, CU b + 1 ≤ i → i < CU2 b → gbe (i * 6 + b) = -1 := fun i h1 h2 => by
    have := q3 i h1 h2
    rw [uZ_n (by omega), hF i (by omega)] at this
    exact this
  obtain ⟨n, hn⟩ : ∃ n : Nat, CU b = gcu b + (n : Int) := ⟨(CU b - gcu b).toNat, by omega⟩
  obtain ⟨t, ht⟩ : ∃ t : Nat, CU2 b = gcu b + ((n + 1 + t : Nat) : Int) := ⟨(CU2 b - CU b - 1).toNat, by omega⟩
  have e1 : (CU b - gcu b).toNat = n := by omega
  have e2 : (CU2 b - gcu b).toNat = (n + 1) + t := by omega
  have hct : GC (CU b) = gct (CU b) := k6 _ (by omega)
  have hwt : GW (CU b) = gwt (CU b) := k7 _ (by omega)
  rw [e1] at k6b k7b
  refine ⟨fun j hj => by rw [q1 j hj, uZ_n hj]; exact k1 j hj, ⟨by omega, q2.2⟩, fun hl => ?_, fun i h1 h2 => ?_, fun j hj => ?_, ⟨fun j hj => by rw [uZ_n hj]; exact k6 j hj, ?_, ?_, ?_⟩, fun j hj => by rw [uZ_n hj]; exact k7 j hj, ?_⟩
  · have := q4 hl
    rw [uZ_n (by omega), hF _ (by omega)] at this
    exact this
  · by_cases q : i = CU b
    · subst q; exact Or.inl ⟨hg, uZ_s⟩
    · by_cases r : i < CU b
      · rw [uZ_n (by omega)]; exact k4 i h1 r
      · rw [uZ_n (by omega), hF i (by omega)]
        exact Or.inr ⟨hm i (by omega) h2, hm i (by omega) h2⟩
  · rw [uZ_n (hj (CU b) (by omega) (by omega))]
    exact k5 j (fun i h1 h2 => hj i h1 (by omega))
  · rw [uZ_s, e2, minR_gap t (fun i h1 h2 => ?_), minR_yes ?_, k6b, hct, ← hn]
    · omega
    · show gbe ((gcu b + (n : Int)) * 6 + b) = key
      rw [← hn]; exact hg
    · show ¬ gbe (i * 6 + b) = key
      rw [hm i (by omega) (by omega)]; omega
  · rw [uZ_s]; omega
  · rw [uZ_s]; omega
  · rw [uZ_s, e2, sumR_gap t (fun i h1 h2 => ?_), hwt, k7b]
    · show _ = sumR _ _ n + _
      rw [← hn]
      dsimp only
      rw [if_pos hg]
    · show (if gbe (i * 6 + b) = key then gwt i else 0) = 0
      rw [if_neg]; rw [hm i (by omega) (by omega)]; omega
theorem an_be {gbe gct gwt gcu CU F GC GW : Int → Int} {b co e key total : Int} (h : ANp gbe gct gwt gcu b co e key total CU F GC GW) (kbe : ∀ i, gcu b ≤ i → i < e → rI (gbe (i * 6 + b))) : ∀ i, uZ CU b (CU b + 1) b ≤ i → i < e → rI (uZ F (CU b * 6 + b) total (i * 6 + b)) := by
  intro i h1 h2
  rw [uZ_s] at h1
  have h3 := h.2.1
  rw [uZ_n (by omega), h.2.2.2.2.1 (i * 6 + b) (fun z z1 z2 => by omega)]
  exact kbe i (by omega) h2
theorem an_gt {gbe gct gwt gcu CU F GC GW : Int → Int} {b co e total : Int} (h : ANp gbe gct gwt gcu b co e (gbe (gcu b * 6 + b)) total CU F GC GW) (hne : ¬ F (CU b * 6 + b) = gbe (gcu b * 6 + b)) : gcu b < CU b := by
  have h2 := h.2.1
  rcases Int.lt_or_le (gcu b) (CU b) with q | q
  · exact q
  · exfalso
    apply hne
    rw [h.2.2.2.2.1 (CU b * 6 + b) (fun z z1 z2 => by omega), show CU b = gcu b by omega]
