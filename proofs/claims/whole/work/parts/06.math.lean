/-! the pure side: keys of nodes, what a choice leads to -/
/-- a choice (its place pl) may follow at a node with the key k -/
def kop (fbb ffu fsu fmo : Int → Int) (pl k : Int) : Prop := ¬ (0 ≤ k % 8 - 1 ∧ fbb pl / 2 ^ (k % 8 - 1).toNat % 2 = 1) ∧ k / 512 + ffu pl ≤ fmo 0 ∧ k / 8 % 64 + fsu pl ≤ fmo 1
/-- the key of the node behind, or -1 -/
noncomputable def kn (fbb ffu fsu fmo : Int → Int) (pl c k : Int) : Int := @ite Int (kop fbb ffu fsu fmo pl k) (Classical.propDecidable _) (((k / 512 + ffu pl) * 512 + (k / 8 % 64 + fsu pl) * 8) + (c + 1)) (-1)
theorem kn_open {fbb ffu fsu fmo : Int → Int} {pl c k : Int} (h : kop fbb ffu fsu fmo pl k) : kn fbb ffu fsu fmo pl c k = ((k / 512 + ffu pl) * 512 + (k / 8 % 64 + fsu pl) * 8) + (c + 1) := by unfold kn; exact if_pos h
theorem kn_shut {fbb ffu fsu fmo : Int → Int} {pl c k : Int} (h : ¬ kop fbb ffu fsu fmo pl k) : kn fbb ffu fsu fmo pl c k = -1 := by unfold kn; exact if_neg h
theorem fk_1 {F g : Int → Int} {s x b v : Int} (h : ∀ i, s ≤ i → i < x → F (i * 6 + b) = g i) (hs : s ≤ x) (hv : v = g x) : ∀ i, s ≤ i → i < x + 1 → uZ F (x * 6 + b) v (i * 6 + b) = g i := by
  intro i h1 h2
  by_cases q : i = x
  · subst q; rw [uZ_s, hv]
  · rw [uZ_n (by omega)]; exact h i h1 (by omega)
theorem fk_2 {F g : Int → Int} {s x b v : Int} (h : ∀ j, (∀ i, s ≤ i → i < x → ¬ j = i * 6 + b) → F j = g j) (hs : s ≤ x) : ∀ j, (∀ i, s ≤ i → i < x + 1 → ¬ j = i * 6 + b) → uZ F (x * 6 + b) v j = g j := by
  intro j hj
  rw [uZ_n (hj x hs (by omega))]
  exact h j (fun i h1 h2 => hj i h1 (by omega))
theorem sk_1 {g : Int → Int} {s x b : Int} (h : ∀ i, s ≤ i → i < x → g (i * 6 + b) = -1) (hx : g (x * 6 + b) = -1) : ∀ i, s ≤ i → i < x + 1 → g (i * 6 + b) = -1 := by
  intro i h1 h2
  by_cases q : i = x
  · subst q; exact hx
  · exact h i h1 (by omega)
/-- the search for the choice with the least key, x choices looked at -/
def CWp (gcu gbe : Int → Int) (e x fo lk : Int) : Prop := (fo = -1 ∧ ∀ i, 0 ≤ i → i < x → e ≤ gcu i) ∨ ((0 ≤ fo ∧ fo < x) ∧ gcu fo < e ∧ lk = gbe (gcu fo * 6 + fo) ∧ ∀ i, 0 ≤ i → i < x → gcu i < e → lk ≤ gbe (gcu i * 6 + i))
theorem cw_0 {gcu gbe : Int → Int} {e lk : Int} : CWp gcu gbe e 0 (-1) lk := Or.inl ⟨rfl, fun i h1 h2 => absurd h1 (by omega)⟩
theorem cw_1 {gcu gbe : Int → Int} {e x fo lk : Int} (h : CWp gcu gbe e x fo lk) (hx : e ≤ gcu x) : CWp gcu gbe e (x + 1) fo lk := by
  rcases h with ⟨h1, h2⟩ | ⟨h1, h2, h3, h4⟩
  · refine Or.inl ⟨h1, fun i a b => ?_⟩
    by_cases q : i = x
    · subst q; exact hx
    · exact h2 i a (by omega)
  · refine Or.inr ⟨⟨h1.1, by omega⟩, h2, h3, fun i a b c => ?_⟩
    by_cases q : i = x
    · subst q; omega
    · exact h4 i a (by omega) c
theorem cw_2 {gcu gbe : Int → Int} {e x fo lk : Int} (h : CWp gcu gbe e x fo lk) (hf : fo < 0) (hc : gcu x < e) (hx : 0 ≤ x) : CWp gcu gbe e (x + 1) x (gbe (gcu x * 6 + x)) := by
  rcases h with ⟨h1, h2⟩ | ⟨h1, h2, h3, h4⟩
  · refine Or.inr ⟨⟨hx, by omega⟩, hc, rfl, fun i a b c => ?_⟩
    by_cases q : i = x
    · subst q; omega
    · have := h2 i a (by omega); omega
  · omega
theorem cw_3 {gcu gbe : Int → Int} {e x fo lk : Int} (h : CWp gcu gbe e x fo lk) (hf : 0 ≤ fo) (hk : lk ≤ gbe (gcu x * 6 + x)) : CWp gcu gbe e (x + 1) fo lk := by
  rcases h with ⟨h1, h2⟩ | ⟨h1, h2, h3, h4⟩
  · omega
  · refine Or.inr ⟨⟨h1.1, by omega⟩, h2, h3, fun i a b c => ?_⟩
    by_cases q : i = x
    · subst q; exact hk
    · exact h4 i a (by omega) c
theorem cw_4 {gcu gbe : Int → Int} {e x fo lk : Int} (h : CWp gcu gbe e x fo lk) (hf : 0 ≤ fo) (hc : gcu x < e) (hk : gbe (gcu x * 6 + x) < lk) (hx : 0 ≤ x) : CWp gcu gbe e (x + 1) x (gbe (gcu x * 6 + x)) := by
  rcases h with ⟨h1, h2⟩ | ⟨h1, h2, h3, h4⟩
  · omega
  · refine Or.inr ⟨⟨hx, by omega⟩, hc, rfl, fun i a b c => ?_⟩
    by_cases q : i = x
    · subst q; omega
    · have := h4 i a (by omega) c; omega
/-- what goes from a node: the sum over its first n choices, and the least cost -/
def lbW (gbe gwf : Int → Int) (z : Int) : Nat → Int
  | 0 => 0
  | n + 1 => lbW gbe gwf z n + (if 0 ≤ gbe (z * 6 + (n : Int)) ∧ 0 < gwf (gbe (z * 6 + (n : Int))) then gwf (gbe (z * 6 + (n : Int))) else 0)
def lbC (gbe gwf gcf fco : Int → Int) (d z : Int) : Nat → Int
  | 0 => 0
  | n + 1 => if 0 ≤ gbe (z * 6 + (n : Int)) ∧ 0 < gwf (gbe (z * 6 + (n : Int))) then (if lbW gbe gwf z n = 0 then gcf (gbe (z * 6 + (n : Int))) + fco (d * 6 + (n : Int)) else min (lbC gbe gwf gcf fco d z n) (gcf (gbe (z * 6 + (n : Int))) + fco (d * 6 + (n : Int)))) else lbC gbe gwf gcf fco d z n
theorem lbW_no {gbe gwf : Int → Int} {z x : Int} (hx : 0 ≤ x) (h : ¬ (0 ≤ gbe (z * 6 + x) ∧ 0 < gwf (gbe (z * 6 + x)))) : lbW gbe gwf z (x + 1).toNat = lbW gbe gwf z x.toNat := by
  obtain ⟨n, rfl⟩ : ∃ n : Nat, x = (n : Int) := ⟨x.toNat, by omega⟩
  rw [show ((n : Int) + 1).toNat = n + 1 by omega, Int.toNat_natCast]
  show lbW gbe gwf z n + _ = _
  rw [if_neg h, Int.add_zero]
theorem lbW_yes {gbe gwf : Int → Int} {z x : Int} (hx : 0 ≤ x) (h : 0 ≤ gbe (z * 6 + x) ∧ 0 < gwf (gbe (z * 6 + x))) : lbW gbe gwf z (x + 1).toNat = lbW gbe gwf z x.toNat + gwf (gbe (z * 6 + x)) := by
  obtain ⟨n, rfl⟩ : ∃ n : Nat, x = (n : Int) := ⟨x.toNat, by omega⟩
  rw [show ((n : Int) + 1).toNat = n + 1 by omega, Int.toNat_natCast]
  show lbW gbe gwf z n + _ = _
  rw [if_pos h]
theorem lbC_no {gbe gwf gcf fco : Int → Int} {d z x : Int} (hx : 0 ≤ x) (h : ¬ (0 ≤ gbe (z * 6 + x) ∧ 0 < gwf (gbe (z * 6 + x)))) : lbC gbe gwf gcf fco d z (x + 1).toNat = lbC gbe gwf gcf fco d z x.toNat := by
  obtain ⟨n, rfl⟩ : ∃ n : Nat, x = (n : Int) := ⟨x.toNat, by omega⟩
  rw [show ((n : Int) + 1).toNat = n + 1 by omega, Int.toNat_natCast]
  exact if_neg h
theorem lbC_first {gbe gwf gcf fco : Int → Int} {d z x : Int} (hx : 0 ≤ x) (h : 0 ≤ gbe (z * 6 + x) ∧ 0 < gwf (gbe (z * 6 + x))) (h0 : lbW gbe gwf z x.toNat = 0) : lbC gbe gwf gcf fco d z (x + 1).toNat = gcf (gbe (z * 6 + x)) + fco (d * 6 + x) := by
  obtain ⟨n, rfl⟩ : ∃ n : Nat, x = (n : Int) := ⟨x.toNat, by omega⟩
  rw [show ((n : Int) + 1).toNat = n + 1 by omega]
  rw [Int.toNat_natCast] at h0
  show (if _ then _ else _) = _
  rw [if_pos h, if_pos h0]
theorem lbC_more {gbe gwf gcf fco : Int → Int} {d z x : Int} (hx : 0 ≤ x) (h : 0 ≤ gbe (z * 6 + x) ∧ 0 < gwf (gbe (z * 6 + x))) (h0 : ¬ lbW gbe gwf z x.toNat = 0) : lbC gbe gwf gcf fco d z (x + 1).toNat = min (lbC gbe gwf gcf fco d z x.toNat) (gcf (gbe (z * 6 + x)) + fco (d * 6 + x)) := by
  obtain ⟨n, rfl⟩ : ∃ n : Nat, x = (n : Int) := ⟨x.toNat, by omega⟩
  rw [show ((n : Int) + 1).toNat = n + 1 by omega]
  rw [Int.toNat_natCast] at h0 ⊢
  show (if _ then _ else _) = _
  rw [if_pos h, if_neg h0]
