/-! ONE NODE AS GOOD AS ANOTHER -/
def AGp (fle gk gct : Int → Int) (x y : Int) : Prop := gk x % 8 = gk y % 8 ∧ gct x ≤ gct y ∧ ((0 < fle 0 ∧ gk x / 512 = gk y / 512) ∨ (fle 0 ≤ 0 ∧ gk x / 512 ≤ gk y / 512)) ∧ ((0 < fle 1 ∧ gk x / 8 % 64 = gk y / 8 % 64) ∨ (fle 1 ≤ 0 ∧ gk x / 8 % 64 ≤ gk y / 8 % 64))
def FDp (fle gk gct : Int → Int) (s b z : Int) : Prop := (z = -1000000 ∧ ∀ j, s ≤ j → j < s + b → ¬ AGp fle gk gct j (s + b)) ∨ ((0 ≤ z ∧ z < b) ∧ AGp fle gk gct (s + z) (s + b) ∧ ∀ j, s ≤ j → j < s + z → ¬ AGp fle gk gct j (s + b))
theorem fd_not {fle gk gct : Int → Int} {s b x : Int} (h : ∀ j, s ≤ j → j < x → ¬ AGp fle gk gct j (s + b)) (hx : ¬ AGp fle gk gct x (s + b)) : ∀ j, s ≤ j → j < x + 1 → ¬ AGp fle gk gct j (s + b) := by
  intro j h1 h2
  by_cases q : j = x
  · subst q; exact hx
  · exact h j h1 (by omega)
theorem fd_yes {fle gk gct : Int → Int} {s b x : Int} (h : ∀ j, s ≤ j → j < x → ¬ AGp fle gk gct j (s + b)) (h1 : s ≤ x) (h2 : x < s + b) (hx : AGp fle gk gct x (s + b)) : FDp fle gk gct s b (x - s) := by
  refine Or.inr ⟨by omega, ?_, fun j j1 j2 => h j j1 (by omega)⟩
  rw [show s + (x - s) = x by omega]
  exact hx
