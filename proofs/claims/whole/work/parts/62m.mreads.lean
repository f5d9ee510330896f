/-! THE MODEL: what is asked -/
def DMp (fle gct : Int → Int) (a b : Int) : Prop := ¬ a = b ∧ ((0 < fle 0 ∧ a % 11767 / 7 / 41 = b % 11767 / 7 / 41) ∨ (fle 0 ≤ 0 ∧ a % 11767 / 7 / 41 ≤ b % 11767 / 7 / 41)) ∧ ((0 < fle 1 ∧ a % 11767 / 7 % 41 = b % 11767 / 7 % 41) ∨ (fle 1 ≤ 0 ∧ a % 11767 / 7 % 41 ≤ b % 11767 / 7 % 41)) ∧ a % 7 - 1 = b % 7 - 1 ∧ gct a ≤ gct b
def MDp (fle gct g : Int → Int) (m b z : Int) : Prop := (∃ k, (0 ≤ k ∧ k < m) ∧ DMp fle gct (g k) (g b) ∧ (∀ j, 0 ≤ j → j < k → ¬ DMp fle gct (g j) (g b)) ∧ z = k) ∨ ((∀ j, 0 ≤ j → j < m → ¬ DMp fle gct (g j) (g b)) ∧ z = -1000000)
theorem dj_n {X : Int → Prop} {x : Int} (h : ∀ j, 0 ≤ j → j < x → ¬ X j) (c : ¬ X x) : ∀ j, 0 ≤ j → j < x + 1 → ¬ X j := fun j a b => by
  by_cases q : j = x
  · subst q; exact c
  · exact h j a (by omega)
theorem sum_s {f : Int → Int} {x : Int} (h : 0 ≤ x) : sumR f 0 (x + 1).toNat = sumR f 0 x.toNat + f x := by
  rw [show (x + 1).toNat = x.toNat + 1 by omega]
  show sumR f 0 x.toNat + f (0 + (x.toNat : Int)) = _
  rw [show 0 + ((x.toNat : Nat) : Int) = x by omega]
