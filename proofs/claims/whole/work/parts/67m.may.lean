/-! may one of the set be followed -/
def MY (b B x z : Int) : Prop := (z = 1 ∧ (b = 0 ∨ ∃ j, (0 ≤ j ∧ j < x) ∧ b / 2 ^ j.toNat % 2 = 1 ∧ B / 2 ^ j.toNat % 2 = 0)) ∨ (z = 0 ∧ ¬ b = 0 ∧ ∀ j, 0 ≤ j → j < x → b / 2 ^ j.toNat % 2 = 1 → B / 2 ^ j.toNat % 2 = 1)
theorem mf_k {b B x z : Int} (hz : ¬ z = 0) (h : MY b B x z) : b = 0 ∨ ∃ j, (0 ≤ j ∧ j < x + 1) ∧ b / 2 ^ j.toNat % 2 = 1 ∧ B / 2 ^ j.toNat % 2 = 0 := by
  rcases h with ⟨-, q | ⟨j, j1, j2⟩⟩ | ⟨q, -⟩
  · exact Or.inl q
  · exact Or.inr ⟨j, by omega, j2⟩
  · exact absurd q hz
theorem mf_n {b B x z : Int} (hz : z = 0) (h : MY b B x z) (hx : b / 2 ^ x.toNat % 2 = 1 → B / 2 ^ x.toNat % 2 = 1) : ¬ b = 0 ∧ ∀ j, 0 ≤ j → j < x + 1 → b / 2 ^ j.toNat % 2 = 1 → B / 2 ^ j.toNat % 2 = 1 := by
  rcases h with ⟨q, -⟩ | ⟨-, q1, q2⟩
  · omega
  · refine ⟨q1, fun j a c => ?_⟩
    by_cases r : j = x
    · subst r; exact hx
    · exact q2 j a (by omega)
theorem my_e {b B x z : Int} (hx : x = 6) (h : MY b B x z) : iI z = iI (bI (¬ msk b B)) := by
  subst hx
  rcases h with ⟨rfl, q⟩ | ⟨rfl, q1, q2⟩
  · rw [bI_t]
    rintro ⟨m1, m2⟩
    rcases q with q | ⟨j, j1, j2, j3⟩
    · exact m1 q
    · have := m2 j.toNat (by omega) j2
      omega
  · rw [bI_f]
    intro q
    exact q ⟨q1, fun k hk => by have := q2 (k : Int) (by omega) (by omega); rw [Int.toNat_natCast] at this; exact this⟩
theorem my_01 {b B x z : Int} (h : MY b B x z) : z = 0 ∨ z = 1 := by
  rcases h with ⟨q, -⟩ | ⟨q, -⟩ <;> omega
