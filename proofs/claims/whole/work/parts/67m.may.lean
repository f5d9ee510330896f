/-! may one of the set be followed -/
def MY (b B x z : Int) : Prop := (z = 1 ∧ (b = 0 ∨ ∃ j, (0 ≤ j ∧ j < x) ∧ b / 2 ^ j.toNat % 2 = 1 ∧ B / 2 ^ j.toNat % 2 = 0)) ∨ (z = 0 ∧ ¬ b = 0 ∧ ∀ j, 0 ≤ j → j < x → b / 2 ^ j.toNat % 2 = 1 → B / 2 ^ j.toNat % 2 = 1)
theorem mf_k {b B x z : Int} (hz : ¬ z = 0) (h : MY b B x z) : b = 0 ∨ ∃ j, (0 ≤ j ∧ j < x + 1) ∧ b / 2 ^ j.toNat % 2 = 1 ∧ B / 2 ^ j.toNat % 2 = 0 := by
  rcases h with ⟨-, q | ⟨j, j1, j2⟩⟩ | ⟨q, -⟩
  · exact Or.inl q
  · exact Or.inr ⟨j, by omega, j2⟩
  · exact absurd q hz
theorem mf_n {b B x z : Int} (hz : z = 0) (h : MY b B x z) (hx : b / 2 ^ x.toNat % 2 = 1 → B / 2 ^ x.toNat % 2 = 1) : ¬ b = 0 ∧ ∀ j, 0 ≤ j → j < x + 1 → b / 2 ^ j.toNat % 2 = 1 → B / 2 ^ j.toNat % 2 = 1 := by
  rcases h with ⟨q, -⟩ | ⟨-, q1, q2⟩
  · omega
  · refine ⟨q1, fun j a c => ?_⟩
    by_cases r : j = x
    · subst r; exact hx
    · exact q2 j a (by omega)
theorem my_e {b B x z : Int} (hx : x = 6) (h : MY b B x z) : iI z = iI (bI (¬ msk b B)) := by
  subst hx
  rcases h with ⟨rfl, q⟩ | ⟨rfl, q1, q2⟩
  · rw [bI_t]
    rintro ⟨m1, m2⟩
    rcases q with q | ⟨j, j1, j2, j3⟩
    · exact m1 q
    · have := m2 j.toNat (by omega) j2
      omega
  · rw [bI_f]
    intro q
    exact q ⟨q1, fun k hk => by have := q2 (k : Int) (by omega) (by omega); rw [Int.toNat_natCast] at this; exact this⟩
theorem my_01 {b B x z : Int} (h : MY b B x z) : z = 0 ∨ z = 1 := by
  rcases h with ⟨q, -⟩ | ⟨q, -⟩ <;> omega
theorem wfo_c {fco ffu fsu fmo R : Int → Int} {pl cb k : Int} (h3 : 0 ≤ fA R k + ffu pl ∧ fA R k + ffu pl < 64) (h4 : 0 ≤ fB R k + fsu pl ∧ fB R k + fsu pl < 64) (h5 : 0 ≤ min (fC R k + ffu pl) (fmo 0) ∧ min (fC R k + ffu pl) (fmo 0) < 64) (h6 : 0 ≤ min (fD R k + fsu pl) (fmo 1) ∧ min (fD R k + fsu pl) (fmo 1) < 64) (h7 : 0 ≤ cb ∧ cb < 64) : wfo fco ffu fsu fmo pl cb (R k) / 1073741824 - 12000 = fW R k + fco pl :=
  (wp_p (a := fW R k + fco pl) h3 h4 h5 h6 h7).1
theorem mn_mod {a b : Int} (h : a % 1073741824 = b % 1073741824) : (min a b) % 1073741824 = a % 1073741824 := by
  rcases Int.le_total a b with z | z
  · rw [Int.min_eq_left z]
  · rw [Int.min_eq_right z, h]
theorem mn_c {a b : Int} : min a b / 1073741824 = min (a / 1073741824) (b / 1073741824) := by
  rcases Int.le_total a b with z | z
  · rw [Int.min_eq_left z]; omega
  · rw [Int.min_eq_right z]; omega
theorem dj_f {X : Int → Prop} {f x : Int} (h : ∀ j, f ≤ j → j < x → ¬ X j) (c : ¬ X x) : ∀ j, f ≤ j → j < x + 1 → ¬ X j := fun j a b => by
  by_cases q : j = x
  · subst q; exact c
  · exact h j a (by omega)
theorem uZ_sw {f : Int → Int} {n x i a b : Int} (h : ¬ i = n) : uZ (uZ f n a) x b i = uZ f x b i := by
  by_cases q : i = x
  · subst q; rw [uZ_s, uZ_s]
  · rw [uZ_n q, uZ_n q, uZ_n h]
theorem ui_id {V : Int → Int} {w : Int} : uZ V (w - 1) (UI V (w - 1) w) = V := by
  have := ui_0 (R := V) (b := w - 1)
  rw [show w - 1 + 1 = w by omega] at this
  rw [this, uZ_id]
