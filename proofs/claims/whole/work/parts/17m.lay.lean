/-! LAYING ONE LAYER BEHIND ANOTHER: the invariant -/
theorem sumR_term {g : Int → Int} {s : Int} (h : ∀ i, 0 ≤ g i) : ∀ n : Nat, ∀ i, s ≤ i → i < s + (n : Int) → g i ≤ sumR g s n
  | 0, i, a, b => by omega
  | n + 1, i, a, b => by
    have h2 := sumR_nn (s := s) h n
    have h3 := h (s + (n : Int))
    show g i ≤ sumR g s n + g (s + (n : Int))
    by_cases r : i = s + (n : Int)
    · subst r; omega
    · have ih := sumR_term h n i a (by omega); omega
theorem sumR_upd {g g' : Int → Int} {s b : Int} (hne : ∀ i, ¬ i = b → g' i = g i) (hb : g b + 1 ≤ g' b) : ∀ n : Nat, (sumR g s n ≤ sumR g' s n) ∧ (s ≤ b → b < s + (n : Int) → sumR g s n + 1 ≤ sumR g' s n)
  | 0 => ⟨Int.le_refl _, fun a c => by omega⟩
  | n + 1 => by
    obtain ⟨i1, i2⟩ := sumR_upd (s := s) hne hb n
    show sumR g s n + g (s + (n : Int)) ≤ sumR g' s n + g' (s + (n : Int)) ∧ (_ → _ → sumR g s n + g (s + (n : Int)) + 1 ≤ sumR g' s n + g' (s + (n : Int)))
    by_cases r : s + (n : Int) = b
    · rw [r]; exact ⟨by omega, fun _ _ => by omega⟩
    · rw [hne _ r]
      refine ⟨by omega, fun a c => ?_⟩
      have := i2 a (by omega)
      omega
theorem sumR_cap {g : Int → Int} {s u b : Int} (h : ∀ i, s ≤ i → g i ≤ u) (hb : g b < u) : ∀ n : Nat, (∀ i, s ≤ i → i < s + (n : Int) → g i ≤ u) → sumR g s n ≤ (n : Int) * u ∧ (s ≤ b → b < s + (n : Int) → sumR g s n < (n : Int) * u)
  | 0, _ => ⟨by show (0 : Int) ≤ _; simp, fun a c => by omega⟩
  | n + 1, q => by
    obtain ⟨i1, i2⟩ := sumR_cap (s := s) h hb n (fun i a c => q i a (by omega))
    have e : ((n + 1 : Nat) : Int) * u = (n : Int) * u + u := by rw [Int.natCast_add, Int.add_mul]; simp
    rw [e]
    show sumR g s n + g (s + (n : Int)) ≤ _ ∧ (_ → _ → sumR g s n + g (s + (n : Int)) < _)
    have q1 := q (s + (n : Int)) (by omega) (by omega)
    refine ⟨by omega, fun a c => ?_⟩
    by_cases r : b = s + (n : Int)
    · rw [← r]; omega
    · have := i2 a (by omega); omega
def LO (fsz fco ffu fsu fbb fmo : Int → Int) (d : Nat) (s e : Int) (gk gwt gct : Int → Int) : Prop :=
  (∀ i, s ≤ i → i < e → vk (gk i) ∧ gwt i = wt fsz ffu fsu fbb fmo d (gk i) ∧ 0 < gwt i ∧ gct i = ct fsz fco ffu fsu fbb fmo d (gk i)) ∧
  (∀ i j, s ≤ i → i < j → j < e → gk i < gk j) ∧ (∀ k, 0 < wt fsz ffu fsu fbb fmo d k → ∃ i, s ≤ i ∧ i < e ∧ gk i = k)
def LBi (ffu fsu fbb fmo gk B0 : Int → Int) (a s e x : Int) (CU F : Int → Int) : Prop :=
  (∀ c, 0 ≤ c → c < x → (s ≤ CU c ∧ CU c ≤ e) ∧ (CU c < e → ¬ kn fbb ffu fsu fmo (a * 6 + c) c (gk (CU c)) = -1) ∧ (∀ i, s ≤ i → i < CU c → kn fbb ffu fsu fmo (a * 6 + c) c (gk i) = -1)) ∧
  (∀ c i, 0 ≤ c → c < x → s ≤ i → i < e → F (i * 6 + c) = kn fbb ffu fsu fmo (a * 6 + c) c (gk i)) ∧ (∀ j, j < s * 6 → F j = B0 j)
theorem li_0 {ffu fsu fbb fmo gk B0 CU F : Int → Int} {a s e : Int} (h : ∀ j, j < s * 6 → F j = B0 j) : LBi ffu fsu fbb fmo gk B0 a s e 0 CU F := ⟨fun c h1 h2 => by omega, fun c i h1 h2 => by omega, h⟩
theorem li_step {ffu fsu fbb fmo gk B0 CU F F1 CU2 : Int → Int} {a s e x : Int} (h : LBi ffu fsu fbb fmo gk B0 a s e x CU F) (hx : 0 ≤ x ∧ x < 6) (hse : s ≤ e)
    (f1 : ∀ i, s ≤ i → i < e → F1 (i * 6 + x) = kn fbb ffu fsu fmo (a * 6 + x) x (gk i)) (f2 : ∀ j, (∀ i, s ≤ i → i < e → ¬ j = i * 6 + x) → F1 j = F j)
    (q1 : ∀ j, ¬ j = x → CU2 j = uZ CU x s j) (q2 : uZ CU x s x ≤ CU2 x ∧ CU2 x ≤ e) (q3 : ∀ i, uZ CU x s x ≤ i → i < CU2 x → F1 (i * 6 + x) = -1) (q4 : CU2 x < e → ¬ F1 (CU2 x * 6 + x) = -1) (h6 : ∀ c, 0 ≤ c → c < x → c < 6) :
    LBi ffu fsu fbb fmo gk B0 a s e (x + 1) CU2 F1 := by
  obtain ⟨k1, k2, k3⟩ := h
  rw [uZ_s] at q2 q3
  refine ⟨fun c h1 h2 => ?_, fun c i h1 h2 h3 h4 => ?_, fun j hj => ?_⟩
  · by_cases q : c = x
    · subst q
      refine ⟨q2, fun hl => ?_, fun i i1 i2 => ?_⟩
      · rw [← f1 _ (by omega) hl]; exact q4 hl
      · rw [← f1 _ i1 (by omega)]; exact q3 i i1 i2
    · rw [q1 c q, uZ_n q]; exact k1 c h1 (by omega)
  · by_cases q : c = x
    · subst q; exact f1 i h3 h4
    · rw [f2 _ (fun z z1 z2 => by have := h6 c h1 (by omega); omega)]; exact k2 c i h1 (by omega) h3 h4
  · rw [f2 j (fun i i1 i2 => by omega)]; exact k3 j hj
def LBp (fsz fco ffu fsu fbb fmo gk gwt gct B0 : Int → Int) (d : Nat) (s e T : Int) (CU F GK GC GW : Int → Int) : Prop :=
  (∀ i, i < e → GK i = gk i ∧ GC i = gct i ∧ GW i = gwt i) ∧
  (∀ c, 0 ≤ c → c < fsz (d : Int) → (s ≤ CU c ∧ CU c ≤ e) ∧ (CU c < e → ¬ kn fbb ffu fsu fmo ((d : Int) * 6 + c) c (gk (CU c)) = -1)) ∧
  (∀ c i, 0 ≤ c → c < fsz (d : Int) → CU c ≤ i → i < e → F (i * 6 + c) = kn fbb ffu fsu fmo ((d : Int) * 6 + c) c (gk i)) ∧
  (∀ c i, 0 ≤ c → c < fsz (d : Int) → s ≤ i → i < CU c → (kn fbb ffu fsu fmo ((d : Int) * 6 + c) c (gk i) = -1 ∧ F (i * 6 + c) = -1) ∨ ((e ≤ F (i * 6 + c) ∧ F (i * 6 + c) < T) ∧ GK (F (i * 6 + c)) = kn fbb ffu fsu fmo ((d : Int) * 6 + c) c (gk i) ∧ ¬ kn fbb ffu fsu fmo ((d : Int) * 6 + c) c (gk i) = -1)) ∧
  (∀ m m', e ≤ m → m < m' → m' < T → GK m < GK m') ∧
  (∀ m c, e ≤ m → m < T → 0 ≤ c → c < fsz (d : Int) → CU c < e → GK m < kn fbb ffu fsu fmo ((d : Int) * 6 + c) c (gk (CU c))) ∧
  (∀ m, e ≤ m → m < T → vk (GK m) ∧ GW m = wt fsz ffu fsu fbb fmo (d + 1) (GK m) ∧ 0 < GW m ∧ GC m = ct fsz fco ffu fsu fbb fmo (d + 1) (GK m)) ∧
  (∀ j, j < s * 6 → F j = B0 j) ∧ e ≤ T ∧ T - e ≤ sumR (fun c => CU c - s) 0 (fsz (d : Int)).toNat
theorem lb_0 {fsz fco ffu fsu fbb fmo gk gwt gct B0 CU F : Int → Int} {d : Nat} {s e : Int} (h : LBi ffu fsu fbb fmo gk B0 (d : Int) s e (fsz (d : Int)) CU F) : LBp fsz fco ffu fsu fbb fmo gk gwt gct B0 d s e e CU F gk gct gwt := by
  obtain ⟨k1, k2, k3⟩ := h
  refine ⟨fun i _ => ⟨rfl, rfl, rfl⟩, fun c h1 h2 => ⟨(k1 c h1 h2).1, (k1 c h1 h2).2.1⟩, fun c i h1 h2 h3 h4 => k2 c i h1 h2 (by have := (k1 c h1 h2).1; omega) h4, fun c i h1 h2 h3 h4 => ?_, fun m m' h1 h2 h3 => by omega, fun m c h1 h2 => by omega, fun m h1 h2 => by omega, k3, Int.le_refl _, ?_⟩
  · have h5 := (k1 c h1 h2).2.2 i h3 h4
    refine Or.inl ⟨h5, ?_⟩
    rw [k2 c i h1 h2 h3 (by have := (k1 c h1 h2).1; omega)]; exact h5
  · rw [Int.sub_self]
    have : ∀ n : Nat, (n : Int) ≤ fsz (d : Int) → 0 ≤ sumR (fun c => CU c - s) 0 n := by
      intro n
      induction n with
      | zero => intro _; exact Int.le_refl 0
      | succ n ih =>
        intro hn
        show 0 ≤ sumR (fun c => CU c - s) 0 n + (CU (0 + (n : Int)) - s)
        have h1 := ih (by omega)
        have h2 := (k1 (0 + (n : Int)) (by omega) (by omega)).1
        omega
    rcases Int.lt_or_le (fsz (d : Int)) 0 with q | q
    · rw [show (fsz (d : Int)).toNat = 0 by omega]; exact Int.le_refl 0
    · exact this _ (by omega)
