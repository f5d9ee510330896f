/-! insertion, step by step -/
theorem ki_1 {LR LE lr le : Int → Int} {x v w : Int} (h : ∀ i, 0 ≤ i → i ≤ x → LR i = lr i ∧ LE i = le i) : ∀ i, 0 ≤ i → i ≤ x + (-1) → uZ LR x v i = lr i ∧ uZ LE x w i = le i := by
  intro i h1 h2
  rw [uZ_n (by omega), uZ_n (by omega)]
  exact h i h1 (by omega)
theorem ki_2 {LR LE lr le : Int → Int} {x m0 : Int} (h1 : ∀ i, 0 ≤ i → i ≤ x → LR i = lr i ∧ LE i = le i) (h2 : ∀ i, x < i → i ≤ m0 → LR i = lr (i - 1) ∧ LE i = le (i - 1)) (hx : 0 < x) : ∀ i, x + (-1) < i → i ≤ m0 → uZ LR x (LR (x - 1)) i = lr (i - 1) ∧ uZ LE x (LE (x - 1)) i = le (i - 1) := by
  intro i a b
  by_cases q : i = x
  · subst q; rw [uZ_s, uZ_s]; exact h1 (i - 1) (by omega) (by omega)
  · rw [uZ_n q, uZ_n q]; exact h2 i (by omega) b
theorem ki_3 {lr : Int → Int} {x m0 w : Int} (h : ∀ i, x ≤ i → i < m0 → w < lr i) (hx : w < lr (x - 1)) : ∀ i, x + (-1) ≤ i → i < m0 → w < lr i := by
  intro i a b
  by_cases q : i = x - 1
  · subst q; exact hx
  · exact h i (by omega) b
theorem ki_lo {Xs : Int → Int → Prop} {m x w : Int} {lr le : Int → Int} (h : FS Xs m lr le) (hne : ∀ i, 0 ≤ i → i < m → ¬ lr i = w) (h1 : 0 < x) (h2 : x ≤ m) (h3 : lr (x - 1) ≤ w) : ∀ i, 0 ≤ i → i < x → lr i < w := by
  intro i a b
  by_cases q : i = x - 1
  · subst q; have := hne (x - 1) (by omega) (by omega); omega
  · have := h.2.2.1 i (x - 1) a (by omega) (by omega); omega
theorem ki_fin {Xs : Int → Int → Prop} {m m0 x w b : Int} {lr le LR LE : Int → Int} (h : FS Xs m lr le) (hm : (m < 20 ∧ m0 = m) ∨ (m = 20 ∧ m0 = 19 ∧ w < lr 19)) (hx : 0 ≤ x ∧ x ≤ m0) (k1 : ∀ i, 0 ≤ i → i ≤ x → LR i = lr i ∧ LE i = le i) (k2 : ∀ i, x < i → i ≤ m0 → LR i = lr (i - 1) ∧ LE i = le (i - 1)) (hlo : ∀ i, 0 ≤ i → i < x → lr i < w) (k3 : ∀ i, x ≤ i → i < m0 → w < lr i) : FS (fun E v => Xs E v ∨ (E = w ∧ v = b)) (m0 + 1) (uZ LR x w) (uZ LE x b) :=
  fs_ins h hm hx (fun i h1 h2 => by rw [uZ_n (by omega), uZ_n (by omega)]; exact k1 i h1 (by omega)) ⟨uZ_s, uZ_s⟩ (fun i h1 h2 => by rw [uZ_n (by omega), uZ_n (by omega)]; exact k2 i h1 h2) hlo k3
theorem fs_out2 {Xs : Int → Int → Prop} {m row en : Int} {lr le : Int → Int} (h : FS Xs m lr le) (hm : m = 20) (hr : lr 19 < row) : FS (fun E v => Xs E v ∨ (E = row ∧ v = en)) m lr le := by
  subst hm; exact fs_out h hr
