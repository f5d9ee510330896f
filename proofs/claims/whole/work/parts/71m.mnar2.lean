/-! for narrow -/
theorem nq_00 {fsz fco ffu fsu fbb fmo R : Int → Int} {s : Int} : ∀ E, ¬ NQ fsz fco ffu fsu fbb fmo R s 0 0 E := fun E ⟨i, c, h1, h2, _⟩ => by omega
theorem nq_add {fsz fco ffu fsu fbb fmo R : Int → Int} {s x y : Int} (hx : 0 ≤ x) (hy : 0 ≤ y ∧ y < fsz s) (E : Int) : NQ fsz fco ffu fsu fbb fmo R s x (y + 1) E ↔ (NQ fsz fco ffu fsu fbb fmo R s x y E ∨ (wo ffu fsu fbb fmo (s * 6 + y) (R x) ∧ E = wfo fco ffu fsu fmo (s * 6 + y) (2 ^ y.toNat) (R x))) := by
  constructor
  · intro ⟨i, c, h1, h2, h3⟩
    by_cases q : i = x ∧ c = y
    · obtain ⟨q1, q2⟩ := q; subst q1 q2; exact Or.inr h3
    · exact Or.inl ⟨i, c, h1, by omega, h3⟩
  · rintro (⟨i, c, h1, h2, h3⟩ | h3)
    · exact ⟨i, c, h1, by omega, h3⟩
    · exact ⟨x, y, by omega, by omega, h3⟩
theorem nq_no {fsz fco ffu fsu fbb fmo R : Int → Int} {s x y E : Int} (hx : 0 ≤ x) (hy : 0 ≤ y ∧ y < fsz s) (h : ¬ wo ffu fsu fbb fmo (s * 6 + y) (R x)) : NQ fsz fco ffu fsu fbb fmo R s x y E ↔ NQ fsz fco ffu fsu fbb fmo R s x (y + 1) E := by
  rw [nq_add hx hy]
  exact ⟨Or.inl, fun q => q.elim id (fun z => absurd z.1 h)⟩
theorem wo_no {ffu fsu fbb fmo V R : Int → Int} {pl x : Int} (hV : V x = R x) (h : ¬ ¬ msk (fL V x) (fbb pl)) : ¬ wo ffu fsu fbb fmo pl (R x) := fun q => by
  have := q.1
  rw [← hV] at this
  exact h this
theorem fl_0 {fsz fco ffu fsu fbb fmo : Int → Int} {lq : Prop} {w n l wi c x : Int} {d : Nat} {R V : Int → Int} (h : WL fsz fco ffu fsu fbb fmo lq w d n R l wi c) (hV : V x = R x) (h0 : 0 ≤ x) (h1 : x < n) : ¬ fL V x = 0 → 1 ≤ (d : Int) := fun q => by
  cases d with
  | zero =>
    obtain ⟨a, b, -⟩ := h
    have e : x = 0 := by omega
    subst e
    exact absurd (show V 0 % 64 = 0 by rw [hV, b]; decide) q
  | succ d => omega
theorem mf_al {fsz fco ffu fsu fbb fmo V R V' : Int → Int} {s x y m m' : Int} (hm : 0 ≤ m) (hx : 0 ≤ x) (hy : 0 ≤ y ∧ y < fsz s) (hA : AL m (fun j => V (100 + j)) (NQ fsz fco ffu fsu fbb fmo R s x y)) (hnn : ∀ E, NQ fsz fco ffu fsu fbb fmo R s x y E → 0 ≤ E) (hV : V x = R x) (hk : ¬ msk (fL V x) (fbb (s * 6 + y))) (h : MF fco ffu fsu fmo V 100 m x (s * 6 + y) y V' m') :
    AL m' (fun j => V' (100 + j)) (NQ fsz fco ffu fsu fbb fmo R s x (y + 1)) ∧ (m ≤ m' ∧ m' ≤ m + 1) ∧ ∀ j, j < 100 → V' j = V j := by
  rcases h with ⟨h1, h2, h3⟩ | ⟨h1, ⟨j, j1, j2, j3, j4⟩ | ⟨k1, k2, k3⟩⟩
  · subst h2
    refine ⟨al_c hA (fun E => nq_no hx hy (fun q => h1 ?_)) (fun i a b => h3 _ (by omega)), by omega, fun j a => h3 j (by omega)⟩
    have q2 := q.2
    rw [← hV] at q2
    exact q2
  · subst j3
    have hwo : wo ffu fsu fbb fmo (s * 6 + y) (R x) := by rw [← hV]; exact ⟨hk, h1⟩
    refine ⟨al_low hm hA (j := j - 100) (E0 := wfo fco ffu fsu fmo (s * 6 + y) (2 ^ y.toNat) (V x)) (fun E => ?_) (by omega) ?_ (fun i a b => ?_), by omega, fun i a => ?_⟩
    · rw [nq_add hx hy, hV]; exact ⟨fun q => q.elim Or.inl (fun z => Or.inr z.2), fun q => q.elim Or.inl (fun z => Or.inr ⟨hwo, z⟩)⟩
    · show V (100 + (j - 100)) % 1073741824 = _
      rw [show 100 + (j - 100) = j by omega]; exact j2
    · show V' (100 + i) = _
      rw [j4 _ (by omega)]
      by_cases q : i = j - 100
      · subst q; rw [show 100 + (j - 100) = j by omega, uZ_s, uZ_s]
      · rw [uZ_n (by omega), uZ_n q]
    · rw [j4 _ (by omega), uZ_n (by omega)]
  · subst k2
    have hwo : wo ffu fsu fbb fmo (s * 6 + y) (R x) := by rw [← hV]; exact ⟨hk, h1⟩
    refine ⟨al_new hm hA hnn (E0 := wfo fco ffu fsu fmo (s * 6 + y) (2 ^ y.toNat) (V x)) (fun E => ?_) (fun i a b => k1 (100 + i) (by omega) (by omega)) (fun i a b => ?_) ?_, by omega, fun i a => ?_⟩
    · rw [nq_add hx hy, hV]; exact ⟨fun q => q.elim Or.inl (fun z => Or.inr z.2), fun q => q.elim Or.inl (fun z => Or.inr ⟨hwo, z⟩)⟩
    · show V' (100 + i) = V (100 + i)
      rw [k3 _ (by omega), uZ_n (by omega)]
    · show V' (100 + m) = _
      rw [k3 _ (by omega), uZ_s]
    · rw [k3 _ (by omega), uZ_n (by omega)]
theorem cp_1 {V W : Int → Int} {x v : Int} (h : ∀ j, 0 ≤ j → j < x → V j = W (100 + j)) (hv : v = W (100 + x)) : ∀ j, 0 ≤ j → j < x + 1 → uZ V x v j = W (100 + j) := fun j a b => by
  by_cases q : j = x
  · subst q; rw [uZ_s]; exact hv
  · rw [uZ_n q]; exact h j a (by omega)
def WM (fle R : Int → Int) (x z : Int) : Prop := (z = 900000 ∧ ∀ j, 0 ≤ j → j < x → ¬ enh fle (R j)) ∨ (∃ i, (0 ≤ i ∧ i < x) ∧ enh fle (R i) ∧ (∀ j, 0 ≤ j → j < i → ¬ enh fle (R j)) ∧ z = R i / 1073741824 - 12000)
theorem wm_r {fle R : Int → Int} {x z dd : Int} (hR : ∀ i, 0 ≤ i → i < x → (-dd ≤ fW R i ∧ fW R i ≤ dd) ∧ fA R i ≤ 40 ∧ fB R i ≤ 40 ∧ fC R i ≤ 40 ∧ fD R i ≤ 40) (h : WM fle R x z) : z = 900000 ∨ (-dd ≤ z ∧ z ≤ dd) := by
  rcases h with ⟨a, -⟩ | ⟨i, a, -, -, b⟩
  · exact Or.inl a
  · have := (hR i a.1 a.2).1
    unfold fW at this
    exact Or.inr (by omega)
theorem wm_n {fle R : Int → Int} {x z : Int} (h : WM fle R x z) (hx : ¬ enh fle (R x)) : WM fle R (x + 1) z := by
  rcases h with ⟨a, b⟩ | ⟨i, a, b⟩
  · exact Or.inl ⟨a, wb_n b hx⟩
  · exact Or.inr ⟨i, by omega, b⟩
theorem wm_k {fle R : Int → Int} {x z : Int} (h : WM fle R x z) (hz : z < 900000) : WM fle R (x + 1) z := by
  rcases h with ⟨a, b⟩ | ⟨i, a, b⟩
  · omega
  · exact Or.inr ⟨i, by omega, b⟩
theorem wm_t {fle R : Int → Int} {x z n : Int} (hC : CO n R) (h : WM fle R x z) (hx : 0 ≤ x ∧ x < n) (he : enh fle (R x)) (hz : fW R x < z) : WM fle R (x + 1) (fW R x) := by
  rcases h with ⟨a, b⟩ | ⟨i, a, b, c, d⟩
  · exact Or.inr ⟨x, by omega, he, b, rfl⟩
  · have := hC i x a.1 a.2 hx.2
    unfold fW at hz
    omega
theorem wm_e0 {fle R : Int → Int} {x n z dd : Int} (h : WM fle R x z) (hx : x = n) (hz : z = 900000) (hR : ∀ i, 0 ≤ i → i < x → (-dd ≤ fW R i ∧ fW R i ≤ dd) ∧ fA R i ≤ 40 ∧ fB R i ≤ 40 ∧ fC R i ≤ 40 ∧ fD R i ≤ 40) (hd : dd ≤ 12000) : WB fle R n (-1000000) := by
  subst hx
  rcases h with ⟨-, b⟩ | ⟨i, a, b, c, d⟩
  · exact Or.inr ⟨b, rfl⟩
  · have := (hR i a.1 a.2).1
    unfold fW at this
    omega
theorem wm_e1 {fle R : Int → Int} {x n z : Int} (h : WM fle R x z) (hx : x = n) (hz : ¬ z = 900000) : WB fle R n z := by
  subst hx
  rcases h with ⟨a, b⟩ | h
  · exact absurd a hz
  · exact Or.inl h
