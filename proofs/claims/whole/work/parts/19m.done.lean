/-! A LAYER IS LAID, OR HAS TOO MANY NODES -/
theorem sumR_cap2 {g : Int → Int} {s u b : Int} (hb : g b < u) : ∀ n : Nat, (∀ i, s ≤ i → i < s + (n : Int) → g i ≤ u) → sumR g s n ≤ (n : Int) * u ∧ (s ≤ b → b < s + (n : Int) → sumR g s n < (n : Int) * u)
  | 0, _ => ⟨by show (0 : Int) ≤ _; simp, fun a c => by omega⟩
  | n + 1, q => by
    obtain ⟨i1, i2⟩ := sumR_cap2 (s := s) hb n (fun i a c => q i a (by omega))
    have e : ((n + 1 : Nat) : Int) * u = (n : Int) * u + u := by rw [Int.natCast_add, Int.add_mul]; simp
    rw [e]
    show sumR g s n + g (s + (n : Int)) ≤ _ ∧ (_ → _ → sumR g s n + g (s + (n : Int)) < _)
    have q1 := q (s + (n : Int)) (by omega) (by omega)
    refine ⟨by omega, fun a c => ?_⟩
    by_cases r : b = s + (n : Int)
    · rw [← r]; omega
    · have := i2 a (by omega); omega
theorem lb_room {fsz fco ffu fsu fbb fmo gk gwt gct B0 CU F GK GC GW : Int → Int} {d : Nat} {s e T b : Int} (h : LBp fsz fco ffu fsu fbb fmo gk gwt gct B0 d s e T CU F GK GC GW) (hb0 : 0 ≤ b) (hb : b < fsz (d : Int)) (hc : CU b < e) : T - e < (e - s) * fsz (d : Int) := by
  obtain ⟨l1, l2, l3, l4, l5, l6, l7, l8, l9, l10⟩ := h
  have := (sumR_cap2 (g := fun c => CU c - s) (s := 0) (u := e - s) (b := b) (by show CU b - s < e - s; omega) (fsz (d : Int)).toNat (fun i i1 i2 => by
    have := (l2 i i1 (by omega)).1
    show CU i - s ≤ e - s
    omega)).2 hb0 (by omega)
  rw [Int.toNat_of_nonneg (by omega), Int.mul_comm] at this
  omega
theorem sumR_one {g : Int → Int} {s : Int} : ∀ n : Nat, (∀ i, s ≤ i → i < s + (n : Int) → g i = 1) → sumR g s n = (n : Int)
  | 0, _ => rfl
  | n + 1, q => by
    show sumR g s n + g (s + (n : Int)) = _
    rw [sumR_one n (fun i a b => q i a (by omega)), q _ (by omega) (by omega)]
    omega
/-- the count of a layer's nodes -/
theorem lo_cn {fsz fco ffu fsu fbb fmo gk gwt gct : Int → Int} {d : Nat} {s e : Int} (hse : s ≤ e) (h : LO fsz fco ffu fsu fbb fmo d s e gk gwt gct) : e - s = cn fsz ffu fsu fbb fmo d := by
  obtain ⟨o1, o2, o3⟩ := h
  obtain ⟨n, hn⟩ : ∃ n : Nat, e = s + (n : Int) := ⟨(e - s).toNat, by omega⟩
  have := sum_keys (g := fun k => if 0 < wt fsz ffu fsu fbb fmo d k then 1 else 0) (gk := gk) (s := s) n 32768 (fun i j i1 i2 i3 => o2 i j i1 i2 (by omega)) (fun i i1 i2 => by
    have := (o1 i i1 (by omega)).1
    unfold vk at this
    omega) (fun k k1 k2 k3 => by
    by_cases q : 0 < wt fsz ffu fsu fbb fmo d k
    · obtain ⟨i, i1, i2, i3⟩ := o3 k q
      exact ⟨i, i1, by omega, i3⟩
    · exact absurd (if_neg q) k3)
  rw [sumR_one n (fun i i1 i2 => by
    have q := o1 i i1 (by omega)
    show (if 0 < wt fsz ffu fsu fbb fmo d (gk i) then (1 : Int) else 0) = 1
    rw [if_pos (by rw [← q.2.1]; exact q.2.2.1)])] at this
  unfold cn
  rw [← this]
  omega
/-- what a choice leads to from a node -/
def LK (fsz ffu fsu fbb fmo gk : Int → Int) (d : Nat) (s e T : Int) (F GK : Int → Int) : Prop :=
  ∀ c i, 0 ≤ c → c < fsz (d : Int) → s ≤ i → i < e → (kn fbb ffu fsu fmo ((d : Int) * 6 + c) c (gk i) = -1 ∧ F (i * 6 + c) = -1) ∨ ((e ≤ F (i * 6 + c) ∧ F (i * 6 + c) < T) ∧ GK (F (i * 6 + c)) = kn fbb ffu fsu fmo ((d : Int) * 6 + c) c (gk i) ∧ ¬ kn fbb ffu fsu fmo ((d : Int) * 6 + c) c (gk i) = -1)
theorem lb_done {fsz fco ffu fsu fbb fmo gk gwt gct B0 CU F GK GC GW : Int → Int} {d : Nat} {s e T : Int} (hT : TB fsz fco ffu fsu fbb fmo) (hd : d < 12) (hL : LO fsz fco ffu fsu fbb fmo d s e gk gwt gct) (h : LBp fsz fco ffu fsu fbb fmo gk gwt gct B0 d s e T CU F GK GC GW) (hall : ∀ c, 0 ≤ c → c < fsz (d : Int) → e ≤ CU c) :
    LO fsz fco ffu fsu fbb fmo (d + 1) e T GK GW GC ∧ LK fsz ffu fsu fbb fmo gk d s e T F GK := by
  obtain ⟨l1, l2, l3, l4, l5, l6, l7, l8, l9, l10⟩ := h
  have hk : LK fsz ffu fsu fbb fmo gk d s e T F GK := fun c i c1 c2 i1 i2 => l4 c i c1 c2 i1 (by have := hall c c1 c2; omega)
  refine ⟨⟨l7, l5, fun k q => ?_⟩, hk⟩
  have hsz := hT.1 (d : Int) (by omega) (by omega)
  obtain ⟨j, j1, j2, j3, j4⟩ := wt_from q
  obtain ⟨i, i1, i2, i3⟩ := hL.2.2 j j2
  rw [← i3] at j4
  rcases hk (k % 8 - 1) i j3.1 j3.2 i1 i2 with ⟨x, -⟩ | ⟨x1, x2, x3⟩
  · rw [j4] at x; omega
  · exact ⟨F (i * 6 + (k % 8 - 1)), x1.1, x1.2, by rw [x2, j4]⟩
theorem wt_pos {fsz fco ffu fsu fbb fmo : Int → Int} (hT : TB fsz fco ffu fsu fbb fmo) {d : Nat} (hd : d < 12) {c k : Int} (hc0 : 0 ≤ c) (hc : c < fsz (d : Int)) (hk : vk k) (hw : 0 < wt fsz ffu fsu fbb fmo d k) (h : ¬ kn fbb ffu fsu fmo ((d : Int) * 6 + c) c k = -1) : 0 < wt fsz ffu fsu fbb fmo (d + 1) (kn fbb ffu fsu fmo ((d : Int) * 6 + c) c k) := by
  have hsz := hT.1 (d : Int) (by omega) (by omega)
  have h1 := kn_vk hT (by omega) (by omega) hc0 (by omega) hk h
  generalize hK : kn fbb ffu fsu fmo ((d : Int) * 6 + c) c k = K at h1 ⊢
  have hK8 : K % 8 - 1 = c := by omega
  have := sumR_term (g := fun j => if (0 ≤ K % 8 - 1 ∧ K % 8 - 1 < fsz (d : Int)) ∧ kn fbb ffu fsu fmo ((d : Int) * 6 + (K % 8 - 1)) (K % 8 - 1) j = K then wt fsz ffu fsu fbb fmo d j else 0) (s := 0) (fun i => by
    show 0 ≤ (if (0 ≤ K % 8 - 1 ∧ K % 8 - 1 < fsz (d : Int)) ∧ kn fbb ffu fsu fmo ((d : Int) * 6 + (K % 8 - 1)) (K % 8 - 1) i = K then wt fsz ffu fsu fbb fmo d i else 0)
    split
    · exact wt_nn d i
    · exact Int.le_refl 0) 32768 k (by unfold vk at hk; omega) (by unfold vk at hk; omega)
  have e1 : (if (0 ≤ K % 8 - 1 ∧ K % 8 - 1 < fsz (d : Int)) ∧ kn fbb ffu fsu fmo ((d : Int) * 6 + (K % 8 - 1)) (K % 8 - 1) k = K then wt fsz ffu fsu fbb fmo d k else 0) = wt fsz ffu fsu fbb fmo d k := by
    rw [hK8, if_pos ⟨⟨hc0, hc⟩, hK⟩]
  have h3 : wt fsz ffu fsu fbb fmo d k ≤ wt fsz ffu fsu fbb fmo (d + 1) K := by
    rw [← e1]; exact this
  omega
theorem lb_full {fsz fco ffu fsu fbb fmo gk gwt gct B0 CU F GK GC GW : Int → Int} (hT : TB fsz fco ffu fsu fbb fmo) {d : Nat} (hd : d < 12) {s e T b : Int} (hL : LO fsz fco ffu fsu fbb fmo d s e gk gwt gct) (h : LBp fsz fco ffu fsu fbb fmo gk gwt gct B0 d s e T CU F GK GC GW) (hb0 : 0 ≤ b) (hb : b < fsz (d : Int)) (hc : CU b < e) (h4 : T = e + 400) : 400 < cn fsz ffu fsu fbb fmo (d + 1) := by
  obtain ⟨l1, l2, l3, l4, l5, l6, l7, l8, l9, l10⟩ := h
  have hsz := hT.1 (d : Int) (by omega) (by omega)
  have hsb := (l2 b hb0 hb).1
  have q := hL.1 (CU b) (by omega) hc
  have hk1 := (l2 b hb0 hb).2 hc
  have hv := kn_vk hT (by omega) (by omega) hb0 (by omega) q.1 hk1
  have hw := wt_pos hT hd hb0 hb q.1 (by rw [← q.2.1]; exact q.2.2.1) hk1
  generalize hK : kn fbb ffu fsu fmo ((d : Int) * 6 + b) b (gk (CU b)) = K at hk1 hv hw
  have h6 : ∀ m, e ≤ m → m < T → GK m < K := fun m m1 m2 => by rw [← hK]; exact l6 m b m1 m2 hb0 hb hc
  have := sum_keys_le (g := fun k => if 0 < wt fsz ffu fsu fbb fmo (d + 1) k then 1 else 0) (gk := uZ GK T K) (s := e) (fun k => by
    show 0 ≤ (if 0 < wt fsz ffu fsu fbb fmo (d + 1) k then (1 : Int) else 0)
    split <;> omega) 401 32768 (fun i j i1 i2 i3 => by
    rw [uZ_n (by omega)]
    by_cases r : j = T
    · subst r; rw [uZ_s]; exact h6 i i1 i2
    · rw [uZ_n r]; exact l5 i j i1 i2 (by omega)) (fun i i1 i2 => by
    by_cases r : i = T
    · subst r; rw [uZ_s]; have := hv.1; unfold vk at this; omega
    · rw [uZ_n r]; have := (l7 i i1 (by omega)).1; unfold vk at this; omega)
  rw [sumR_one 401 (fun i i1 i2 => by
    show (if 0 < wt fsz ffu fsu fbb fmo (d + 1) (uZ GK T K i) then (1 : Int) else 0) = 1
    by_cases r : i = T
    · subst r; rw [uZ_s, if_pos hw]
    · rw [uZ_n r, if_pos (by have := l7 i i1 (by omega); rw [← this.2.1]; exact this.2.2.1)])] at this
  unfold cn
  exact Int.lt_of_lt_of_le (show (400 : Int) < ((401 : Nat) : Int) by decide) this
theorem ct_rng {fsz fco ffu fsu fbb fmo : Int → Int} (hT : TB fsz fco ffu fsu fbb fmo) : ∀ (d : Nat) (k : Int), d ≤ 12 → 0 < wt fsz ffu fsu fbb fmo d k → -(1000 * (d : Int)) ≤ ct fsz fco ffu fsu fbb fmo d k ∧ ct fsz fco ffu fsu fbb fmo d k ≤ 1000 * (d : Int) := by
  intro d
  induction d with
  | zero => intro k _ _; unfold ct; omega
  | succ d ih =>
    intro k hd hw
    obtain ⟨j, j1, j2, j3, j4⟩ := wt_from hw
    have hsz := hT.1 (d : Int) (by omega) (by omega)
    have hco := hT.2.1 ((d : Int) * 6 + (k % 8 - 1)) (by omega) (by omega)
    have hj := ih j (by omega) j2
    have up := minR_le (P := fun j => 0 < wt fsz ffu fsu fbb fmo d j ∧ kn fbb ffu fsu fmo ((d : Int) * 6 + (k % 8 - 1)) (k % 8 - 1) j = k) (v := fun j => ct fsz fco ffu fsu fbb fmo d j + fco ((d : Int) * 6 + (k % 8 - 1))) (s := 0) 32768 j j1.1 (by omega) ⟨j2, j4⟩
    have lo := minR_ge (P := fun j => 0 < wt fsz ffu fsu fbb fmo d j ∧ kn fbb ffu fsu fmo ((d : Int) * 6 + (k % 8 - 1)) (k % 8 - 1) j = k) (v := fun j => ct fsz fco ffu fsu fbb fmo d j + fco ((d : Int) * 6 + (k % 8 - 1))) (s := 0) (lo := -(1000 * ((d : Int) + 1))) (by omega) 32768 (fun i i1 i2 q => by
      have := ih i (by omega) q.1
      show _ ≤ ct fsz fco ffu fsu fbb fmo d i + fco ((d : Int) * 6 + (k % 8 - 1))
      omega)
    unfold ct
    try dsimp only at up
    omega
