/-! THE MODEL'S LAYERS: keys of places, nodes in their order -/
def kk (x : Int) : Int := x / 287 * 512 + x / 7 % 41 * 8 + x % 7
theorem kk_r {x : Int} (h : 0 ≤ x ∧ x < 11767) : vk (kk x) ∧ kat (kk x) = x := by
  have h1 : 0 ≤ x / 287 ∧ x / 287 ≤ 40 := by omega
  have h2 : 0 ≤ x / 7 % 41 ∧ x / 7 % 41 ≤ 40 := by omega
  have h3 : 0 ≤ x % 7 ∧ x % 7 ≤ 6 := by omega
  have h4 : x = (41 * (x / 287) + x / 7 % 41) * 7 + x % 7 := by omega
  unfold vk kat kk
  generalize x / 287 = a at *
  generalize x / 7 % 41 = b at *
  generalize x % 7 = f at *
  omega
theorem kk_k {k : Int} (h : vk k) : kk (kat k) = k := by
  obtain ⟨h1, h2, h3, h4⟩ := kat_r h
  have h5 : kat k / 287 = k / 512 := by omega
  unfold kk
  rw [h3, h4, h5]
  unfold vk at h
  omega
theorem lex_1 {a b f a' b' f' : Int} (hb : 0 ≤ b ∧ b ≤ 40) (hf : 0 ≤ f ∧ f ≤ 6) (hb' : 0 ≤ b' ∧ b' ≤ 40) (hf' : 0 ≤ f' ∧ f' ≤ 6) : (41 * a + b) * 7 + f < (41 * a' + b') * 7 + f' ↔ a * 512 + b * 8 + f < a' * 512 + b' * 8 + f' := by
  rcases Int.lt_trichotomy a a' with q | q | q
  · constructor <;> intro <;> omega
  · subst q
    rcases Int.lt_trichotomy b b' with r | r | r
    · constructor <;> intro <;> omega
    · subst r; constructor <;> intro <;> omega
    · constructor <;> intro <;> omega
  · constructor <;> intro <;> omega
theorem kk_lt {x y : Int} (hx : 0 ≤ x) (h : x < y) (hy : y < 11767) : kk x < kk y := by
  have h1 : x = (41 * (x / 287) + x / 7 % 41) * 7 + x % 7 := by omega
  have h2 : y = (41 * (y / 287) + y / 7 % 41) * 7 + y % 7 := by omega
  unfold kk
  exact (lex_1 (by omega) (by omega) (by omega) (by omega)).mp (by rw [← h1, ← h2]; exact h)
theorem kat_lt {k j : Int} (hk : vk k) (hj : vk j) (h : k < j) : kat k < kat j := by
  unfold vk at hk hj
  have h1 : k = k / 512 * 512 + k / 8 % 64 * 8 + k % 8 := by omega
  have h2 : j = j / 512 * 512 + j / 8 % 64 * 8 + j % 8 := by omega
  unfold kat
  exact (lex_1 (by omega) (by omega) (by omega) (by omega)).mpr (by rw [← h1, ← h2]; exact h)
/-- settled so far: the places below x of layer d -/
def SEp (X : Int → Prop) (d x m : Int) (na no : Int → Int) : Prop :=
  (0 ≤ m ∧ m ≤ 400) ∧ EN (fun k => X k ∧ vk k ∧ kat k < x) m (fun i => kk (na (400 * d + i) - 11767 * d)) ∧ ∀ i, 0 ≤ i → i < m → (11767 * d ≤ na (400 * d + i) ∧ na (400 * d + i) < 11767 * d + x) ∧ no (na (400 * d + i)) = i
theorem se_0 {X : Int → Prop} {d : Int} {na no : Int → Int} : SEp X d 0 0 na no :=
  ⟨by omega, ⟨by omega, fun i j a b c => by omega, fun E => ⟨fun ⟨i, a, b, _⟩ => by omega, fun q => by have := (kat_r q.2.1).1; omega⟩⟩, fun i a b => by omega⟩
theorem se_n {X : Int → Prop} {d x m : Int} {na no : Int → Int} (h : SEp X d x m na no) (hx : 0 ≤ x ∧ x < 11767) (hX : ¬ X (kk x)) : SEp X d (x + 1) m na no := by
  obtain ⟨h1, ⟨h2, h3, h4⟩, h5⟩ := h
  refine ⟨h1, ⟨h2, h3, fun E => ?_⟩, fun i a b => by have := h5 i a b; omega⟩
  rw [h4 E]
  constructor
  · intro q; exact ⟨q.1, q.2.1, by omega⟩
  · intro q
    refine ⟨q.1, q.2.1, ?_⟩
    by_cases z : kat E = x
    · exfalso; apply hX; rw [← z, kk_k q.2.1]; exact q.1
    · omega
theorem se_y {X : Int → Prop} {d x m : Int} {na no : Int → Int} (h : SEp X d x m na no) (hx : 0 ≤ x ∧ x < 11767) (hX : X (kk x)) (hm : m < 400) : SEp X d (x + 1) (m + 1) (uZ na (400 * d + m) (11767 * d + x)) (uZ no (11767 * d + x) m) := by
  obtain ⟨h1, ⟨h2, h3, h4⟩, h5⟩ := h
  have hv := kk_r hx
  refine ⟨by omega, ⟨by omega, fun i j a b c => ?_, fun E => ?_⟩, fun i a b => ?_⟩
  · by_cases q : j = m
    · subst q
      show kk (uZ na (400 * d + j) (11767 * d + x) (400 * d + i) - 11767 * d) < kk (uZ na (400 * d + j) (11767 * d + x) (400 * d + j) - 11767 * d)
      rw [uZ_s, uZ_n (by omega), show 11767 * d + x - 11767 * d = x by omega]
      have := h5 i a b
      exact kk_lt (by omega) (by omega) hx.2
    · show kk (uZ na (400 * d + m) (11767 * d + x) (400 * d + i) - 11767 * d) < kk (uZ na (400 * d + m) (11767 * d + x) (400 * d + j) - 11767 * d)
      rw [uZ_n (by omega), uZ_n (by omega)]; exact h3 i j a b (by omega)
  · constructor
    · intro ⟨i, a, b, q⟩
      have q : kk (uZ na (400 * d + m) (11767 * d + x) (400 * d + i) - 11767 * d) = E := q
      by_cases z : i = m
      · subst z
        rw [uZ_s, show 11767 * d + x - 11767 * d = x by omega] at q
        subst q
        exact ⟨hX, hv.1, by rw [hv.2]; omega⟩
      · rw [uZ_n (by omega)] at q
        have := (h4 E).mp ⟨i, a, by omega, q⟩
        exact ⟨this.1, this.2.1, by have := this.2.2; omega⟩
    · intro q
      by_cases z : kat E = x
      · refine ⟨m, by omega, by omega, ?_⟩
        show kk (uZ na (400 * d + m) (11767 * d + x) (400 * d + m) - 11767 * d) = E
        rw [uZ_s, show 11767 * d + x - 11767 * d = x by omega, ← z, kk_k q.2.1]
      · obtain ⟨i, a, b, r⟩ := (h4 E).mpr ⟨q.1, q.2.1, by have := q.2.2; omega⟩
        refine ⟨i, a, by omega, ?_⟩
        show kk (uZ na (400 * d + m) (11767 * d + x) (400 * d + i) - 11767 * d) = E
        rw [uZ_n (by omega)]; exact r
  · by_cases z : i = m
    · subst z; rw [uZ_s, uZ_s]; omega
    · have := h5 i a (by omega)
      rw [uZ_n (show 400 * d + i ≠ 400 * d + m by omega), uZ_n (by omega)]; omega
theorem sumR_1s {g : Int → Int} {s : Int} : ∀ n : Nat, (∀ i, s ≤ i → i < s + (n : Int) → g i = 1) → sumR g s n = (n : Int)
  | 0, _ => rfl
  | n + 1, h => by
    show sumR g s n + g (s + (n : Int)) = _
    rw [sumR_1s n (fun i a b => h i a (by omega)), h _ (by omega) (by omega)]; omega
theorem se_full {fsz fco ffu fsu fbb fmo : Int → Int} {dd : Nat} {x : Int} {na no : Int → Int} (h : SEp (fun k => 0 < wt fsz ffu fsu fbb fmo dd k) (dd : Int) x 400 na no) (hx : 0 ≤ x ∧ x < 11767) (hX : 0 < wt fsz ffu fsu fbb fmo dd (kk x)) : ¬ cn fsz ffu fsu fbb fmo dd ≤ 400 := by
  obtain ⟨h1, ⟨h2, h3, h4⟩, h5⟩ := h
  have hv := kk_r hx
  have hK : ∀ i, 0 ≤ i → i < 400 → (0 < wt fsz ffu fsu fbb fmo dd (kk (na (400 * (dd : Int) + i) - 11767 * (dd : Int))) ∧ vk (kk (na (400 * (dd : Int) + i) - 11767 * (dd : Int)))) ∧ kk (na (400 * (dd : Int) + i) - 11767 * (dd : Int)) < kk x := by
    intro i a b
    have q := (h4 _).mp ⟨i, a, b, rfl⟩
    refine ⟨⟨q.1, q.2.1⟩, ?_⟩
    have q3 := h5 i a b
    exact kk_lt (by omega) (by omega) hx.2
  have hle := sum_keys_le (g := fun k => if 0 < wt fsz ffu fsu fbb fmo dd k then (1 : Int) else 0) (gk := uZ (fun i => kk (na (400 * (dd : Int) + i) - 11767 * (dd : Int))) 400 (kk x)) (s := 0) (fun k => by show 0 ≤ (if 0 < wt fsz ffu fsu fbb fmo dd k then (1 : Int) else 0); split <;> omega) 401 32768
    (fun i j a b c => by
      by_cases q : j = 400
      · subst q; rw [uZ_s, uZ_n (by omega)]; exact (hK i a (by omega)).2
      · rw [uZ_n q, uZ_n (by omega)]; exact h3 i j a b (by omega))
    (fun i a b => by
      by_cases q : i = 400
      · subst q; rw [uZ_s]; have := hv.1; unfold vk at this; omega
      · rw [uZ_n q]; have := (hK i a (by omega)).1.2; unfold vk at this; omega)
  rw [sumR_1s 401 (fun i a b => by
    by_cases q : i = 400
    · subst q; rw [uZ_s]; exact if_pos hX
    · rw [uZ_n q]; exact if_pos (hK i a (by omega)).1.1)] at hle
  intro q
  have : ((401 : Nat) : Int) ≤ cn fsz ffu fsu fbb fmo dd := hle
  omega
/-- a layer of the model is settled -/
def ME (fsz ffu fsu fbb fmo : Int → Int) (d : Nat) (m : Int) (na no : Int → Int) : Prop :=
  (m = cn fsz ffu fsu fbb fmo d ∧ 0 ≤ m ∧ m ≤ 400) ∧ EN (fun k => 0 < wt fsz ffu fsu fbb fmo d k) m (fun i => kk (na (400 * (d : Int) + i) - 11767 * (d : Int))) ∧ ∀ i, 0 ≤ i → i < m → (11767 * (d : Int) ≤ na (400 * (d : Int) + i) ∧ na (400 * (d : Int) + i) < 11767 * (d : Int) + 11767) ∧ no (na (400 * (d : Int) + i)) = i
theorem en_cn {fsz fco ffu fsu fbb fmo : Int → Int} (hT : TB fsz fco ffu fsu fbb fmo) {d : Nat} (hd : d ≤ 12) {m : Int} {K : Int → Int} (h : EN (fun k => 0 < wt fsz ffu fsu fbb fmo d k) m K) : m = cn fsz ffu fsu fbb fmo d := by
  have := lo_cn (fco := fco) (s := 0) (e := m) (gk := K) (gwt := fun i => wt fsz ffu fsu fbb fmo d (K i)) (gct := fun i => ct fsz fco ffu fsu fbb fmo d (K i)) h.1 ⟨fun i a b => by
    have q := (h.2.2 (K i)).mp ⟨i, a, b, rfl⟩
    exact ⟨wt_vk hT d _ hd q, rfl, q, rfl⟩, h.2.1, fun k q => by
    obtain ⟨i, a, b, r⟩ := (h.2.2 k).mpr q
    exact ⟨i, a, b, r⟩⟩
  omega
theorem se_e {fsz fco ffu fsu fbb fmo : Int → Int} (hT : TB fsz fco ffu fsu fbb fmo) {d : Nat} (hd : d ≤ 12) {x m : Int} {na no : Int → Int} (h : SEp (fun k => 0 < wt fsz ffu fsu fbb fmo d k) (d : Int) x m na no) (hx : x = 11767) : ME fsz ffu fsu fbb fmo d m na no := by
  subst hx
  obtain ⟨h1, ⟨h2, h3, h4⟩, h5⟩ := h
  have hE : EN (fun k => 0 < wt fsz ffu fsu fbb fmo d k) m (fun i => kk (na (400 * (d : Int) + i) - 11767 * (d : Int))) := ⟨h2, h3, fun E => (h4 E).trans ⟨fun q => q.1, fun q => ⟨q, wt_vk hT d E hd q, (kat_r (wt_vk hT d E hd q)).1.2⟩⟩⟩
  exact ⟨⟨en_cn hT hd hE, h1⟩, hE, h5⟩
theorem sum_blk {g : Int → Int} {q u : Int} (hu : 0 ≤ u) (h0 : ∀ j, 0 ≤ j → ¬ j / 8 = q → g j = 0) (h1 : ∀ j, 0 ≤ j → g j ≤ u) : ∀ n : Nat, sumR g 0 n ≤ u * max 0 (min ((n : Int) - 8 * q) 8)
  | 0 => Int.mul_nonneg hu (by omega)
  | n + 1 => by
    show sumR g 0 n + g (0 + (n : Int)) ≤ _
    have ih := sum_blk hu h0 h1 n
    rw [Int.zero_add]
    by_cases z : (n : Int) / 8 = q
    · have hg := h1 n (by omega)
      rw [show max 0 (min (((n + 1 : Nat) : Int) - 8 * q) 8) = max 0 (min ((n : Int) - 8 * q) 8) + 1 by omega, Int.mul_add, Int.mul_one]
      omega
    · rw [h0 n (by omega) z, Int.add_zero]
      exact Int.le_trans ih (Int.mul_le_mul_of_nonneg_left (by omega) hu)
theorem wt_ub {fsz fco ffu fsu fbb fmo : Int → Int} (hT : TB fsz fco ffu fsu fbb fmo) : ∀ (d : Nat) (k : Int), d ≤ 12 → wt fsz ffu fsu fbb fmo d k ≤ 8 ^ d
  | 0, k, _ => by
    show (if k = 0 then (1 : Int) else 0) ≤ 1
    split <;> omega
  | d + 1, k, hd => by
    have ih := fun j => wt_ub hT d j (by omega)
    have hp : (0 : Int) ≤ 8 ^ d := Int.le_of_lt (pw8p d)
    have hsz := hT.1 (d : Int) (by omega) (by omega)
    have h := sum_blk (g := fun j => if (0 ≤ k % 8 - 1 ∧ k % 8 - 1 < fsz (d : Int)) ∧ kn fbb ffu fsu fmo ((d : Int) * 6 + (k % 8 - 1)) (k % 8 - 1) j = k then wt fsz ffu fsu fbb fmo d j else 0) (q := (k - (ffu ((d : Int) * 6 + (k % 8 - 1)) * 512 + fsu ((d : Int) * 6 + (k % 8 - 1)) * 8 + (k % 8 - 1 + 1))) / 8) hp (fun j h1 h2 => by
      show (if (0 ≤ k % 8 - 1 ∧ k % 8 - 1 < fsz (d : Int)) ∧ kn fbb ffu fsu fmo ((d : Int) * 6 + (k % 8 - 1)) (k % 8 - 1) j = k then wt fsz ffu fsu fbb fmo d j else 0) = 0
      apply if_neg
      intro q
      by_cases z : k = -1
      · subst z; omega
      · have := kn_val h1 (show ¬ kn fbb ffu fsu fmo ((d : Int) * 6 + (k % 8 - 1)) (k % 8 - 1) j = -1 from fun y => z (q.2.symm.trans y))
        rw [q.2] at this
        omega) (fun j _ => by
      show (if (0 ≤ k % 8 - 1 ∧ k % 8 - 1 < fsz (d : Int)) ∧ kn fbb ffu fsu fmo ((d : Int) * 6 + (k % 8 - 1)) (k % 8 - 1) j = k then wt fsz ffu fsu fbb fmo d j else 0) ≤ 8 ^ d
      split
      · exact ih j
      · exact hp) 32768
    refine Int.le_trans h ?_
    rw [Int.pow_succ]
    exact Int.mul_le_mul_of_nonneg_left (by omega) hp
theorem p8_12 {d : Nat} (h : d ≤ 12) : (8 : Int) ^ d ≤ 68719476736 := by
  have : ∀ d : Nat, d ≤ 12 → (8 : Int) ^ d ≤ 68719476736 := by decide
  exact this d h
