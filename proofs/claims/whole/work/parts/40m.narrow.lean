/-! NARROW: longs put together and taken apart; counts; merges -/
theorem lI_orK {a b q d : Int} (k : Nat) (hk : (2 : Int) ^ k = d) (ha : a = q * d) (h0 : 0 ≤ q) (hb0 : 0 ≤ b) (hb : b < d) (hs : a + b < 18446744073709551616) : lI a ||| lI b = lI (a + b) := by
  subst hk
  obtain ⟨n, rfl⟩ : ∃ n : Nat, q = (n : Int) := ⟨q.toNat, by omega⟩
  obtain ⟨w, rfl⟩ : ∃ w : Nat, b = (w : Int) := ⟨b.toNat, by omega⟩
  have ha2 : a = ((n * 2 ^ k : Nat) : Int) := by rw [ha, Int.natCast_mul, Int.natCast_pow]; rfl
  have hw : w < 2 ^ k := by
    have : ((w : Nat) : Int) < ((2 ^ k : Nat) : Int) := by rw [Int.natCast_pow]; exact hb
    omega
  rw [ha2] at hs ⊢
  apply Int64.toBitVec_inj.mp
  apply BitVec.eq_of_toNat_eq
  rw [Int64.toBitVec_or, BitVec.toNat_or, lI_bv, lI_bv, lI_bv]
  rw [Int.emod_eq_of_lt (by omega) (by omega), Int.emod_eq_of_lt (by omega) (by omega), Int.emod_eq_of_lt (by omega) (by omega)]
  show (n * 2 ^ k) ||| w = ((n * 2 ^ k : Nat) + (w : Nat) : Nat)
  rw [Nat.mul_comm]
  exact (Nat.two_pow_add_eq_or_of_lt hw n).symm
theorem lI_andK {a z d : Int} (k : Nat) (hd : (2 : Int) ^ k = d) (hz : z = d - 1) (ha : 0 ≤ a ∧ a < 9223372036854775808) (hd1 : d < 9223372036854775808) : lI a &&& lI z = lI (a % d) := by
  subst hd
  obtain ⟨n, rfl⟩ : ∃ n : Nat, a = (n : Int) := ⟨a.toNat, by omega⟩
  have hp : (2 : Int) ^ k = ((2 ^ k : Nat) : Int) := by rw [Int.natCast_pow]; rfl
  have h1 : 0 < 2 ^ k := Nat.two_pow_pos k
  rw [hp] at hz hd1 ⊢
  obtain ⟨w, hw⟩ : ∃ w : Nat, 2 ^ k = w + 1 := ⟨2 ^ k - 1, by omega⟩
  have hz2 : z = ((2 ^ k - 1 : Nat) : Int) := by omega
  subst hz2
  apply Int64.toBitVec_inj.mp
  apply BitVec.eq_of_toNat_eq
  rw [Int64.toBitVec_and, BitVec.toNat_and, lI_bv, lI_bv, lI_bv]
  have hm : ((n : Int) % ((2 ^ k : Nat) : Int)) = ((n % 2 ^ k : Nat) : Int) := (Int.natCast_emod n (2 ^ k)).symm
  have hl : n % 2 ^ k ≤ n := Nat.mod_le _ _
  rw [hm, Int.emod_eq_of_lt (by omega) (by omega), Int.emod_eq_of_lt (by omega) (by omega), Int.emod_eq_of_lt (by omega) (by omega)]
  show n &&& (2 ^ k - 1) = n % 2 ^ k
  exact Nat.and_two_pow_sub_one_eq_mod n k
/-- how often v stands among the first k -/
noncomputable def ctN (R : Int → Int) (v : Int) : Nat → Int
  | 0 => 0
  | k + 1 => ctN R v k + (if R (k : Int) = v then 1 else 0)
noncomputable def ctZ (R : Int → Int) (v x : Int) : Int := ctN R v x.toNat
theorem ctZ_0 {R : Int → Int} {v : Int} : ctZ R v 0 = 0 := rfl
theorem ctZ_s {R : Int → Int} {v x : Int} (h : 0 ≤ x) : ctZ R v (x + 1) = ctZ R v x + (if R x = v then 1 else 0) := by
  unfold ctZ
  rw [show (x + 1).toNat = x.toNat + 1 by omega]
  show ctN R v x.toNat + (if R (x.toNat : Int) = v then 1 else 0) = _
  rw [show ((x.toNat : Nat) : Int) = x by omega]
theorem ctN_congr {R T : Int → Int} {v : Int} : ∀ k : Nat, (∀ i : Int, 0 ≤ i → i < k → R i = T i) → ctN R v k = ctN T v k
  | 0, _ => rfl
  | k + 1, h => by
    show ctN R v k + _ = ctN T v k + _
    rw [ctN_congr k (fun i h1 h2 => h i h1 (by omega)), h k (by omega) (by omega)]
theorem ctZ_congr {R T : Int → Int} {v x : Int} (h : ∀ i, 0 ≤ i → i < x → R i = T i) : ctZ R v x = ctZ T v x := by
  unfold ctZ
  by_cases q : 0 ≤ x
  · exact ctN_congr _ (fun i h1 h2 => h i h1 (by omega))
  · rw [show x.toNat = 0 by omega]; rfl
theorem ctN_nn {R : Int → Int} {v : Int} : ∀ k : Nat, 0 ≤ ctN R v k
  | 0 => Int.le_refl 0
  | k + 1 => by
    show 0 ≤ ctN R v k + _
    have := ctN_nn (R := R) (v := v) k
    split <;> omega
theorem ctN_ex {R : Int → Int} {v : Int} : ∀ k : Nat, (0 < ctN R v k ↔ ∃ i, 0 ≤ i ∧ i < (k : Int) ∧ R i = v)
  | 0 => ⟨fun h => absurd h (by show ¬ (0 : Int) < 0; omega), fun ⟨i, h1, h2, _⟩ => by omega⟩
  | k + 1 => by
    show 0 < ctN R v k + _ ↔ _
    have ih := ctN_ex (R := R) (v := v) k
    have hn := ctN_nn (R := R) (v := v) k
    constructor
    · intro h
      by_cases q : R (k : Int) = v
      · exact ⟨k, by omega, by omega, q⟩
      · rw [if_neg q] at h
        obtain ⟨i, h1, h2, h3⟩ := ih.mp (by omega)
        exact ⟨i, h1, by omega, h3⟩
    · intro ⟨i, h1, h2, h3⟩
      by_cases q : R (k : Int) = v
      · rw [if_pos q]; omega
      · rw [if_neg q]
        have : ¬ i = k := fun e => q (by rw [← e]; exact h3)
        have := ih.mpr ⟨i, h1, by omega, h3⟩
        omega
theorem ctZ_ex {R : Int → Int} {v x : Int} (hx : 0 ≤ x) : 0 < ctZ R v x ↔ ∃ i, 0 ≤ i ∧ i < x ∧ R i = v := by
  unfold ctZ
  rw [ctN_ex, show ((x.toNat : Nat) : Int) = x by omega]
theorem ctN_inj {R : Int → Int} {v : Int} : ∀ k : Nat, (∀ i j, 0 ≤ i → i < j → j < (k : Int) → ¬ R i = R j) → ctN R v k ≤ 1
  | 0, _ => by show (0 : Int) ≤ 1; omega
  | k + 1, h => by
    show ctN R v k + _ ≤ 1
    have ih := ctN_inj (R := R) (v := v) k (fun i j h1 h2 h3 => h i j h1 h2 (by omega))
    by_cases q : R (k : Int) = v
    · rw [if_pos q]
      by_cases z : 0 < ctN R v k
      · obtain ⟨i, h1, h2, h3⟩ := (ctN_ex k).mp z
        exact absurd (h3.trans q.symm) (h i k h1 h2 (by omega))
      · omega
    · rw [if_neg q]; omega
theorem ctZ_mono {R : Int → Int} {v x y : Int} (hx : 0 ≤ x) (hy : x ≤ y) : ctZ R v x ≤ ctZ R v y := by
  obtain ⟨n, rfl⟩ : ∃ n : Nat, y = x + n := ⟨(y - x).toNat, by omega⟩
  induction n with
  | zero => rw [show x + ((0 : Nat) : Int) = x by omega]; exact Int.le_refl _
  | succ n ih =>
    have := ih (by omega)
    rw [show x + ((n + 1 : Nat) : Int) = (x + n) + 1 by omega, ctZ_s (by omega)]
    split <;> omega
theorem ctZ_strict {R : Int → Int} {n : Int} (hs : ∀ i j, 0 ≤ i → i < j → j < n → R i ≤ R j) (h1 : ∀ v, ctZ R v n ≤ 1) : ∀ i j, 0 ≤ i → i < j → j < n → R i < R j := by
  intro i j a b c
  have h := hs i j a b c
  by_cases q : R i = R j
  · exfalso
    have e1 := ctZ_s (R := R) (v := R i) (x := j) (by omega)
    rw [if_pos q.symm] at e1
    have e2 : 0 < ctZ R (R i) j := (ctZ_ex (by omega)).mpr ⟨i, a, b, rfl⟩
    have e3 := ctZ_mono (R := R) (v := R i) (x := j + 1) (y := n) (by omega) (by omega)
    have := h1 (R i)
    omega
  · omega
/-- two runs of F merged so far into T -/
def MG (F T0 T : Int → Int) (lf md rt a b x : Int) : Prop :=
  (lf ≤ a ∧ a ≤ md ∧ md ≤ b ∧ b ≤ rt ∧ x - lf = (a - lf) + (b - md)) ∧ (∀ i, i < lf → T i = T0 i) ∧ (∀ v, ctZ T v x - ctZ T v lf = (ctZ F v a - ctZ F v lf) + (ctZ F v b - ctZ F v md)) ∧ (∀ i j, lf ≤ i → i < j → j < x → T i ≤ T j) ∧ (∀ i j, lf ≤ i → i < x → a ≤ j → j < md → T i ≤ F j) ∧ (∀ i j, lf ≤ i → i < x → b ≤ j → j < rt → T i ≤ F j)
theorem mg_0 {F T : Int → Int} {lf md rt : Int} (h1 : lf ≤ md) (h2 : md ≤ rt) : MG F T T lf md rt lf md lf :=
  ⟨by omega, fun _ _ => rfl, fun v => by omega, fun i j a b c => by omega, fun i j a b c => by omega, fun i j a b c => by omega⟩
theorem mg_up {T : Int → Int} {v w x lf : Int} (h0 : 0 ≤ lf) (hl : lf ≤ x) : ctZ (uZ T x w) v (x + 1) - ctZ (uZ T x w) v lf = (ctZ T v x - ctZ T v lf) + (if w = v then 1 else 0) := by
  rw [ctZ_s (by omega), uZ_s, ctZ_congr (R := uZ T x w) (T := T) (x := x) (fun i _ h => uZ_n (by omega)), ctZ_congr (R := uZ T x w) (T := T) (x := lf) (fun i _ h => uZ_n (by omega))]
  omega
theorem mg_a {F T0 T : Int → Int} {lf md rt a b x : Int} (h : MG F T0 T lf md rt a b x) (h0 : 0 ≤ lf) (hs : ∀ i j, lf ≤ i → i < j → j < md → F i ≤ F j) (hx : x < rt) (hc : rt ≤ b ∨ (a < md ∧ F a ≤ F b)) (hsb : ∀ i j, md ≤ i → i < j → j < rt → F i ≤ F j) : MG F T0 (uZ T x (F a)) lf md rt (a + 1) b (x + 1) := by
  obtain ⟨k1, k2, k3, k4, k5, k6⟩ := h
  have ham : a < md := by omega
  refine ⟨by omega, fun i q => by rw [uZ_n (by omega)]; exact k2 i q, fun v => ?_, fun i j q1 q2 q3 => ?_, fun i j q1 q2 q3 q4 => ?_, fun i j q1 q2 q3 q4 => ?_⟩
  · rw [mg_up h0 (by omega), ctZ_s (by omega)]; have := k3 v; omega
  · by_cases e : j = x
    · subst e; rw [uZ_s, uZ_n (by omega)]; exact k5 i a q1 q2 (by omega) ham
    · rw [uZ_n e, uZ_n (by omega)]; exact k4 i j q1 q2 (by omega)
  · by_cases e : i = x
    · subst e; rw [uZ_s]; exact hs a j (by omega) (by omega) q4
    · rw [uZ_n e]; exact k5 i j q1 (by omega) (by omega) q4
  · by_cases e : i = x
    · subst e; rw [uZ_s]
      rcases hc with hc | hc
      · omega
      · by_cases z : j = b
        · subst z; exact hc.2
        · have := hsb b j (by omega) (by omega) q4; omega
    · rw [uZ_n e]; exact k6 i j q1 (by omega) q3 q4
theorem mg_b {F T0 T : Int → Int} {lf md rt a b x : Int} (h : MG F T0 T lf md rt a b x) (h0 : 0 ≤ lf) (hs : ∀ i j, lf ≤ i → i < j → j < md → F i ≤ F j) (hb : b < rt) (hc : md ≤ a ∨ F b < F a) (hsb : ∀ i j, md ≤ i → i < j → j < rt → F i ≤ F j) : MG F T0 (uZ T x (F b)) lf md rt a (b + 1) (x + 1) := by
  obtain ⟨k1, k2, k3, k4, k5, k6⟩ := h
  refine ⟨by omega, fun i q => by rw [uZ_n (by omega)]; exact k2 i q, fun v => ?_, fun i j q1 q2 q3 => ?_, fun i j q1 q2 q3 q4 => ?_, fun i j q1 q2 q3 q4 => ?_⟩
  · rw [mg_up h0 (by omega), ctZ_s (x := b) (by omega)]; have := k3 v; omega
  · by_cases e : j = x
    · subst e; rw [uZ_s, uZ_n (by omega)]; exact k6 i b q1 q2 (by omega) hb
    · rw [uZ_n e, uZ_n (by omega)]; exact k4 i j q1 q2 (by omega)
  · by_cases e : i = x
    · subst e; rw [uZ_s]
      rcases hc with hc | hc
      · omega
      · by_cases z : j = a
        · subst z; omega
        · have := hs a j (by omega) (by omega) q4; omega
    · rw [uZ_n e]; exact k5 i j q1 (by omega) q3 q4
  · by_cases e : i = x
    · subst e; rw [uZ_s]; exact hsb b j (by omega) (by omega) q4
    · rw [uZ_n e]; exact k6 i j q1 (by omega) (by omega) q4
/-- merged -/
def MD (F T0 T : Int → Int) (lf rt : Int) : Prop := (∀ i, i < lf → T i = T0 i) ∧ (∀ v, ctZ T v rt - ctZ T v lf = ctZ F v rt - ctZ F v lf) ∧ (∀ i j, lf ≤ i → i < j → j < rt → T i ≤ T j)
theorem mg_e {F T0 T : Int → Int} {lf md rt a b x : Int} (h : MG F T0 T lf md rt a b x) (hx : rt ≤ x) : MD F T0 T lf rt := by
  obtain ⟨k1, k2, k3, k4, k5, k6⟩ := h
  have e1 : x = rt := by omega
  have e2 : a = md := by omega
  have e3 : b = rt := by omega
  subst e1 e2 e3
  exact ⟨k2, fun v => by have := k3 v; omega, k4⟩
/-- runs of the length w stand in order -/
def BS (F : Int → Int) (n w : Int) : Prop := ∀ q : Nat, ∀ i j, (q : Int) * w ≤ i → i < j → j < (q : Int) * w + w → j < n → F i ≤ F j
theorem bs_1 {F : Int → Int} {n : Int} : BS F n 1 := fun q i j h1 h2 h3 _ => by omega
theorem bs_e {F : Int → Int} {n w : Int} (h : BS F n w) (hn : n ≤ w) : ∀ i j, 0 ≤ i → i < j → j < n → F i ≤ F j :=
  fun i j h1 h2 h3 => h 0 i j (by omega) h2 (by omega) h3
/-- the pass so far, up to lf -/
def SP (F T : Int → Int) (n w lf : Int) : Prop := (∃ q : Nat, lf = (q : Int) * (2 * w) ∧ ∀ q' : Nat, q' < q → ∀ i j, (q' : Int) * (2 * w) ≤ i → i < j → j < (q' : Int) * (2 * w) + 2 * w → j < n → T i ≤ T j) ∧ ∀ v, ctZ T v (min lf n) = ctZ F v (min lf n)
theorem sp_0 {F T : Int → Int} {n w : Int} (hn : 0 ≤ n) : SP F T n w 0 := ⟨⟨0, by omega, fun q' h => by omega⟩, fun v => by rw [show min 0 n = 0 by omega]; rfl⟩
theorem sp_bs {F T : Int → Int} {n w lf : Int} (h : SP F T n w lf) (hb : BS F n w) : (∀ i j, lf ≤ i → i < j → j < min (lf + w) n → F i ≤ F j) ∧ (∀ i j, min (lf + w) n ≤ i → i < j → j < min (min (lf + w) n + w) n → F i ≤ F j) := by
  obtain ⟨⟨q, h1, -⟩, -⟩ := h
  have e1 : ((2 * q : Nat) : Int) * w = lf := by rw [h1, Int.natCast_mul, Int.mul_comm ((2 : Nat) : Int) (q : Int), Int.mul_assoc]; rfl
  have e2 : ((2 * q + 1 : Nat) : Int) * w = lf + w := by rw [Int.natCast_add, Int.add_mul, e1]; omega
  constructor
  · intro i j a b c
    exact hb (2 * q) i j (by omega) b (by omega) (by omega)
  · intro i j a b c
    exact hb (2 * q + 1) i j (by omega) b (by omega) (by omega)
theorem sp_s {F T T' : Int → Int} {n w lf : Int} (h : SP F T n w lf) (h0 : 0 ≤ lf) (hw : 0 < w) (hl : lf < n) (hm : MD F T T' lf (min (min (lf + w) n + w) n)) : SP F T' n w (lf + 2 * w) := by
  obtain ⟨⟨q, h1, h2⟩, h3⟩ := h
  obtain ⟨m1, m2, m3⟩ := hm
  have er : min (min (lf + w) n + w) n = min (lf + 2 * w) n := by omega
  rw [er] at m2 m3
  refine ⟨⟨q + 1, by rw [h1, Int.natCast_add, Int.add_mul]; omega, fun q' hq i j a b c d => ?_⟩, fun v => ?_⟩
  · by_cases e : q' = q
    · subst e; exact m3 i j (by omega) b (by omega)
    · have hqq : ((q' : Nat) : Int) + 1 ≤ q := by omega
      have hmul := Int.mul_le_mul_of_nonneg_right hqq (show 0 ≤ 2 * w by omega)
      rw [Int.add_mul] at hmul
      rw [m1 i (by omega), m1 j (by omega)]
      exact h2 q' (by omega) i j a b c d
  · have e1 := m2 v
    have e2 := h3 v
    rw [show min lf n = lf by omega] at e2
    rw [ctZ_congr (R := T') (T := T) (x := lf) (fun i _ q => m1 i q)] at e1
    omega
theorem sp_e {F T : Int → Int} {n w lf : Int} (h : SP F T n w lf) (hw : 0 < w) (hl : n ≤ lf) : BS T n (2 * w) ∧ ∀ v, ctZ T v n = ctZ F v n := by
  obtain ⟨⟨q, h1, h2⟩, h3⟩ := h
  refine ⟨fun q' i j a b c d => ?_, fun v => by have := h3 v; rw [show min lf n = n by omega] at this; exact this⟩
  by_cases e : q' < q
  · exact h2 q' e i j a b c d
  · have hqq : (q : Int) ≤ (q' : Int) := by omega
    have hmul := Int.mul_le_mul_of_nonneg_right hqq (show 0 ≤ 2 * w by omega)
    omega
theorem bs_congr {F T : Int → Int} {n w : Int} (h : BS F n w) (hw : 0 ≤ w) (he : ∀ i, 0 ≤ i → i < n → T i = F i) : BS T n w := fun q i j a b c d => by
  have hq : 0 ≤ (q : Int) * w := Int.mul_nonneg (by omega) hw
  rw [he i (by omega) (by omega), he j (by omega) d]; exact h q i j a b c d
/-- sorted: in order, the same numbers -/
def SO (F T : Int → Int) (n : Int) : Prop := (∀ i j, 0 ≤ i → i < j → j < n → T i ≤ T j) ∧ ∀ v, ctZ T v n = ctZ F v n
theorem so_ct {F T : Int → Int} {n v : Int} (h : ∀ i, 0 ≤ i → i < n → T i = F i) : ctZ T v n = ctZ F v n := ctZ_congr h
theorem so_ex {F T : Int → Int} {n E : Int} (h : SO F T n) (hn : 0 ≤ n) : (∃ i, 0 ≤ i ∧ i < n ∧ T i = E) ↔ ∃ i, 0 ≤ i ∧ i < n ∧ F i = E := by
  rw [← ctZ_ex hn, ← ctZ_ex hn, h.2]
theorem so_st {F T : Int → Int} {n : Int} (h : SO F T n) (hi : ∀ i j, 0 ≤ i → i < j → j < n → ¬ F i = F j) : ∀ i j, 0 ≤ i → i < j → j < n → T i < T j :=
  ctZ_strict h.1 (fun v => by rw [h.2]; unfold ctZ; exact ctN_inj _ (fun i j a b c => hi i j a b (by omega)))
theorem so_rl {F T : Int → Int} {n : Int} (h : ∀ v, ctZ T v n = ctZ F v n) (hF : ∀ i, 0 ≤ i → i < n → rL (F i)) : ∀ i, 0 ≤ i → i < n → rL (T i) := by
  intro i h1 h2
  have h3 : 0 < ctZ T (T i) n := (ctZ_ex (by omega)).mpr ⟨i, h1, h2, rfl⟩
  rw [h] at h3
  obtain ⟨j, j1, j2, j3⟩ := (ctZ_ex (by omega)).mp h3
  rw [← j3]; exact hF j j1 j2
