/-! WIDE NODES, as numbers -/
/-- the bits of L that B lacks -/
def andn (L B : Int) : Int := (iI L &&& iI (-1 - B)).toInt
theorem andn_r (L B : Int) : rI (andn L B) := ⟨Int32.le_toInt _, Int32.toInt_lt _⟩
/-- each last choice of the set L is barred by B -/
def msk (L B : Int) : Prop := ¬ L = 0 ∧ ∀ k : Nat, k < 6 → L / 2 ^ k % 2 = 1 → B / 2 ^ k % 2 = 1
theorem andn_n : ∀ L : Nat, L < 64 → ∀ B : Nat, B < 64 → (andn (L : Int) (B : Int) = 0 ↔ ∀ k : Nat, k < 6 → (L : Int) / 2 ^ k % 2 = 1 → (B : Int) / 2 ^ k % 2 = 1) := by
  unfold andn; decide +kernel
theorem andn_0 {L B : Int} (h1 : 0 ≤ L) (h2 : L < 64) (h3 : 0 ≤ B) (h4 : B < 64) : andn L B = 0 ↔ ∀ k : Nat, k < 6 → L / 2 ^ k % 2 = 1 → B / 2 ^ k % 2 = 1 := by
  obtain ⟨n, rfl⟩ : ∃ n : Nat, L = (n : Int) := ⟨L.toNat, by omega⟩
  obtain ⟨w, rfl⟩ : ∃ w : Nat, B = (w : Int) := ⟨B.toNat, by omega⟩
  exact andn_n n (by omega) w (by omega)
theorem iI_not (B : Int) : iI B ^^^ iI (-1) = iI (-1 - B) := by
  have h : iI (-1 - B) = ~~~ (iI B) := by
    rw [Int32.not_eq_neg_sub]
    show Int32.ofInt (-1 - B) = - Int32.ofInt B - 1
    rw [← Int32.ofInt_neg, show (1 : Int32) = Int32.ofInt 1 from rfl, ← Int32.ofInt_sub]
    congr 1; omega
  rw [h, show iI (-1) = -1 from rfl, Int32.xor_neg_one]
/-- a wide node lies within its bounds, its cost within dd -/
def WN (dd E : Int) : Prop := (0 ≤ E ∧ -dd ≤ E / 1073741824 - 12000 ∧ E / 1073741824 - 12000 ≤ dd) ∧ E / 16777216 % 64 ≤ 40 ∧ E / 262144 % 64 ≤ 40 ∧ E / 4096 % 64 ≤ 40 ∧ E / 64 % 64 ≤ 40
/-- the choice at the place pl may follow -/
def wo (ffu fsu fbb fmo : Int → Int) (pl E : Int) : Prop := ¬ msk (E % 64) (fbb pl) ∧ E / 16777216 % 64 + ffu pl ≤ fmo 0 ∧ E / 262144 % 64 + fsu pl ≤ fmo 1
/-- a wide node of its parts -/
def wp (a b cc d f g : Int) : Int := (a + 12000) * 1073741824 + ((((b * 64 + cc) * 64 + d) * 64 + f) * 64 + g)
/-- the node behind -/
def wfo (fco ffu fsu fmo : Int → Int) (pl cb E : Int) : Int := wp (E / 1073741824 - 12000 + fco pl) (E / 16777216 % 64 + ffu pl) (E / 262144 % 64 + fsu pl) (min (E / 4096 % 64 + ffu pl) (fmo 0)) (min (E / 64 % 64 + fsu pl) (fmo 1)) cb
theorem wp_p {a b cc d f g : Int} (hb : 0 ≤ b ∧ b < 64) (hc : 0 ≤ cc ∧ cc < 64) (hd : 0 ≤ d ∧ d < 64) (hf : 0 ≤ f ∧ f < 64) (hg : 0 ≤ g ∧ g < 64) : wp a b cc d f g / 1073741824 - 12000 = a ∧ wp a b cc d f g / 16777216 % 64 = b ∧ wp a b cc d f g / 262144 % 64 = cc ∧ wp a b cc d f g / 4096 % 64 = d ∧ wp a b cc d f g / 64 % 64 = f ∧ wp a b cc d f g % 64 = g := by
  unfold wp; omega
theorem wfo_n {fsz fco ffu fsu fbb fmo : Int → Int} (hT : TB fsz fco ffu fsu fbb fmo) {pl cb E dd : Int} (hp : 0 ≤ pl ∧ pl < 72) (hcb : 0 ≤ cb ∧ cb < 64) (hE : WN dd E) (hdd : dd ≤ 11000) (ho : wo ffu fsu fbb fmo pl E) : WN (dd + 1000) (wfo fco ffu fsu fmo pl cb E) := by
  have h1 := hT.2.1 pl hp.1 hp.2
  have h2 := hT.2.2.1 pl hp.1 hp.2
  have h3 := hT.2.2.2 0 (by omega) (by omega)
  have h4 := hT.2.2.2 1 (by omega) (by omega)
  obtain ⟨-, h5, h6⟩ := ho
  obtain ⟨k1, k2, k3, k4, k5⟩ := hE
  have hq := wp_p (a := E / 1073741824 - 12000 + fco pl) (b := E / 16777216 % 64 + ffu pl) (cc := E / 262144 % 64 + fsu pl) (d := min (E / 4096 % 64 + ffu pl) (fmo 0)) (f := min (E / 64 % 64 + fsu pl) (fmo 1)) (g := cb) (by omega) (by omega) (by omega) (by omega) hcb
  have hz : 0 ≤ wfo fco ffu fsu fmo pl cb E := by unfold wfo wp; omega
  unfold WN
  unfold wfo at hz ⊢
  omega
theorem wn_lt {dd E : Int} (h : WN dd E) (hd : dd ≤ 12000) : 0 ≤ E ∧ E < 35184372088832 := by
  obtain ⟨k1, -⟩ := h; omega
theorem wn_up {dd d2 E : Int} (h : WN dd E) (hd : dd ≤ d2) : WN d2 E := by
  obtain ⟨k1, k2⟩ := h; exact ⟨by omega, k2⟩
/-- followers of the first nodes: those before the pair x, y -/
def NQ (fsz fco ffu fsu fbb fmo R : Int → Int) (s x y E : Int) : Prop := ∃ i c, (0 ≤ i ∧ 0 ≤ c ∧ c < fsz s) ∧ (i < x ∨ (i = x ∧ c < y)) ∧ wo ffu fsu fbb fmo (s * 6 + c) (R i) ∧ E = wfo fco ffu fsu fmo (s * 6 + c) (2 ^ c.toNat) (R i)
def NX (fsz fco ffu fsu fbb fmo R : Int → Int) (n s E : Int) : Prop := NQ fsz fco ffu fsu fbb fmo R s n 0 E
def inR (R : Int → Int) (n E : Int) : Prop := ∃ i, 0 ≤ i ∧ i < n ∧ R i = E
def NL (X : Int → Prop) (E : Int) : Prop := X E ∧ ∀ E', X E' → E' % 1073741824 = E % 1073741824 → E ≤ E'
def EN (X : Int → Prop) (n : Int) (R : Int → Int) : Prop := 0 ≤ n ∧ (∀ i j, 0 ≤ i → i < j → j < n → R i < R j) ∧ ∀ E, inR R n E ↔ X E
theorem nq_0 {fsz fco ffu fsu fbb fmo R T : Int → Int} {s : Int} : ∀ E, inR T 0 E ↔ NQ fsz fco ffu fsu fbb fmo R s 0 0 E :=
  fun E => ⟨fun ⟨i, h1, h2, _⟩ => by omega, fun ⟨i, c, h1, h2, _⟩ => by omega⟩
theorem nq_e {fsz fco ffu fsu fbb fmo R : Int → Int} {s x y E : Int} (hx : 0 ≤ x) (hy : y = fsz s) : NQ fsz fco ffu fsu fbb fmo R s x y E ↔ NQ fsz fco ffu fsu fbb fmo R s (x + 1) 0 E :=
  ⟨fun ⟨i, c, h1, h2, h3⟩ => ⟨i, c, h1, by omega, h3⟩, fun ⟨i, c, h1, h2, h3⟩ => ⟨i, c, h1, by omega, h3⟩⟩
theorem in_up {T : Int → Int} {m w E : Int} (hm : 0 ≤ m) : inR (uZ T m w) (m + 1) E ↔ (inR T m E ∨ E = w) := by
  constructor
  · intro ⟨i, h1, h2, h3⟩
    by_cases q : i = m
    · subst q; rw [uZ_s] at h3; exact Or.inr h3.symm
    · rw [uZ_n q] at h3; exact Or.inl ⟨i, h1, by omega, h3⟩
  · rintro (⟨i, h1, h2, h3⟩ | h)
    · exact ⟨i, h1, by omega, by rw [uZ_n (by omega)]; exact h3⟩
    · exact ⟨m, hm, by omega, by rw [uZ_s]; exact h.symm⟩
/-- what follow leaves -/
def FO (fco ffu fsu fbb fmo fn : Int → Int) (pl c nx E : Int) (T : Int → Int) (m : Int) : Prop := (wo ffu fsu fbb fmo pl E → m = nx + 1 ∧ T = uZ fn nx (wfo fco ffu fsu fmo pl (2 ^ c.toNat) E)) ∧ (¬ wo ffu fsu fbb fmo pl E → m = nx ∧ T = fn)
theorem nq_s {fsz fco ffu fsu fbb fmo R T T' : Int → Int} {s x y m m' : Int} (hx : 0 ≤ x) (hy : 0 ≤ y ∧ y < fsz s) (hm : 0 ≤ m) (h : ∀ E, inR T m E ↔ NQ fsz fco ffu fsu fbb fmo R s x y E) (hf : FO fco ffu fsu fbb fmo T (s * 6 + y) y m (R x) T' m') : ∀ E, inR T' m' E ↔ NQ fsz fco ffu fsu fbb fmo R s x (y + 1) E := by
  intro E
  have hN : NQ fsz fco ffu fsu fbb fmo R s x (y + 1) E ↔ (NQ fsz fco ffu fsu fbb fmo R s x y E ∨ (wo ffu fsu fbb fmo (s * 6 + y) (R x) ∧ E = wfo fco ffu fsu fmo (s * 6 + y) (2 ^ y.toNat) (R x))) := by
    constructor
    · intro ⟨i, c, h1, h2, h3⟩
      by_cases q : i = x ∧ c = y
      · obtain ⟨q1, q2⟩ := q; subst q1 q2; exact Or.inr h3
      · exact Or.inl ⟨i, c, h1, by omega, h3⟩
    · rintro (⟨i, c, h1, h2, h3⟩ | h3)
      · exact ⟨i, c, h1, by omega, h3⟩
      · exact ⟨x, y, by omega, by omega, h3⟩
  rw [hN, ← h E]
  by_cases q : wo ffu fsu fbb fmo (s * 6 + y) (R x)
  · obtain ⟨e1, e2⟩ := hf.1 q
    rw [e1, e2, in_up hm]
    exact ⟨fun z => z.elim Or.inl (fun z => Or.inr ⟨q, z⟩), fun z => z.elim Or.inl (fun z => Or.inr z.2)⟩
  · obtain ⟨e1, e2⟩ := hf.2 q
    rw [e1, e2]
    exact ⟨Or.inl, fun z => z.elim id (fun z => absurd z.1 q)⟩
theorem pw6 : ∀ n : Nat, n < 6 → 0 ≤ (2 : Int) ^ n ∧ (2 : Int) ^ n < 64 := by decide
theorem nq_wn {fsz fco ffu fsu fbb fmo R : Int → Int} (hT : TB fsz fco ffu fsu fbb fmo) {s x y E dd n : Int} (hs : 0 ≤ s ∧ s < 12) (hR : ∀ i, 0 ≤ i → i < n → WN dd (R i)) (hx : x ≤ n) (hy : y = 0 ∨ x < n) (hdd : dd ≤ 11000) (h : NQ fsz fco ffu fsu fbb fmo R s x y E) : WN (dd + 1000) E := by
  obtain ⟨i, c, h1, h2, h3, h4⟩ := h
  have h5 := hT.1 s hs.1 hs.2
  have h6 := pw6 c.toNat (by omega)
  rw [h4]
  exact wfo_n hT ⟨by omega, by omega⟩ h6 (hR i (by omega) (by omega)) hdd h3
/-- the state ahead of the cost, and back -/
def sw (E : Int) : Int := E % 1073741824 * 32768 + E / 1073741824
def sb (F : Int) : Int := F % 32768 * 1073741824 + F / 32768
theorem sw_b {E : Int} (h : 0 ≤ E ∧ E < 35184372088832) : (0 ≤ sw E ∧ sw E < 35184372088832) ∧ sb (sw E) = E ∧ sw E / 32768 = E % 1073741824 := by
  unfold sb sw; omega
theorem sb_m {F : Int} (h : 0 ≤ F ∧ F < 35184372088832) : sb F % 1073741824 = F / 32768 := by unfold sb; omega
theorem sb_le {F F' : Int} (h : F ≤ F') (he : F / 32768 = F' / 32768) : sb F ≤ sb F' := by unfold sb; omega
/-- uniting so far -/
def U2 (S : Int → Int) (x k : Int) (T : Int → Int) (z : Int) : Prop :=
  (0 ≤ k ∧ k ≤ x) ∧ (∀ j, x ≤ j → T j = S j) ∧ ((x = 0 ∧ z = -1) ∨ (0 < x ∧ z = S (x - 1) / 32768)) ∧ (∀ i, 0 ≤ i → i < k → ∃ j, 0 ≤ j ∧ j < x ∧ T i = sb (S j)) ∧ (∀ j, 0 ≤ j → j < x → ∃ i, 0 ≤ i ∧ i < k ∧ T i % 1073741824 = S j / 32768 ∧ T i ≤ sb (S j)) ∧ (∀ i j, 0 ≤ i → i < j → j < k → T i % 1073741824 < T j % 1073741824) ∧ (∀ i, 0 ≤ i → i < k → T i % 1073741824 ≤ z)
theorem u2_0 {S : Int → Int} : U2 S 0 0 S (-1) := ⟨by omega, fun _ _ => rfl, Or.inl ⟨rfl, rfl⟩, fun i a b => by omega, fun i a b => by omega, fun i j a b c => by omega, fun i a b => by omega⟩
theorem u2_a {S T : Int → Int} {x k z n : Int} (hS : ∀ i j, 0 ≤ i → i < j → j < n → S i ≤ S j) (hx : x < n) (hB : ∀ i, 0 ≤ i → i < n → 0 ≤ S i ∧ S i < 35184372088832) (h : U2 S x k T z) (he : S x / 32768 = z) : U2 S (x + 1) k T (S x / 32768) := by
  obtain ⟨h1, h2, h3, h4, h5, h6, h7⟩ := h
  have hb := hB x (by omega) hx
  have hx0 : 0 < x ∧ z = S (x - 1) / 32768 := by omega
  refine ⟨by omega, fun j q => h2 j (by omega), Or.inr ⟨by omega, by rw [show x + 1 - 1 = x by omega]⟩, fun i a b => ?_, fun j a b => ?_, h6, fun i a b => by rw [he]; exact h7 i a b⟩
  · obtain ⟨j, j1, j2, j3⟩ := h4 i a b; exact ⟨j, j1, by omega, j3⟩
  · by_cases q : j = x
    · subst q
      obtain ⟨i, i1, i2, i3, i4⟩ := h5 (j - 1) (by omega) (by omega)
      have := sb_le (hS (j - 1) j (by omega) (by omega) hx) (by omega)
      exact ⟨i, i1, i2, by omega, by omega⟩
    · exact h5 j a (by omega)
theorem u2_b {S T : Int → Int} {x k z n : Int} (hS : ∀ i j, 0 ≤ i → i < j → j < n → S i ≤ S j) (hx : x < n) (hB : ∀ i, 0 ≤ i → i < n → 0 ≤ S i ∧ S i < 35184372088832) (h : U2 S x k T z) (he : ¬ S x / 32768 = z) : U2 S (x + 1) (k + 1) (uZ T k (sb (S x))) (S x / 32768) := by
  obtain ⟨h1, h2, h3, h4, h5, h6, h7⟩ := h
  have hb := hB x (by omega) hx
  have hz : z < S x / 32768 := by
    rcases h3 with h3 | h3
    · omega
    · have := hS (x - 1) x (by omega) (by omega) hx; omega
  have hm := sb_m hb
  refine ⟨by omega, fun j q => by rw [uZ_n (by omega)]; exact h2 j (by omega), Or.inr ⟨by omega, by rw [show x + 1 - 1 = x by omega]⟩, fun i a b => ?_, fun j a b => ?_, fun i j a b c => ?_, fun i a b => ?_⟩
  · by_cases q : i = k
    · subst q; rw [uZ_s]; exact ⟨x, by omega, by omega, rfl⟩
    · rw [uZ_n q]; obtain ⟨j, j1, j2, j3⟩ := h4 i a (by omega); exact ⟨j, j1, by omega, j3⟩
  · by_cases q : j = x
    · subst q; exact ⟨k, by omega, by omega, by rw [uZ_s]; exact hm, by rw [uZ_s]; exact Int.le_refl _⟩
    · obtain ⟨i, i1, i2, i3, i4⟩ := h5 j a (by omega)
      exact ⟨i, i1, by omega, by rw [uZ_n (by omega)]; exact i3, by rw [uZ_n (by omega)]; exact i4⟩
  · by_cases q : j = k
    · subst q; rw [uZ_s, uZ_n (by omega), hm]; have := h7 i a b; omega
    · rw [uZ_n q, uZ_n (by omega)]; exact h6 i j a b (by omega)
  · by_cases q : i = k
    · subst q; rw [uZ_s, hm]; exact Int.le_refl _
    · rw [uZ_n q]; have := h7 i a (by omega); omega
/-- united -/
def UA (R : Int → Int) (n k : Int) (T : Int → Int) : Prop := (0 ≤ k ∧ k ≤ n) ∧ (∀ i j, 0 ≤ i → i < j → j < k → ¬ T i = T j) ∧ ∀ E, inR T k E ↔ NL (inR R n) E
theorem u2_e {R V S T : Int → Int} {n k z : Int} (hn : 0 ≤ n) (hR : ∀ i, 0 ≤ i → i < n → 0 ≤ R i ∧ R i < 35184372088832) (hV : ∀ i, 0 ≤ i → i < n → V i = sw (R i)) (hS : SO V S n) (h : U2 S n k T z) : UA R n k T := by
  obtain ⟨h1, h2, h3, h4, h5, h6, h7⟩ := h
  have toS : ∀ E, inR R n E → ∃ j, 0 ≤ j ∧ j < n ∧ S j = sw E := by
    intro E ⟨i, a, b, c⟩
    exact (so_ex hS hn).mpr ⟨i, a, b, by rw [hV i a b, c]⟩
  have toR : ∀ j, 0 ≤ j → j < n → ∃ i, 0 ≤ i ∧ i < n ∧ S j = sw (R i) := by
    intro j a b
    obtain ⟨i, c, d, f⟩ := (so_ex hS hn).mp ⟨j, a, b, rfl⟩
    exact ⟨i, c, d, by rw [← f, hV i c d]⟩
  have mem : ∀ i, 0 ≤ i → i < k → inR R n (T i) := by
    intro i a b
    obtain ⟨j, c, d, f⟩ := h4 i a b
    obtain ⟨r, r1, r2, r3⟩ := toR j c d
    exact ⟨r, r1, r2, by rw [f, r3, (sw_b (hR r r1 r2)).2.1]⟩
  have cov : ∀ E, inR R n E → ∃ i, 0 ≤ i ∧ i < k ∧ T i % 1073741824 = E % 1073741824 ∧ T i ≤ E := by
    intro E hE
    obtain ⟨j, c, d, f⟩ := toS E hE
    obtain ⟨i, i1, i2, i3, i4⟩ := h5 j c d
    obtain ⟨r, r1, r2, r3⟩ := hE
    have hb := sw_b (hR r r1 r2)
    rw [r3] at hb
    rw [f] at i3 i4
    rw [hb.2.2] at i3
    rw [hb.2.1] at i4
    exact ⟨i, i1, i2, i3, i4⟩
  refine ⟨by omega, fun i j a b c q => ?_, fun E => ⟨fun ⟨i, a, b, c⟩ => ?_, fun hE => ?_⟩⟩
  · have := h6 i j a b c; rw [q] at this; omega
  · subst c
    refine ⟨mem i a b, fun E' hE' q => ?_⟩
    obtain ⟨i', a', b', c', d'⟩ := cov E' hE'
    have : i = i' := by
      rcases Int.lt_trichotomy i i' with q1 | q1 | q1
      · have := h6 i i' a q1 b'; omega
      · exact q1
      · have := h6 i' i a' q1 b; omega
    subst this; exact d'
  · obtain ⟨i, a, b, c, d⟩ := cov E hE.1
    have := hE.2 (T i) (mem i a b) c
    exact ⟨i, a, b, by omega⟩
theorem ua_en {R T T' : Int → Int} {n k : Int} {X : Int → Prop} (h : UA R n k T) (hX : ∀ E, inR R n E ↔ X E) (hs : SO T T' k) : EN (NL X) k T' := by
  refine ⟨h.1.1, so_st hs h.2.1, fun E => ?_⟩
  have e1 : inR T' k E ↔ inR T k E := so_ex hs h.1.1
  rw [e1, h.2.2 E]
  exact ⟨fun q => ⟨(hX E).mp q.1, fun E' a b => q.2 E' ((hX E').mpr a) b⟩, fun q => ⟨(hX E).mpr q.1, fun E' a b => q.2 E' ((hX E').mp a) b⟩⟩
theorem en_lo {X : Int → Prop} {n n' : Int} {R R' : Int → Int} (h : EN X n R) (h' : EN X n' R') : ∀ k : Nat, (k : Int) < n → (k : Int) < n' ∧ R k = R' k := by
  intro k
  induction k using Nat.strongRecOn with
  | ind k ih =>
    intro hk
    obtain ⟨j, j1, j2, j3⟩ := (h'.2.2 (R k)).mpr ((h.2.2 (R k)).mp ⟨k, by omega, hk, rfl⟩)
    have hkj : (k : Int) ≤ j := by
      by_cases q : j < k
      · have := ih j.toNat (by omega) (by omega)
        rw [show ((j.toNat : Nat) : Int) = j by omega] at this
        have := h.2.1 j k j1 q hk
        omega
      · omega
    refine ⟨by omega, ?_⟩
    by_cases q : j = k
    · rw [← q]; rw [q] at j3; rw [q]; exact j3.symm
    · obtain ⟨i, i1, i2, i3⟩ := (h.2.2 (R' k)).mpr ((h'.2.2 (R' k)).mp ⟨k, by omega, by omega, rfl⟩)
      have hl := h'.2.1 k j (by omega) (by omega) j2
      by_cases z : i < k
      · have := ih i.toNat (by omega) (by omega)
        rw [show ((i.toNat : Nat) : Int) = i by omega] at this
        have := h'.2.1 i k i1 z (by omega)
        omega
      · by_cases y : i = k
        · rw [y] at i3; exact i3
        · have := h.2.1 k i (by omega) (by omega) i2; omega
theorem en_eq {X : Int → Prop} {n n' : Int} {R R' : Int → Int} (h : EN X n R) (h' : EN X n' R') : n = n' ∧ ∀ i, 0 ≤ i → i < n → R i = R' i := by
  have a := h.1
  have b := h'.1
  refine ⟨?_, fun i h1 h2 => ?_⟩
  · rcases Int.lt_trichotomy n n' with q | q | q
    · have := en_lo h' h n.toNat (by omega); omega
    · exact q
    · have := en_lo h h' n'.toNat (by omega); omega
  · have := en_lo h h' i.toNat (by omega)
    rw [show ((i.toNat : Nat) : Int) = i by omega] at this
    exact this.2
theorem sw_1 {VV fn : Int → Int} {x : Int} (hx : 0 ≤ x) (h : ∀ i, 0 ≤ i → i < x → VV i = sw (fn i)) (hv : VV x = fn x) : ∀ i, 0 ≤ i → i < x + 1 → uZ VV x (VV x % 1073741824 * 32768 + VV x / 1073741824) i = sw (fn i) := by
  intro i h1 h2
  by_cases q : i = x
  · subst q; rw [uZ_s, hv]; rfl
  · rw [uZ_n q]; exact h i h1 (by omega)
theorem so_b {V S : Int → Int} {n : Int} (h : SO V S n) (hn : 0 ≤ n) (hV : ∀ i, 0 ≤ i → i < n → 0 ≤ V i ∧ V i < 35184372088832) : ∀ i, 0 ≤ i → i < n → 0 ≤ S i ∧ S i < 35184372088832 := by
  intro i h1 h2
  obtain ⟨j, j1, j2, j3⟩ := (so_ex h hn).mp ⟨i, h1, h2, rfl⟩
  rw [← j3]; exact hV j j1 j2
