/-! THE MODEL'S FIRST PLANS -/
theorem pr_wt {fsz fco ffu fsu fbb fmo fle : Int → Int} (hT : TB fsz fco ffu fsu fbb fmo) {n : Nat} (hn : n ≤ 12) : ∀ (d : Nat) (r k g : Int), d ≤ n → PR fsz fco ffu fsu fbb fmo fle n d r k g → 0 < wt fsz ffu fsu fbb fmo d k ∧ vk k := by
  intro d
  induction d with
  | zero =>
    intro r k g _ h
    have h0 : 0 < wt fsz ffu fsu fbb fmo 0 0 := by unfold wt; rw [if_pos rfl]; omega
    rw [h.2.1]
    exact ⟨h0, wt_vk hT 0 0 (by omega) h0⟩
  | succ d ih =>
    intro r k g hd h
    obtain ⟨c, k0, g0, r0, t1, t2, t3, t4, t5, t6, t7⟩ := h
    obtain ⟨w, v⟩ := ih r0 k0 g0 (by omega) t1
    have h0 : 0 < wt fsz ffu fsu fbb fmo (d + 1) k := by
      rw [← t3]; exact wt_pos hT (by omega) t2.1 t2.2 v w (by rw [t3]; exact t4)
    exact ⟨h0, wt_vk hT (d + 1) k (by omega) h0⟩
theorem pr_pre {fsz fco ffu fsu fbb fmo fle : Int → Int} (hT : TB fsz fco ffu fsu fbb fmo) {n d : Nat} (hn : n ≤ 12) : ∀ (j : Nat) (r k g : Int), d + j ≤ n → PR fsz fco ffu fsu fbb fmo fle n (d + j) r k g → ∃ r0 k0 g0, PR fsz fco ffu fsu fbb fmo fle n d r0 k0 g0 ∧ (r0 ≤ r ∧ r + 8 ^ (12 - (d + j)) ≤ r0 + 8 ^ (12 - d)) ∧ cod fsz fco ffu fsu fbb fmo fle n d r0 k0 g0 ≤ cod fsz fco ffu fsu fbb fmo fle n (d + j) r k g
  | 0, r, k, g, _, h => ⟨r, k, g, h, ⟨Int.le_refl _, Int.le_refl _⟩, Int.le_refl _⟩
  | j + 1, r, k, g, hd, h => by
    have h' : PR fsz fco ffu fsu fbb fmo fle n ((d + j) + 1) r k g := h
    generalize he : d + j = e at h'
    obtain ⟨c, k1, g1, r1, t1, t2, t3, t4, t5, t6, t7⟩ := h'
    subst he
    obtain ⟨r0, k0, g0, s1, s2, s3⟩ := pr_pre hT hn j r1 k1 g1 (by omega) t1
    have hsz := hT.1 ((d + j : Nat) : Int) (by omega) (by omega)
    have hch := cod_child hT hn (d := d + j) (by omega) (r := r1) (g := g1) t2 (by rw [t3]; exact t4) (by rw [t3]; exact t5)
    rw [t3, ← t6, ← t7] at hch
    have hM := pw8p (11 - (d + j))
    have h8 := pw8 (d := d + j) (by omega)
    have h1 : 0 ≤ c * 8 ^ (11 - (d + j)) := Int.mul_nonneg t2.1 (by omega)
    have h2 : (c + 1) * 8 ^ (11 - (d + j)) ≤ 8 * 8 ^ (11 - (d + j)) := Int.mul_le_mul_of_nonneg_right (by omega) (by omega)
    rw [Int.add_mul, Int.one_mul] at h2
    refine ⟨r0, k0, g0, s1, ⟨by omega, ?_⟩, Int.le_trans s3 hch⟩
    rw [show 12 - (d + (j + 1)) = 11 - (d + j) by omega]
    omega
theorem pr_uq {fsz fco ffu fsu fbb fmo fle : Int → Int} (hT : TB fsz fco ffu fsu fbb fmo) {n d : Nat} {r r0 k0 g0 r1 k1 g1 : Int} (hd : d ≤ 12) (h0 : PR fsz fco ffu fsu fbb fmo fle n d r0 k0 g0) (h1 : PR fsz fco ffu fsu fbb fmo fle n d r1 k1 g1) (a : r0 ≤ r ∧ r < r0 + 8 ^ (12 - d)) (b : r1 ≤ r ∧ r < r1 + 8 ^ (12 - d)) : r0 = r1 ∧ k0 = k1 ∧ g0 = g1 := by
  obtain ⟨q0, e0, -⟩ := pr_r hT d r0 k0 g0 hd h0
  obtain ⟨q1, e1, -⟩ := pr_r hT d r1 k1 g1 hd h1
  have hM := pw8p (12 - d)
  have e : r0 = r1 := by
    rcases Int.lt_trichotomy r0 r1 with z | z | z
    · have := mult_lt hM e0 e1 z; omega
    · exact z
    · have := mult_lt hM e1 e0 z; omega
  subst e
  exact ⟨rfl, pr_fun hT d r0 k0 g0 k1 g1 hd h0 h1⟩
/-- a plan that begins with a row goes on with a child of it -/
theorem pr_ch {fsz fco ffu fsu fbb fmo fle : Int → Int} (hT : TB fsz fco ffu fsu fbb fmo) {n d : Nat} (hn : n ≤ 12) (hd : d < n) {r k g r0 k0 g0 : Int} (h : PR fsz fco ffu fsu fbb fmo fle n n r k g) (h0 : PR fsz fco ffu fsu fbb fmo fle n d r0 k0 g0) (a : r0 ≤ r ∧ r < r0 + 8 ^ (12 - d)) :
    ∃ c, (0 ≤ c ∧ c < fsz (d : Int)) ∧ (¬ kn fbb ffu fsu fmo ((d : Int) * 6 + c) c k0 = -1 ∧ 0 < wf fsz ffu fsu fbb fmo fle (n - (d + 1)) (d + 1) (kn fbb ffu fsu fmo ((d : Int) * 6 + c) c k0)) ∧ r0 + c * 8 ^ (11 - d) ≤ r ∧ r < r0 + c * 8 ^ (11 - d) + 8 ^ (11 - d) := by
  obtain ⟨j, hj⟩ : ∃ j, n = (d + 1) + j := ⟨n - (d + 1), by omega⟩
  have hx := pr_pre hT (d := d + 1) hn j r k g (by omega) (by rw [← hj]; exact h)
  obtain ⟨r1, k1, g1, s1, s2, -⟩ := hx
  have hp := pw8p (12 - (d + 1 + j))
  obtain ⟨c, k2, g2, r2, t1, t2, t3, t4, t5, t6, t7⟩ := s1
  have hsz := hT.1 (d : Int) (by omega) (by omega)
  have hM := pw8p (11 - d)
  have h8 := pw8 (d := d) (by omega)
  rw [show 12 - (d + 1) = 11 - d by omega] at s2
  have e1 : 0 ≤ c * 8 ^ (11 - d) := Int.mul_nonneg t2.1 (by omega)
  have e2 : (c + 1) * 8 ^ (11 - d) ≤ 8 * 8 ^ (11 - d) := Int.mul_le_mul_of_nonneg_right (by omega) (by omega)
  rw [Int.add_mul, Int.one_mul] at e2
  obtain ⟨u1, u2, u3⟩ := pr_uq hT (r := r) (by omega) h0 t1 a ⟨by omega, by omega⟩
  subst u1 u2 u3
  rw [← t3] at t4 t5
  exact ⟨c, t2, ⟨t4, t5⟩, by omega, by omega⟩
/-- one row begun: its place, cost, choices -/
def EB (X : Nat → Int → Int → Int → Prop) (n : Nat) (a c r : Int) : Prop := ∃ (d : Nat) (k : Int), d ≤ n ∧ a = 11767 * (d : Int) + kat k ∧ X d r k c
def wid (a : Int) : Int := 8 ^ (12 - (a / 11767).toNat)
def cde (CF : Int → Int) (a c r : Int) : Int := (c + CF a + 12000) * 68719476736 + r
theorem eb_x {fsz fco ffu fsu fbb fmo fle : Int → Int} (hT : TB fsz fco ffu fsu fbb fmo) {n : Nat} (hn : n ≤ 12) {RF CF : Int → Int} (hF : ∀ e : Nat, e ≤ n → ∀ k, vk k → 0 < wt fsz ffu fsu fbb fmo e k → FB fsz fco ffu fsu fbb fmo fle n e k RF CF) {a c r : Int} (h : EB (PR fsz fco ffu fsu fbb fmo fle n) n a c r) :
    ∃ (d : Nat) (k : Int), d ≤ n ∧ a = 11767 * (d : Int) + kat k ∧ a / 11767 = (d : Int) ∧ vk k ∧ 0 < wt fsz ffu fsu fbb fmo d k ∧ PR fsz fco ffu fsu fbb fmo fle n d r k c ∧ wid a = 8 ^ (12 - d) ∧ cde CF a c r = cod fsz fco ffu fsu fbb fmo fle n d r k c ∧ (0 ≤ r ∧ r + wid a ≤ 68719476736) ∧ (-12000 ≤ c ∧ c ≤ 12000) ∧ (-12000 ≤ CF a ∧ CF a ≤ 12000) ∧ 0 < wid a ∧ (0 ≤ a ∧ a < 11767 * ((d : Int) + 1)) := by
  obtain ⟨d, k, h1, h2, h3⟩ := h
  obtain ⟨w, v⟩ := pr_wt hT hn d r k c h1 h3
  have hk := (kat_r v).1
  have hd : a / 11767 = (d : Int) := by omega
  have hw : wid a = 8 ^ (12 - d) := by unfold wid; rw [hd]; rfl
  have hf := (hF d h1 k v w).2
  have hp := pr_wf d r k c h3
  rw [sel_t hp, ← h2] at hf
  have hrb := pr_rb hT (by omega) h3
  have hg := pr_g hT d r k c (by omega) h3
  have hcf := cf_rng hT (n - d) d k (by omega) hp
  have h0 := pw8p (12 - d)
  refine ⟨d, k, h1, h2, hd, v, w, h3, hw, ?_, ⟨hrb.1, by omega⟩, by omega, ?_, by omega, by omega, by omega⟩
  · unfold cde cod; rw [hf]
  · rw [hf]; omega
theorem eb_b {fsz fco ffu fsu fbb fmo fle : Int → Int} (hT : TB fsz fco ffu fsu fbb fmo) {n : Nat} (hn : n ≤ 12) {RF CF : Int → Int} (hF : ∀ e : Nat, e ≤ n → ∀ k, vk k → 0 < wt fsz ffu fsu fbb fmo e k → FB fsz fco ffu fsu fbb fmo fle n e k RF CF) {a c r : Int} (h : EB (PR fsz fco ffu fsu fbb fmo fle n) n a c r) : (0 ≤ a ∧ a < 152971) ∧ (-12000 ≤ c ∧ c ≤ 12000) ∧ (-12000 ≤ CF a ∧ CF a ≤ 12000) ∧ (0 ≤ r ∧ r < 68719476736) := by
  obtain ⟨d, k, h1, -, -, -, -, -, -, -, h2, h3, h4, h5, h6⟩ := eb_x hT hn hF h
  exact ⟨by omega, h3, h4, by omega⟩
theorem fb_root {fsz fco ffu fsu fbb fmo fle : Int → Int} (hT : TB fsz fco ffu fsu fbb fmo) {n : Nat} {RF CF : Int → Int} (hF : ∀ e : Nat, e ≤ n → ∀ k, vk k → 0 < wt fsz ffu fsu fbb fmo e k → FB fsz fco ffu fsu fbb fmo fle n e k RF CF) : RF 0 = wf fsz ffu fsu fbb fmo fle n 0 0 := by
  have h0 : 0 < wt fsz ffu fsu fbb fmo 0 0 := by unfold wt; rw [if_pos rfl]; omega
  exact (hF 0 (by omega) 0 (wt_vk hT 0 0 (by omega) h0) h0).1
theorem l_or8 {r y : Int} {d : Nat} (hd : d < 12) (hr : ∃ q, r = q * 8 ^ (12 - d) ∧ 0 ≤ q ∧ q < 8 ^ d) (hy : 0 ≤ y ∧ y < 8) : lI r ||| lI (y * 2 ^ (3 * (11 - (d : Int))).toNat) = lI (r + y * 8 ^ (11 - d)) := by
  obtain ⟨q, q1, q2, q3⟩ := hr
  rw [pw2 hd]
  have hM := pw8p (11 - d)
  have h8 := pw8 hd
  have h1 : 0 ≤ y * 8 ^ (11 - d) := Int.mul_nonneg hy.1 (by omega)
  have h2 : (y + 1) * 8 ^ (11 - d) ≤ 8 * 8 ^ (11 - d) := Int.mul_le_mul_of_nonneg_right (by omega) (by omega)
  rw [Int.add_mul, Int.one_mul] at h2
  have e : (8 : Int) ^ d * 8 ^ (12 - d) = 68719476736 := by
    rw [← Int.pow_add, show d + (12 - d) = 12 by omega]; rfl
  have h3 : (q + 1) * 8 ^ (12 - d) ≤ 8 ^ d * 8 ^ (12 - d) := Int.mul_le_mul_of_nonneg_right (by omega) (by omega)
  rw [Int.add_mul, Int.one_mul, e, ← q1] at h3
  exact lI_orK (q := q) (d := 8 ^ (12 - d)) (3 * (12 - d)) (by rw [Int.pow_mul]; rfl) q1 q2 h1 (by omega) (by omega)
def OPp (X : Nat → Int → Int → Int → Prop) (n : Nat) (p : Int) (PC PW : Int → Int) : Prop := (0 ≤ p ∧ p ≤ 20) ∧ (∀ j, 0 ≤ j → j < p → ∃ k, X n (PW j) k (PC j)) ∧ (∀ i j, 0 ≤ i → i < j → j < p → (PC i + 12000) * 68719476736 + PW i < (PC j + 12000) * 68719476736 + PW j)
/-- the rows begun -/
def FR (X : Nat → Int → Int → Int → Prop) (n : Nat) (CF PC PW : Int → Int) (p b : Int) (A C R : Int → Int) : Prop :=
  (∀ i, 0 ≤ i → i < b → EB X n (A i) (C i) (R i)) ∧
  (∀ i j, 0 ≤ i → i < b → 0 ≤ j → j < b → ¬ i = j → R i + wid (A i) ≤ R j ∨ R j + wid (A j) ≤ R i) ∧
  (∀ i, 0 ≤ i → i < b → ∀ j, 0 ≤ j → j < p → (PC j + 12000) * 68719476736 + PW j < cde CF (A i) (C i) (R i)) ∧
  OPp X n p PC PW ∧
  (∀ r k g, X n r k g → (∃ j, (0 ≤ j ∧ j < p) ∧ (PC j + 12000) * 68719476736 + PW j = (g + 12000) * 68719476736 + r) ∨ ∃ i, (0 ≤ i ∧ i < b) ∧ R i ≤ r ∧ r < R i + wid (A i))
def FT (CF : Int → Int) (p t b : Int) (A C R : Int → Int) : Prop := (0 ≤ t ∧ t ≤ 12) ∧ b ≤ 1 + 5 * (12 * p + t) ∧ ∀ i, 0 ≤ i → i < b → (∀ j, 0 ≤ j → j < b → cde CF (A i) (C i) (R i) ≤ cde CF (A j) (C j) (R j)) → t ≤ A i / 11767
/-- the rows begun while the children of one taken out are put in -/
def FH (fsz fbb ffu fsu fmo fle : Int → Int) (X : Nat → Int → Int → Int → Prop) (n : Nat) (CF PC PW : Int → Int) (p b : Int) (A C R : Int → Int) (d : Nat) (k0 r0 E0 : Int) (W : Int → Int) (y : Int) : Prop :=
  (∀ i, 0 ≤ i → i < b → EB X n (A i) (C i) (R i)) ∧
  (∀ i j, 0 ≤ i → i < b → 0 ≤ j → j < b → ¬ i = j → R i + wid (A i) ≤ R j ∨ R j + wid (A j) ≤ R i) ∧
  (∀ i, 0 ≤ i → i < b → ∀ j, 0 ≤ j → j < p → (PC j + 12000) * 68719476736 + PW j < cde CF (A i) (C i) (R i)) ∧
  OPp X n p PC PW ∧
  (∀ r k g, X n r k g → (∃ j, (0 ≤ j ∧ j < p) ∧ (PC j + 12000) * 68719476736 + PW j = (g + 12000) * 68719476736 + r) ∨ (∃ i, (0 ≤ i ∧ i < b) ∧ R i ≤ r ∧ r < R i + wid (A i)) ∨ (r0 + y * 8 ^ (11 - d) ≤ r ∧ r < r0 + 8 ^ (12 - d))) ∧
  (∀ i, 0 ≤ i → i < b → ((R i + wid (A i) ≤ r0 ∨ r0 + 8 ^ (12 - d) ≤ R i) ∧ E0 < cde CF (A i) (C i) (R i)) ∨ ∃ c, (0 ≤ c ∧ c < y) ∧ R i = r0 + c * 8 ^ (11 - d) ∧ A i / 11767 = (d : Int) + 1) ∧
  (∀ c, 0 ≤ c → c < y → (¬ kn fbb ffu fsu fmo ((d : Int) * 6 + c) c k0 = -1 ∧ 0 < wf fsz ffu fsu fbb fmo fle (n - (d + 1)) (d + 1) (kn fbb ffu fsu fmo ((d : Int) * 6 + c) c k0)) → ∃ i, (0 ≤ i ∧ i < b) ∧ cde CF (A i) (C i) (R i) = W c)
theorem ft_b {X : Nat → Int → Int → Int → Prop} {n : Nat} {CF PC PW A C R : Int → Int} {p t b : Int} (h : FR X n CF PC PW p b A C R) (h2 : FT CF p t b A C R) : b ≤ 1300 ∧ (0 ≤ p ∧ p ≤ 20) ∧ (0 ≤ t ∧ t ≤ 12) := by
  have h3 := h.2.2.2.1
  obtain ⟨a1, a2, -⟩ := h2
  have h4 := h3
  exact ⟨by have := h4.1; omega, h4.1, a1⟩
def sg (x b i : Int) : Int := if i = x then b - 1 else i
theorem sg_r {x b i : Int} (hx : 0 ≤ x ∧ x < b) (hi : 0 ≤ i ∧ i < b - 1) : (0 ≤ sg x b i ∧ sg x b i < b) ∧ ¬ sg x b i = x := by
  unfold sg; split <;> omega
theorem sg_i {x b i j : Int} (hx : 0 ≤ x ∧ x < b) (hi : 0 ≤ i ∧ i < b - 1) (hj : 0 ≤ j ∧ j < b - 1) (h : ¬ i = j) : ¬ sg x b i = sg x b j := by
  unfold sg; split <;> split <;> omega
theorem sg_o {x b j : Int} (hx : 0 ≤ x ∧ x < b) (hj : 0 ≤ j ∧ j < b) (h : ¬ j = x) : ∃ i, (0 ≤ i ∧ i < b - 1) ∧ sg x b i = j := by
  by_cases q : j = b - 1
  · exact ⟨x, by omega, by unfold sg; rw [if_pos rfl]; omega⟩
  · exact ⟨j, by omega, by unfold sg; rw [if_neg h]⟩
theorem sg_u {x b i : Int} {f : Int → Int} : uZ f x (f (b - 1)) i = f (sg x b i) := by
  unfold sg
  by_cases q : i = x
  · subst q; rw [uZ_s, if_pos rfl]
  · rw [uZ_n q, if_neg q]
section PL
variable {fsz fco ffu fsu fbb fmo fle RF CF PC PW A C R : Int → Int} {n : Nat} {p b : Int}
theorem fr_0 (h : wf fsz ffu fsu fbb fmo fle n 0 0 = 0) : FR (PR fsz fco ffu fsu fbb fmo fle n) n CF PC PW 0 0 A C R :=
  ⟨fun i a b => by omega, fun i j a b => by omega, fun i a b => by omega, ⟨by omega, fun j a b => by omega, fun i j a b c => by omega⟩, fun r k g q => absurd q (pr_none h n r k g)⟩
theorem fr_1 (hT : TB fsz fco ffu fsu fbb fmo) (hn : n ≤ 12) {w : Int} (h : 0 < wf fsz ffu fsu fbb fmo fle n 0 0) (hA : w = 0) : FR (PR fsz fco ffu fsu fbb fmo fle n) n CF PC PW 0 1 (uZ A 0 w) (uZ C 0 0) (uZ R 0 0) := by
  subst hA
  refine ⟨fun i a b => ?_, fun i j a b c d e => by omega, fun i a b j c d => by omega, ⟨by omega, fun j a b => by omega, fun i j a b c => by omega⟩, fun r k g q => Or.inr ⟨0, by omega, ?_⟩⟩
  · have : i = 0 := by omega
    subst this
    rw [uZ_s, uZ_s, uZ_s]
    exact ⟨0, 0, by omega, by decide, rfl, rfl, rfl, h⟩
  · rw [uZ_s, uZ_s]
    have h1 := pr_rb hT (by omega) q
    have h2 := pw8p (12 - n)
    have e : wid 0 = 68719476736 := by decide
    omega
theorem ft_0 : FT CF 0 0 0 A C R := ⟨by omega, by omega, fun i a b => by omega⟩
theorem ft_1 {A : Int → Int} {w : Int} (hA : w = 0) : FT CF 0 0 1 (uZ A 0 w) C R := ⟨by omega, by omega, fun i a b _ => by
  have : i = 0 := by omega
  subst this; rw [uZ_s]; omega⟩
/-- all the rows that are plans -/
def PF (X : Nat → Int → Int → Int → Prop) (n : Nat) (E v : Int) : Prop := ∃ r k g, X n r k g ∧ E = (g + 12000) * 68719476736 + r ∧ v = 0
theorem fr_in (hT : TB fsz fco ffu fsu fbb fmo) (hn : n ≤ 12) (hF : ∀ e : Nat, e ≤ n → ∀ k, vk k → 0 < wt fsz ffu fsu fbb fmo e k → FB fsz fco ffu fsu fbb fmo fle n e k RF CF) {a c r0 : Int} (h : EB (PR fsz fco ffu fsu fbb fmo fle n) n a c r0) {r k g : Int} (q : PR fsz fco ffu fsu fbb fmo fle n n r k g) (hr : r0 ≤ r ∧ r < r0 + wid a) : cde CF a c r0 ≤ (g + 12000) * 68719476736 + r := by
  obtain ⟨d, k1, h1, h2, h3, h4, h5, h6, h7, h8, h9, -⟩ := eb_x hT hn hF h
  obtain ⟨j, hj⟩ : ∃ j, n = d + j := ⟨n - d, by omega⟩
  have hx := pr_pre hT (d := d) hn j r k g (by omega) (by rw [← hj]; exact q)
  rw [← hj] at hx
  obtain ⟨r1, k2, g1, s1, s2, s3⟩ := hx
  have hp := pw8p (12 - n)
  obtain ⟨u1, u2, u3⟩ := pr_uq hT (r := r) (by omega) h6 s1 ⟨hr.1, by rw [← h7]; exact hr.2⟩ ⟨by omega, by omega⟩
  subst u1 u2 u3
  rw [h8]
  have e : cod fsz fco ffu fsu fbb fmo fle n n r k g = (g + 12000) * 68719476736 + r := by
    unfold cod
    rw [Nat.sub_self, show cf fsz fco ffu fsu fbb fmo fle 0 n k = 0 from rfl, Int.add_zero]
  omega
theorem fr_end (hT : TB fsz fco ffu fsu fbb fmo) (hn : n ≤ 12) (hF : ∀ e : Nat, e ≤ n → ∀ k, vk k → 0 < wt fsz ffu fsu fbb fmo e k → FB fsz fco ffu fsu fbb fmo fle n e k RF CF) (h : FR (PR fsz fco ffu fsu fbb fmo fle n) n CF PC PW p b A C R) (he : b ≤ 0 ∨ 20 ≤ p) : FS (PF (PR fsz fco ffu fsu fbb fmo fle n) n) p (fun i => (PC i + 12000) * 68719476736 + PW i) (fun _ => 0) := by
  obtain ⟨h1, h2, h3, h4, h5⟩ := h
  refine ⟨h4.1, fun i i1 i2 => ?_, fun i j i1 i2 i3 => h4.2.2 i j i1 i2 i3, fun E v q => ?_⟩
  · obtain ⟨k, hk⟩ := h4.2.1 i i1 i2
    exact ⟨PW i, k, PC i, hk, rfl, rfl⟩
  · obtain ⟨r, k, g, q1, q2, -⟩ := q
    rcases h5 r k g q1 with ⟨j, j1, j2⟩ | ⟨i, i1, i2⟩
    · exact Or.inl ⟨j, j1, by show (PC j + 12000) * 68719476736 + PW j = E; rw [j2, q2]⟩
    · have hp := h4.1
      refine Or.inr ⟨by omega, ?_⟩
      have a := fr_in hT hn hF (h1 i i1.1 i1.2) q1 i2
      have c := h3 i i1.1 i1.2 19 (by omega) (by omega)
      show (PC 19 + 12000) * 68719476736 + PW 19 < E
      omega
/-- the least one's number is below all others' -/
theorem fr_lt (hT : TB fsz fco ffu fsu fbb fmo) (hn : n ≤ 12) (hF : ∀ e : Nat, e ≤ n → ∀ k, vk k → 0 < wt fsz ffu fsu fbb fmo e k → FB fsz fco ffu fsu fbb fmo fle n e k RF CF) (h : FR (PR fsz fco ffu fsu fbb fmo fle n) n CF PC PW p b A C R) {x j : Int} (hx : 0 ≤ x ∧ x < b) (hm : ∀ i, 0 ≤ i → i < b → cde CF (A x) (C x) (R x) ≤ cde CF (A i) (C i) (R i)) (hj : 0 ≤ j ∧ j < b) (hne : ¬ j = x) : cde CF (A x) (C x) (R x) < cde CF (A j) (C j) (R j) := by
  have a := hm j hj.1 hj.2
  obtain ⟨d, k, -, -, -, -, -, -, -, -, e1, -, -, e2, -⟩ := eb_x hT hn hF (h.1 j hj.1 hj.2)
  obtain ⟨d', k', -, -, -, -, -, -, -, -, f1, -, -, f2, -⟩ := eb_x hT hn hF (h.1 x hx.1 hx.2)
  have g := h.2.1 j x hj.1 hj.2 hx.1 hx.2 hne
  unfold cde at a ⊢
  omega
theorem fr_fin (hT : TB fsz fco ffu fsu fbb fmo) (hn : n ≤ 12) (hF : ∀ e : Nat, e ≤ n → ∀ k, vk k → 0 < wt fsz ffu fsu fbb fmo e k → FB fsz fco ffu fsu fbb fmo fle n e k RF CF) (h : FR (PR fsz fco ffu fsu fbb fmo fle n) n CF PC PW p b A C R) {x : Int} (hx : 0 ≤ x ∧ x < b) (hm : ∀ i, 0 ≤ i → i < b → cde CF (A x) (C x) (R x) ≤ cde CF (A i) (C i) (R i)) (hp : p < 20) (hd : A x / 11767 = (n : Int)) :
    FR (PR fsz fco ffu fsu fbb fmo fle n) n CF (uZ PC p (C x)) (uZ PW p (R x)) (p + 1) (b - 1) (uZ A x (A (b - 1))) (uZ C x (C (b - 1))) (uZ R x (R (b - 1))) := by
  have hlt := fun j => fr_lt hT hn hF h hx hm (j := j)
  obtain ⟨h1, h2, h3, h4, h5⟩ := h
  obtain ⟨d, k, x1, x2, x3, x4, x5, x6, x7, x8, x9, -⟩ := eb_x hT hn hF (h1 x hx.1 hx.2)
  have ed : d = n := by omega
  subst ed
  have ec : cde CF (A x) (C x) (R x) = (C x + 12000) * 68719476736 + R x := by
    rw [x8]; unfold cod
    rw [Nat.sub_self, show cf fsz fco ffu fsu fbb fmo fle 0 d k = 0 from rfl, Int.add_zero]
  have hp0 := h4.1
  have hold : ∀ j, j < p → (uZ PC p (C x) j + 12000) * 68719476736 + uZ PW p (R x) j = (PC j + 12000) * 68719476736 + PW j := fun j hj => by rw [uZ_n (by omega), uZ_n (by omega)]
  have hnew : (uZ PC p (C x) p + 12000) * 68719476736 + uZ PW p (R x) p = cde CF (A x) (C x) (R x) := by rw [uZ_s, uZ_s, ec]
  refine ⟨fun i i1 i2 => ?_, fun i j i1 i2 j1 j2 hij => ?_, fun i i1 i2 j j1 j2 => ?_, ⟨by omega, fun j j1 j2 => ?_, fun i j i1 i2 j2 => ?_⟩, fun r k g q => ?_⟩
  · rw [sg_u, sg_u, sg_u]
    have := (sg_r hx ⟨i1, i2⟩).1
    exact h1 _ this.1 this.2
  · rw [sg_u, sg_u, sg_u, sg_u]
    have a := (sg_r hx ⟨i1, i2⟩).1
    have c := (sg_r hx ⟨j1, j2⟩).1
    exact h2 _ _ a.1 a.2 c.1 c.2 (sg_i hx ⟨i1, i2⟩ ⟨j1, j2⟩ hij)
  · rw [sg_u, sg_u, sg_u]
    have a := sg_r hx ⟨i1, i2⟩
    by_cases q : j = p
    · subst q; rw [hnew]; exact hlt _ a.1 a.2
    · rw [hold j (by omega)]; exact h3 _ a.1.1 a.1.2 j j1 (by omega)
  · by_cases q : j = p
    · subst q; rw [uZ_s, uZ_s]; exact ⟨k, x6⟩
    · rw [uZ_n q, uZ_n q]; exact h4.2.1 j j1 (by omega)
  · by_cases q : j = p
    · subst q; rw [hnew, hold i i2]; exact h3 x hx.1 hx.2 i i1 i2
    · rw [hold i (by omega), hold j (by omega)]; exact h4.2.2 i j i1 i2 (by omega)
  · rcases h5 r k g q with ⟨j, j1, j2⟩ | ⟨i, i1, i2⟩
    · exact Or.inl ⟨j, by omega, by rw [hold j j1.2]; exact j2⟩
    · by_cases e : i = x
      · subst e
        have hq := pr_rb hT (by omega) q
        have hW := pw8p (12 - d)
        obtain ⟨u1, u2, u3⟩ := pr_uq hT (r := r) (by omega) x6 q ⟨i2.1, by rw [← x7]; exact i2.2⟩ ⟨by omega, by omega⟩
        refine Or.inl ⟨p, by omega, ?_⟩
        rw [hnew, ec, u1, u3]
      · obtain ⟨i', j1, j2⟩ := sg_o hx i1 e
        refine Or.inr ⟨i', j1, ?_⟩
        rw [sg_u, sg_u, j2]; exact i2
theorem ft_fin {t : Int} (h : FT CF p t b A C R) {x : Int} (hx : 0 ≤ x ∧ x < b) (hT : 0 ≤ p ∧ p ≤ 20) {A' C' R' : Int → Int} (hA : ∀ i, 0 ≤ i → i < b - 1 → 0 ≤ A' i) : FT CF (p + 1) 0 (b - 1) A' C' R' := by
  obtain ⟨h1, h2, h3⟩ := h
  exact ⟨by omega, by omega, fun i a c _ => by have := hA i a c; omega⟩
theorem fr_pop (hT : TB fsz fco ffu fsu fbb fmo) (hn : n ≤ 12) (hF : ∀ e : Nat, e ≤ n → ∀ k, vk k → 0 < wt fsz ffu fsu fbb fmo e k → FB fsz fco ffu fsu fbb fmo fle n e k RF CF) (h : FR (PR fsz fco ffu fsu fbb fmo fle n) n CF PC PW p b A C R) {x : Int} (hx : 0 ≤ x ∧ x < b) (hm : ∀ i, 0 ≤ i → i < b → cde CF (A x) (C x) (R x) ≤ cde CF (A i) (C i) (R i)) {d : Nat} {k0 : Int} {W : Int → Int} (hd : A x / 11767 = (d : Int)) :
    FH fsz fbb ffu fsu fmo fle (PR fsz fco ffu fsu fbb fmo fle n) n CF PC PW p (b - 1) (uZ A x (A (b - 1))) (uZ C x (C (b - 1))) (uZ R x (R (b - 1))) d k0 (R x) (cde CF (A x) (C x) (R x)) W 0 := by
  have hlt := fun j => fr_lt hT hn hF h hx hm (j := j)
  obtain ⟨h1, h2, h3, h4, h5⟩ := h
  have hw : wid (A x) = 8 ^ (12 - d) := by unfold wid; rw [hd]; rfl
  refine ⟨fun i i1 i2 => ?_, fun i j i1 i2 j1 j2 hij => ?_, fun i i1 i2 j j1 j2 => ?_, h4, fun r k g q => ?_, fun i i1 i2 => ?_, fun c c1 c2 => by omega⟩
  · rw [sg_u, sg_u, sg_u]
    have := (sg_r hx ⟨i1, i2⟩).1
    exact h1 _ this.1 this.2
  · rw [sg_u, sg_u, sg_u, sg_u]
    have a := (sg_r hx ⟨i1, i2⟩).1
    have c := (sg_r hx ⟨j1, j2⟩).1
    exact h2 _ _ a.1 a.2 c.1 c.2 (sg_i hx ⟨i1, i2⟩ ⟨j1, j2⟩ hij)
  · rw [sg_u, sg_u, sg_u]
    have a := sg_r hx ⟨i1, i2⟩
    exact h3 _ a.1.1 a.1.2 j j1 j2
  · rcases h5 r k g q with z | ⟨i, i1, i2⟩
    · exact Or.inl z
    · by_cases e : i = x
      · subst e
        refine Or.inr (Or.inr ?_)
        rw [Int.zero_mul, Int.add_zero, ← hw]; exact i2
      · obtain ⟨i', j1, j2⟩ := sg_o hx i1 e
        refine Or.inr (Or.inl ⟨i', j1, ?_⟩)
        rw [sg_u, sg_u, j2]; exact i2
  · rw [sg_u, sg_u, sg_u]
    have a := sg_r hx ⟨i1, i2⟩
    refine Or.inl ⟨?_, hlt _ a.1 a.2⟩
    rw [← hw]
    exact h2 _ _ a.1.1 a.1.2 hx.1 hx.2 a.2
section CHI
variable {d : Nat} {k0 r0 g0 E0 y : Int} {W : Int → Int}
theorem fh_no (hT : TB fsz fco ffu fsu fbb fmo) (hn : n ≤ 12) (hd : d < n) (h0 : PR fsz fco ffu fsu fbb fmo fle n d r0 k0 g0) (h : FH fsz fbb ffu fsu fmo fle (PR fsz fco ffu fsu fbb fmo fle n) n CF PC PW p b A C R d k0 r0 E0 W y) (hy : 0 ≤ y ∧ y < fsz (d : Int)) (hv : ¬ (¬ kn fbb ffu fsu fmo ((d : Int) * 6 + y) y k0 = -1 ∧ 0 < wf fsz ffu fsu fbb fmo fle (n - (d + 1)) (d + 1) (kn fbb ffu fsu fmo ((d : Int) * 6 + y) y k0))) :
    FH fsz fbb ffu fsu fmo fle (PR fsz fco ffu fsu fbb fmo fle n) n CF PC PW p b A C R d k0 r0 E0 W (y + 1) := by
  obtain ⟨h1, h2, h3, h4, h5, h6, h7⟩ := h
  refine ⟨h1, h2, h3, h4, fun r k g q => ?_, fun i i1 i2 => ?_, fun c c1 c2 c3 => ?_⟩
  · rcases h5 r k g q with z | z | z
    · exact Or.inl z
    · exact Or.inr (Or.inl z)
    · refine Or.inr (Or.inr ⟨?_, z.2⟩)
      have hM := pw8p (11 - d)
      have hy0 : 0 ≤ y * 8 ^ (11 - d) := Int.mul_nonneg hy.1 (by omega)
      obtain ⟨c, c1, c2, c3, c4⟩ := pr_ch hT hn hd q h0 ⟨by omega, z.2⟩
      have hne : ¬ c = y := fun e => by subst e; exact hv c2
      have hgt : y < c := by
        rcases Int.lt_or_le y c with t | t
        · exact t
        · have e1 : (c + 1) * 8 ^ (11 - d) ≤ y * 8 ^ (11 - d) := Int.mul_le_mul_of_nonneg_right (by omega) (by omega)
          rw [Int.add_mul, Int.one_mul] at e1
          omega
      have e2 : (y + 1) * 8 ^ (11 - d) ≤ c * 8 ^ (11 - d) := Int.mul_le_mul_of_nonneg_right (by omega) (by omega)
      omega
  · rcases h6 i i1 i2 with z | ⟨c, c1, c2⟩
    · exact Or.inl z
    · exact Or.inr ⟨c, by omega, c2⟩
  · by_cases e : c = y
    · subst e; exact absurd c3 hv
    · exact h7 c c1 (by omega) c3
theorem fh_yes (hT : TB fsz fco ffu fsu fbb fmo) (hn : n ≤ 12) (hF : ∀ e : Nat, e ≤ n → ∀ k, vk k → 0 < wt fsz ffu fsu fbb fmo e k → FB fsz fco ffu fsu fbb fmo fle n e k RF CF) (hd : d < n) (h0 : PR fsz fco ffu fsu fbb fmo fle n d r0 k0 g0) (hE : E0 = cod fsz fco ffu fsu fbb fmo fle n d r0 k0 g0) (hE2 : ∀ j, 0 ≤ j → j < p → (PC j + 12000) * 68719476736 + PW j < E0)
    (hW : W = fun c => cod fsz fco ffu fsu fbb fmo fle n (d + 1) (r0 + c * 8 ^ (11 - d)) (kn fbb ffu fsu fmo ((d : Int) * 6 + c) c k0) (g0 + fco ((d : Int) * 6 + c)))
    (h : FH fsz fbb ffu fsu fmo fle (PR fsz fco ffu fsu fbb fmo fle n) n CF PC PW p b A C R d k0 r0 E0 W y) (hb : 0 ≤ b) (hy : 0 ≤ y ∧ y < fsz (d : Int)) (hv : ¬ kn fbb ffu fsu fmo ((d : Int) * 6 + y) y k0 = -1) (hv2 : 0 < wf fsz ffu fsu fbb fmo fle (n - (d + 1)) (d + 1) (kn fbb ffu fsu fmo ((d : Int) * 6 + y) y k0)) {a c r : Int}
    (ha : a = 11767 * ((d : Int) + 1) + kat (kn fbb ffu fsu fmo ((d : Int) * 6 + y) y k0)) (hc : c = g0 + fco ((d : Int) * 6 + y)) (hr : r = r0 + y * 8 ^ (11 - d)) :
    FH fsz fbb ffu fsu fmo fle (PR fsz fco ffu fsu fbb fmo fle n) n CF PC PW p (b + 1) (uZ A b a) (uZ C b c) (uZ R b r) d k0 r0 E0 W (y + 1) := by
  obtain ⟨h1, h2, h3, h4, h5, h6, h7⟩ := h
  have hsz := hT.1 (d : Int) (by omega) (by omega)
  have hP : PR fsz fco ffu fsu fbb fmo fle n (d + 1) r (kn fbb ffu fsu fmo ((d : Int) * 6 + y) y k0) c := ⟨y, k0, g0, r0, h0, hy, rfl, hv, hv2, hr, hc⟩
  have hEB : EB (PR fsz fco ffu fsu fbb fmo fle n) n a c r := ⟨d + 1, _, by omega, by rw [ha]; omega, hP⟩
  obtain ⟨wv, vv⟩ := pr_wt hT hn (d + 1) _ _ _ (by omega) hP
  have hkr := (kat_r vv).1
  have hda : a / 11767 = (d : Int) + 1 := by omega
  have hwa : wid a = 8 ^ (11 - d) := by unfold wid; rw [hda]; rw [show 12 - ((d : Int) + 1).toNat = 11 - d by omega]
  have hcd : cde CF a c r = W y := by
    obtain ⟨d', k', x1, x2, x3, x4, x5, x6, x7, x8, -⟩ := eb_x hT hn hF hEB
    have : d' = d + 1 := by omega
    subst this
    obtain ⟨u1, u2⟩ := pr_fun hT (d + 1) r k' c _ c (by omega) x6 hP
    rw [x8, hW, u1, hr, hc]
  have hch := cod_child hT hn hd (r := r0) (g := g0) hy hv hv2
  have hcE : E0 ≤ cde CF a c r := by rw [hcd, hW, hE]; exact hch
  have hM := pw8p (11 - d)
  have h8 := pw8 (d := d) (by omega)
  have hy0 : 0 ≤ y * 8 ^ (11 - d) := Int.mul_nonneg hy.1 (by omega)
  have hy1 : (y + 1) * 8 ^ (11 - d) ≤ 8 * 8 ^ (11 - d) := Int.mul_le_mul_of_nonneg_right (by omega) (by omega)
  have hy2 : (y + 1) * 8 ^ (11 - d) = y * 8 ^ (11 - d) + 8 ^ (11 - d) := by rw [Int.add_mul, Int.one_mul]
  have hnb : ∀ i, 0 ≤ i → i < b → R i + wid (A i) ≤ r ∨ r + wid a ≤ R i := by
    intro i i1 i2
    rcases h6 i i1 i2 with ⟨z, -⟩ | ⟨cc, c1, c2, c3⟩
    · omega
    · have hwi : wid (A i) = 8 ^ (11 - d) := by unfold wid; rw [c3]; rw [show 12 - ((d : Int) + 1).toNat = 11 - d by omega]
      have e1 : (cc + 1) * 8 ^ (11 - d) ≤ y * 8 ^ (11 - d) := Int.mul_le_mul_of_nonneg_right (by omega) (by omega)
      rw [Int.add_mul, Int.one_mul] at e1
      omega
  refine ⟨fun i i1 i2 => ?_, fun i j i1 i2 j1 j2 hij => ?_, fun i i1 i2 j j1 j2 => ?_, h4, fun r' k g q => ?_, fun i i1 i2 => ?_, fun cc c1 c2 c3 => ?_⟩
  · by_cases e : i = b
    · subst e; rw [uZ_s, uZ_s, uZ_s]; exact hEB
    · rw [uZ_n e, uZ_n e, uZ_n e]; exact h1 i i1 (by omega)
  · by_cases e : i = b
    · subst e
      rw [uZ_s, uZ_s, uZ_n (fun q => hij q.symm), uZ_n (fun q => hij q.symm)]
      exact (hnb j j1 (by omega)).symm
    · by_cases e2 : j = b
      · subst e2
        rw [uZ_s, uZ_s, uZ_n e, uZ_n e]
        exact hnb i i1 (by omega)
      · rw [uZ_n e, uZ_n e, uZ_n e2, uZ_n e2]; exact h2 i j i1 (by omega) j1 (by omega) hij
  · by_cases e : i = b
    · subst e; rw [uZ_s, uZ_s, uZ_s]; have := hE2 j j1 j2; omega
    · rw [uZ_n e, uZ_n e, uZ_n e]; exact h3 i i1 (by omega) j j1 j2
  · rcases h5 r' k g q with z | ⟨i, i1, i2⟩ | z
    · exact Or.inl z
    · refine Or.inr (Or.inl ⟨i, by omega, ?_⟩)
      rw [uZ_n (by omega), uZ_n (by omega)]; exact i2
    · by_cases t : r' < r + wid a
      · refine Or.inr (Or.inl ⟨b, by omega, ?_⟩)
        rw [uZ_s, uZ_s]; omega
      · refine Or.inr (Or.inr ⟨by omega, z.2⟩)
  · by_cases e : i = b
    · subst e; rw [uZ_s, uZ_s, uZ_s]; exact Or.inr ⟨y, by omega, hr, hda⟩
    · rw [uZ_n e, uZ_n e, uZ_n e]
      rcases h6 i i1 (by omega) with z | ⟨c', c1, c2⟩
      · exact Or.inl z
      · exact Or.inr ⟨c', by omega, c2⟩
  · by_cases e : cc = y
    · subst e; exact ⟨b, by omega, by rw [uZ_s, uZ_s, uZ_s]; exact hcd⟩
    · obtain ⟨i, i1, i2⟩ := h7 cc c1 (by omega) c3
      exact ⟨i, by omega, by rw [uZ_n (by omega), uZ_n (by omega), uZ_n (by omega)]; exact i2⟩
theorem fh_fr (hT : TB fsz fco ffu fsu fbb fmo) (hn : n ≤ 12) (hd : d < n) (h0 : PR fsz fco ffu fsu fbb fmo fle n d r0 k0 g0) (h : FH fsz fbb ffu fsu fmo fle (PR fsz fco ffu fsu fbb fmo fle n) n CF PC PW p b A C R d k0 r0 E0 W y) (hy : y = fsz (d : Int)) : FR (PR fsz fco ffu fsu fbb fmo fle n) n CF PC PW p b A C R := by
  obtain ⟨h1, h2, h3, h4, h5, h6, h7⟩ := h
  refine ⟨h1, h2, h3, h4, fun r k g q => ?_⟩
  rcases h5 r k g q with z | z | z
  · exact Or.inl z
  · exact Or.inr z
  · have hsz := hT.1 (d : Int) (by omega) (by omega)
    have hM := pw8p (11 - d)
    have hy0 : 0 ≤ y * 8 ^ (11 - d) := Int.mul_nonneg (by omega) (by omega)
    obtain ⟨c, c1, c2, c3, c4⟩ := pr_ch hT hn hd q h0 ⟨by omega, z.2⟩
    have e1 : (c + 1) * 8 ^ (11 - d) ≤ y * 8 ^ (11 - d) := Int.mul_le_mul_of_nonneg_right (by omega) (by omega)
    rw [Int.add_mul, Int.one_mul] at e1
    omega
theorem fh_ft (hT : TB fsz fco ffu fsu fbb fmo) (hn : n ≤ 12) (hF : ∀ e : Nat, e ≤ n → ∀ k, vk k → 0 < wt fsz ffu fsu fbb fmo e k → FB fsz fco ffu fsu fbb fmo fle n e k RF CF) (hd : d < n) (h0 : PR fsz fco ffu fsu fbb fmo fle n d r0 k0 g0) (hE : E0 = cod fsz fco ffu fsu fbb fmo fle n d r0 k0 g0)
    (hW : W = fun c => cod fsz fco ffu fsu fbb fmo fle n (d + 1) (r0 + c * 8 ^ (11 - d)) (kn fbb ffu fsu fmo ((d : Int) * 6 + c) c k0) (g0 + fco ((d : Int) * 6 + c)))
    (h : FH fsz fbb ffu fsu fmo fle (PR fsz fco ffu fsu fbb fmo fle n) n CF PC PW p b A C R d k0 r0 E0 W y) (hy : y = fsz (d : Int)) {t b0 : Int} (ht : 0 ≤ t ∧ t ≤ (d : Int)) (hb : b0 ≤ 1 + 5 * (12 * p + t)) (hb2 : b ≤ b0 - 1 + y) : FT CF p (t + 1) b A C R := by
  have hsz := hT.1 (d : Int) (by omega) (by omega)
  refine ⟨by omega, by omega, fun i i1 i2 hmin => ?_⟩
  rcases h.2.2.2.2.2.1 i i1 i2 with ⟨z1, z2⟩ | ⟨c, c1, c2, c3⟩
  · exfalso
    obtain ⟨c, c1, c2, c3, c4⟩ := cod_best hT hn hd (r := r0) (g := g0) (pr_wf d r0 k0 g0 h0)
    obtain ⟨i', j1, j2⟩ := h.2.2.2.2.2.2 c c1.1 (by omega) ⟨c2, c3⟩
    have hm := hmin i' j1.1 j1.2
    rw [j2, hW] at hm
    have hm2 : cde CF (A i) (C i) (R i) < E0 + 8 ^ (12 - d) := by rw [hE]; exact Int.lt_of_le_of_lt hm c4
    have hr0 := pr_rb hT (by omega) h0
    obtain ⟨d', k', -, -, -, -, -, -, -, -, e1, -, -, e2, -⟩ := eb_x hT hn hF (h.1 i i1 i2)
    unfold cod at hE
    unfold cde at z2 hm2
    omega
  · omega
end CHI
end PL
theorem mn_y {f : Int → Int} {x q : Int} (h : ∀ i, 0 ≤ i → i < x → f q ≤ f i) (c : f x < f q) : ∀ i, 0 ≤ i → i < x + 1 → f x ≤ f i := fun i a b => by
  by_cases z : i = x
  · subst z; exact Int.le_refl _
  · have := h i a (by omega); omega
theorem mn_n {f : Int → Int} {x q : Int} (h : ∀ i, 0 ≤ i → i < x → f q ≤ f i) (c : ¬ f x < f q) : ∀ i, 0 ≤ i → i < x + 1 → f q ≤ f i := fun i a b => by
  by_cases z : i = x
  · subst z; omega
  · exact h i a (by omega)
theorem mn_0 {f : Int → Int} : ∀ i, 0 ≤ i → i < 1 → f 0 ≤ f i := fun i a b => by
  have z : i = 0 := by omega
  subst z; exact Int.le_refl _
