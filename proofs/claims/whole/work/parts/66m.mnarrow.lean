/-! THE MODEL'S WIDE NODES: six arrays as one of numbers -/
def fA (R : Int → Int) : Int → Int := fun k => R k / 16777216 % 64
def fB (R : Int → Int) : Int → Int := fun k => R k / 262144 % 64
def fC (R : Int → Int) : Int → Int := fun k => R k / 4096 % 64
def fD (R : Int → Int) : Int → Int := fun k => R k / 64 % 64
def fL (R : Int → Int) : Int → Int := fun k => R k % 64
def fW (R : Int → Int) : Int → Int := fun k => R k / 1073741824 - 12000
theorem f_u {R : Int → Int} {t E : Int} (g : Int → Int) : (fun k => g (uZ R t E k)) = uZ (fun k => g (R k)) t (g E) := by
  funext k
  by_cases q : k = t
  · subst q; rw [uZ_s, uZ_s]
  · rw [uZ_n q, uZ_n q]
theorem fA_m {R : Int → Int} {f t : Int} : uZ (fA R) t ((fA R) f) = fA (uZ R t (R f)) := (f_u (fun E => E / 16777216 % 64)).symm
theorem fB_m {R : Int → Int} {f t : Int} : uZ (fB R) t ((fB R) f) = fB (uZ R t (R f)) := (f_u (fun E => E / 262144 % 64)).symm
theorem fC_m {R : Int → Int} {f t : Int} : uZ (fC R) t ((fC R) f) = fC (uZ R t (R f)) := (f_u (fun E => E / 4096 % 64)).symm
theorem fD_m {R : Int → Int} {f t : Int} : uZ (fD R) t ((fD R) f) = fD (uZ R t (R f)) := (f_u (fun E => E / 64 % 64)).symm
theorem fL_m {R : Int → Int} {f t : Int} : uZ (fL R) t ((fL R) f) = fL (uZ R t (R f)) := (f_u (fun E => E % 64)).symm
theorem fW_m {R : Int → Int} {f t : Int} : uZ (fW R) t ((fW R) f) = fW (uZ R t (R f)) := (f_u (fun E => E / 1073741824 - 12000)).symm
theorem pw_6 {R : Int → Int} {t E z2 z3 z4 z5 z6 z7 : Int} (hE : E = wp z2 z3 z4 z5 z6 z7) (h3 : 0 ≤ z3 ∧ z3 < 64) (h4 : 0 ≤ z4 ∧ z4 < 64) (h5 : 0 ≤ z5 ∧ z5 < 64) (h6 : 0 ≤ z6 ∧ z6 < 64) (h7 : 0 ≤ z7 ∧ z7 < 64) : uZ (fA R) t z3 = fA (uZ R t E) ∧ uZ (fB R) t z4 = fB (uZ R t E) ∧ uZ (fC R) t z5 = fC (uZ R t E) ∧ uZ (fD R) t z6 = fD (uZ R t E) ∧ uZ (fL R) t z7 = fL (uZ R t E) ∧ uZ (fW R) t z2 = fW (uZ R t E) := by
  obtain ⟨p1, p2, p3, p4, p5, p6⟩ := wp_p (a := z2) h3 h4 h5 h6 h7
  rw [← hE] at p1 p2 p3 p4 p5 p6
  refine ⟨?_, ?_, ?_, ?_, ?_, ?_⟩
  · rw [← p2]; exact (f_u (fun E => E / 16777216 % 64)).symm
  · rw [← p3]; exact (f_u (fun E => E / 262144 % 64)).symm
  · rw [← p4]; exact (f_u (fun E => E / 4096 % 64)).symm
  · rw [← p5]; exact (f_u (fun E => E / 64 % 64)).symm
  · rw [← p6]; exact (f_u (fun E => E % 64)).symm
  · rw [← p1]; exact (f_u (fun E => E / 1073741824 - 12000)).symm
theorem pw_2 {R : Int → Int} {t z3 z4 : Int} (h3 : 0 ≤ z3 ∧ z3 < 64) (h4 : 0 ≤ z4 ∧ z4 < 64) : ∃ E, uZ (fA R) t z3 = fA (uZ R t E) ∧ uZ (fB R) t z4 = fB (uZ R t E) ∧ fC R = fC (uZ R t E) ∧ fD R = fD (uZ R t E) ∧ fL R = fL (uZ R t E) ∧ fW R = fW (uZ R t E) := by
  refine ⟨wp (fW R t) z3 z4 (fC R t) (fD R t) (fL R t), ?_⟩
  obtain ⟨q1, q2, q3, q4, q5, q6⟩ := pw_6 (R := R) (t := t) (z2 := fW R t) (z5 := fC R t) (z6 := fD R t) (z7 := fL R t) rfl h3 h4 (by unfold fC; omega) (by unfold fD; omega) (by unfold fL; omega)
  rw [uZ_id] at q3 q4 q5 q6
  exact ⟨q1, q2, q3, q4, q5, q6⟩
theorem pw_c {R : Int → Int} {t E : Int} (h : E % 1073741824 = R t % 1073741824) : fA R = fA (uZ R t E) ∧ fB R = fB (uZ R t E) ∧ fC R = fC (uZ R t E) ∧ fD R = fD (uZ R t E) ∧ fL R = fL (uZ R t E) ∧ uZ (fW R) t (E / 1073741824 - 12000) = fW (uZ R t E) := by
  have key : ∀ g : Int → Int, g E = g (R t) → (fun k => g (R k)) = (fun k => g (uZ R t E k)) := fun g hg => by
    rw [f_u, hg]
    show _ = uZ (fun k => g (R k)) t ((fun k => g (R k)) t)
    rw [uZ_id]
  exact ⟨key (fun E => E / 16777216 % 64) (by omega), key (fun E => E / 262144 % 64) (by omega), key (fun E => E / 4096 % 64) (by omega), key (fun E => E / 64 % 64) (by omega), key (fun E => E % 64) (by omega), (f_u (fun E => E / 1073741824 - 12000)).symm⟩
theorem m6 {R : Int → Int} {k : Int} : R k = (fW R k + 12000) * 1073741824 + (fA R k * 16777216 + fB R k * 262144 + fC R k * 4096 + fD R k * 64 + fL R k) ∧ (0 ≤ fA R k ∧ fA R k < 64) ∧ (0 ≤ fB R k ∧ fB R k < 64) ∧ (0 ≤ fC R k ∧ fC R k < 64) ∧ (0 ≤ fD R k ∧ fD R k < 64) ∧ (0 ≤ fL R k ∧ fL R k < 64) := by
  unfold fW fA fB fC fD fL; omega
theorem wn_m {dd : Int} {R : Int → Int} {k : Int} (h : WN dd (R k)) : (-dd ≤ fW R k ∧ fW R k ≤ dd) ∧ fA R k ≤ 40 ∧ fB R k ≤ 40 ∧ fC R k ≤ 40 ∧ fD R k ≤ 40 := ⟨⟨h.1.2.1, h.1.2.2⟩, h.2.1, h.2.2.1, h.2.2.2.1, h.2.2.2.2⟩
theorem wfo_w {fco ffu fsu fmo R : Int → Int} {pl cb k z2 z3 z4 z5 z6 : Int} (h2 : z2 = fW R k + fco pl) (h3 : z3 = fA R k + ffu pl) (h4 : z4 = fB R k + fsu pl) (h5 : z5 = min (fC R k + ffu pl) (fmo 0)) (h6 : z6 = min (fD R k + fsu pl) (fmo 1)) : wfo fco ffu fsu fmo pl cb (R k) = wp z2 z3 z4 z5 z6 cb := by
  subst h2 h3 h4 h5 h6; rfl
/-- a follower put in: nothing, a cost lowered, one more -/
def MF (fco ffu fsu fmo : Int → Int) (R : Int → Int) (fr w k pl c : Int) (R' : Int → Int) (w' : Int) : Prop :=
  (¬ (fA R k + ffu pl ≤ fmo 0 ∧ fB R k + fsu pl ≤ fmo 1) ∧ w' = w ∧ ∀ j, j < fr + w → R' j = R j) ∨
  ((fA R k + ffu pl ≤ fmo 0 ∧ fB R k + fsu pl ≤ fmo 1) ∧ ((∃ j, (fr ≤ j ∧ j < fr + w) ∧ R j % 1073741824 = wfo fco ffu fsu fmo pl (2 ^ c.toNat) (R k) % 1073741824 ∧ w' = w ∧ ∀ i, i < fr + w → R' i = uZ R j (min (R j) (wfo fco ffu fsu fmo pl (2 ^ c.toNat) (R k))) i) ∨
    ((∀ j, fr ≤ j → j < fr + w → ¬ R j % 1073741824 = wfo fco ffu fsu fmo pl (2 ^ c.toNat) (R k) % 1073741824) ∧ w' = w + 1 ∧ ∀ i, i < fr + w + 1 → R' i = uZ R (fr + w) (wfo fco ffu fsu fmo pl (2 ^ c.toNat) (R k)) i)))
/-- the least of each state, in any order -/
def AL (m : Int) (V : Int → Int) (X : Int → Prop) : Prop := (∀ i j, 0 ≤ i → i < j → j < m → ¬ V i % 1073741824 = V j % 1073741824) ∧ ∀ E, inR V m E ↔ NL X E
theorem al_0 {V : Int → Int} {X : Int → Prop} (h : ∀ E, ¬ X E) : AL 0 V X := ⟨fun i j a b c => by omega, fun E => ⟨fun ⟨i, a, b, _⟩ => by omega, fun q => absurd q.1 (h E)⟩⟩
theorem nl_c {X Y : Int → Prop} (h : ∀ E, X E ↔ Y E) (E : Int) : NL X E ↔ NL Y E := ⟨fun q => ⟨(h E).mp q.1, fun E' a b => q.2 E' ((h E').mpr a) b⟩, fun q => ⟨(h E).mpr q.1, fun E' a b => q.2 E' ((h E').mp a) b⟩⟩
theorem al_c {m : Int} {V V' : Int → Int} {X Y : Int → Prop} (h : AL m V X) (hX : ∀ E, X E ↔ Y E) (hV : ∀ i, 0 ≤ i → i < m → V' i = V i) : AL m V' Y := by
  refine ⟨fun i j a b c => ?_, fun E => ?_⟩
  · rw [hV i a (by omega), hV j (by omega) c]; exact h.1 i j a b c
  · rw [← nl_c hX E, ← h.2 E]
    exact ⟨fun ⟨i, a, b, c⟩ => ⟨i, a, b, by rw [← hV i a b]; exact c⟩, fun ⟨i, a, b, c⟩ => ⟨i, a, b, by rw [hV i a b]; exact c⟩⟩
theorem al_ex {m : Int} {V : Int → Int} {X : Int → Prop} (hm : 0 ≤ m) (h : AL m V X) {E : Int} (hE : X E) (hnn : ∀ E, X E → 0 ≤ E) : ∃ i, (0 ≤ i ∧ i < m) ∧ V i % 1073741824 = E % 1073741824 ∧ V i ≤ E := by
  -- a least one of E's state exists
  have key : ∀ (b : Nat) (E : Int), X E → E ≤ (b : Int) → ∃ F, NL X F ∧ F % 1073741824 = E % 1073741824 ∧ F ≤ E := by
    intro b
    induction b with
    | zero =>
      intro E hE hb
      exact ⟨E, ⟨hE, fun E' a _ => by have := hnn E' a; omega⟩, rfl, Int.le_refl _⟩
    | succ b ih =>
      intro E hE hb
      by_cases q : ∃ E', X E' ∧ E' % 1073741824 = E % 1073741824 ∧ E' < E
      · obtain ⟨E', a, c, d⟩ := q
        obtain ⟨F, f1, f2, f3⟩ := ih E' a (by omega)
        exact ⟨F, f1, by omega, by omega⟩
      · exact ⟨E, ⟨hE, fun E' a c => by
          rcases Int.lt_or_le E' E with t | t
          · exact absurd ⟨E', a, c, t⟩ q
          · exact t⟩, rfl, Int.le_refl _⟩
  obtain ⟨F, f1, f2, f3⟩ := key E.toNat E hE (by have := hnn E hE; omega)
  obtain ⟨i, a, b, c⟩ := (h.2 F).mpr f1
  exact ⟨i, ⟨a, b⟩, by rw [c]; exact f2, by rw [c]; exact f3⟩
theorem al_new {m E0 : Int} {V V' : Int → Int} {X Y : Int → Prop} (hm : 0 ≤ m) (h : AL m V X) (hnn : ∀ E, X E → 0 ≤ E) (hY : ∀ E, Y E ↔ X E ∨ E = E0) (hn : ∀ i, 0 ≤ i → i < m → ¬ V i % 1073741824 = E0 % 1073741824) (hV : ∀ i, 0 ≤ i → i < m → V' i = V i) (hE : V' m = E0) : AL (m + 1) V' Y := by
  have hno : ∀ E, X E → ¬ E % 1073741824 = E0 % 1073741824 := fun E hX q => by
    obtain ⟨i, a, b, -⟩ := al_ex hm h hX hnn
    exact hn i a.1 a.2 (b.trans q)
  refine ⟨fun i j a b c => ?_, fun E => ⟨fun ⟨i, a, b, c⟩ => ?_, fun q => ?_⟩⟩
  · by_cases q : j = m
    · subst q; rw [hE, hV i a b]; exact hn i a b
    · rw [hV i a (by omega), hV j (by omega) (by omega)]; exact h.1 i j a b (by omega)
  · by_cases q : i = m
    · subst q
      rw [hE] at c; subst c
      exact ⟨(hY _).mpr (Or.inr rfl), fun E' a b => by
        rcases (hY E').mp a with z | z
        · exact absurd b (hno E' z)
        · omega⟩
    · rw [hV i a (by omega)] at c
      have hN := (h.2 E).mp ⟨i, a, by omega, c⟩
      exact ⟨(hY E).mpr (Or.inl hN.1), fun E' a' b' => by
        rcases (hY E').mp a' with z | z
        · exact hN.2 E' z b'
        · subst z; exact absurd b'.symm (hno E hN.1)⟩
  · rcases (hY E).mp q.1 with z | z
    · obtain ⟨i, a, b, c⟩ := (h.2 E).mpr ⟨z, fun E' a b => q.2 E' ((hY E').mpr (Or.inl a)) b⟩
      exact ⟨i, a, by omega, by rw [hV i a b]; exact c⟩
    · exact ⟨m, hm, by omega, by rw [hE, z]⟩
theorem al_low {m E0 j : Int} {V V' : Int → Int} {X Y : Int → Prop} (hm : 0 ≤ m) (h : AL m V X) (hY : ∀ E, Y E ↔ X E ∨ E = E0) (hj : 0 ≤ j ∧ j < m) (he : V j % 1073741824 = E0 % 1073741824) (hV : ∀ i, 0 ≤ i → i < m → V' i = uZ V j (min (V j) E0) i) : AL m V' Y := by
  have hmod : (min (V j) E0) % 1073741824 = V j % 1073741824 := by
    rcases Int.le_total (V j) E0 with z | z
    · rw [Int.min_eq_left z]
    · rw [Int.min_eq_right z, he]
  have hm1 : ∀ i, 0 ≤ i → i < m → V' i % 1073741824 = V i % 1073741824 := fun i a b => by
    rw [hV i a b]
    by_cases q : i = j
    · subst q; rw [uZ_s]; exact hmod
    · rw [uZ_n q]
  have hNj := (h.2 (V j)).mp ⟨j, hj.1, hj.2, rfl⟩
  refine ⟨fun i k a b c => by rw [hm1 i a (by omega), hm1 k (by omega) c]; exact h.1 i k a b c, fun E => ⟨fun ⟨i, a, b, c⟩ => ?_, fun q => ?_⟩⟩
  · rw [hV i a b] at c
    by_cases q : i = j
    · subst q
      rw [uZ_s] at c; subst c
      refine ⟨(hY _).mpr ?_, fun E' a' b' => ?_⟩
      · rcases Int.le_total (V i) E0 with z | z
        · rw [Int.min_eq_left z]; exact Or.inl hNj.1
        · rw [Int.min_eq_right z]; exact Or.inr rfl
      · rcases (hY E').mp a' with z | z
        · have := hNj.2 E' z (b'.trans hmod); omega
        · omega
    · rw [uZ_n q] at c
      have hN := (h.2 E).mp ⟨i, a, b, c⟩
      refine ⟨(hY E).mpr (Or.inl hN.1), fun E' a' b' => ?_⟩
      rcases (hY E').mp a' with z | z
      · exact hN.2 E' z b'
      · exfalso
        subst z
        have hij : ∀ i k, 0 ≤ i → i < m → 0 ≤ k → k < m → ¬ i = k → ¬ V i % 1073741824 = V k % 1073741824 := fun i k x1 x2 x3 x4 x5 => by
          rcases Int.lt_or_le i k with t | t
          · exact h.1 i k x1 t x4
          · exact fun y => h.1 k i x3 (by omega) x2 y.symm
        exact hij i j a b hj.1 hj.2 q (by rw [c, he]; exact b'.symm)
  · -- E is least in Y
    rcases (hY E).mp q.1 with z | z
    · obtain ⟨i, a, b, c⟩ := (h.2 E).mpr ⟨z, fun E' a b => q.2 E' ((hY E').mpr (Or.inl a)) b⟩
      refine ⟨i, a, b, ?_⟩
      rw [hV i a b]
      by_cases r : i = j
      · subst r
        rw [uZ_s]
        have := q.2 E0 ((hY E0).mpr (Or.inr rfl)) (by rw [← he, c])
        omega
      · rw [uZ_n r]; exact c
    · subst z
      refine ⟨j, hj.1, hj.2, ?_⟩
      rw [hV j hj.1 hj.2, uZ_s]
      have := q.2 (V j) ((hY _).mpr (Or.inl hNj.1)) he
      omega
theorem al_en {m : Int} {V T : Int → Int} {X : Int → Prop} (hm : 0 ≤ m) (h : AL m V X) (hs : SO V T m) : EN (NL X) m T :=
  ⟨hm, so_st hs (fun i j a b c q => h.1 i j a b c (by rw [q])), fun E => (so_ex hs hm).trans (h.2 E)⟩
/-- a row put among the sorted ones -/
def IS (T T' : Int → Int) (x y : Int) : Prop := (0 ≤ y ∧ y ≤ x) ∧ (∀ j, 0 ≤ j → j < y → T' j = T j) ∧ (∀ j, y < j → j ≤ x → T' j = T (j - 1) ∧ T x < T' j) ∧ (∀ j, x < j → j < 799 → T' j = T j) ∧ T' 799 = T x
theorem is_0 {T : Int → Int} {x : Int} (hx : 0 ≤ x ∧ x < 799) : IS T (uZ T 799 (T x)) x x := ⟨by omega, fun j a b => uZ_n (by omega), fun j a b => by omega, fun j a b => uZ_n (by omega), uZ_s⟩
theorem is_s {T T' : Int → Int} {x y : Int} (h : IS T T' x y) (hx : x < 799) (hy : 0 < y) (hc : T' 799 < T' (y - 1)) : IS T (uZ T' y (T' (y - 1))) x (y - 1) := by
  obtain ⟨h1, h2, h3, h4, h5⟩ := h
  refine ⟨by omega, fun j a b => ?_, fun j a b => ?_, fun j a b => ?_, ?_⟩
  · rw [uZ_n (by omega)]; exact h2 j a (by omega)
  · by_cases q : j = y
    · subst q; rw [uZ_s, h2 (j - 1) (by omega) (by omega)]
      rw [h5, h2 (j - 1) (by omega) (by omega)] at hc
      exact ⟨rfl, hc⟩
    · rw [uZ_n q]; exact h3 j (by omega) b
  · rw [uZ_n (by omega)]; exact h4 j a b
  · rw [uZ_n (by omega)]; exact h5
theorem ct_tail {F T : Int → Int} {v a b : Int} (h0 : 0 ≤ a) (h : ctZ T v a = ctZ F v a) (hab : a ≤ b) (he : ∀ j, a ≤ j → j < b → T j = F j) : ctZ T v b = ctZ F v b := by
  obtain ⟨n, rfl⟩ : ∃ n : Nat, b = a + n := ⟨(b - a).toNat, by omega⟩
  induction n with
  | zero => rw [show a + ((0 : Nat) : Int) = a by omega]; exact h
  | succ n ih =>
    have := ih (by omega) (fun j x y => he j x (by omega))
    rw [show a + ((n + 1 : Nat) : Int) = (a + n) + 1 by omega, ctZ_s (by omega), ctZ_s (by omega), this, he (a + n) (by omega) (by omega)]
theorem is_e {F T T' : Int → Int} {x y n : Int} (h : IS T T' x y) (hx : 0 ≤ x ∧ x < n ∧ n ≤ 799) (hs : ∀ i j, 0 ≤ i → i < j → j < x → T i ≤ T j) (hc : ∀ v, ctZ T v n = ctZ F v n) (hb : y = 0 ∨ T' (y - 1) ≤ T' 799) : (∀ i j, 0 ≤ i → i < j → j < x + 1 → uZ T' y (T' 799) i ≤ uZ T' y (T' 799) j) ∧ ∀ v, ctZ (uZ T' y (T' 799)) v n = ctZ F v n := by
  obtain ⟨h1, h2, h3, h4, h5⟩ := h
  have e1 : ∀ j, 0 ≤ j → j < y → uZ T' y (T' 799) j = T j := fun j a b => by rw [uZ_n (by omega)]; exact h2 j a b
  have e3 : ∀ j, y < j → j ≤ x → uZ T' y (T' 799) j = T (j - 1) ∧ T x < T (j - 1) := fun j a b => by
    rw [uZ_n (by omega)]
    have := h3 j a b
    exact ⟨this.1, by rw [← this.1]; exact this.2⟩
  have e2 : uZ T' y (T' 799) y = T x := by rw [uZ_s, h5]
  have hbelow : ∀ i, 0 ≤ i → i < y → T i ≤ T x := fun i a b => by
    rcases hb with z | z
    · omega
    · rw [h5, h2 (y - 1) (by omega) (by omega)] at z
      by_cases q : i = y - 1
      · rw [q]; exact z
      · have := hs i (y - 1) a (by omega) (by omega); omega
  refine ⟨fun i j a b c => ?_, fun v => ?_⟩
  · rcases Int.lt_trichotomy j y with z | z | z
    · rw [e1 i a (by omega), e1 j (by omega) z]; exact hs i j a b (by omega)
    · subst z; rw [e2, e1 i a b]; exact hbelow i a b
    · have k3 := e3 j z (by omega)
      rw [k3.1]
      rcases Int.lt_trichotomy i y with t | t | t
      · rw [e1 i a t]
        by_cases q : i = j - 1
        · rw [q]; exact Int.le_refl _
        · exact hs i (j - 1) a (by omega) (by omega)
      · subst t; rw [e2]; have := k3.2; omega
      · have k4 := e3 i t (by omega)
        rw [k4.1]
        exact hs (i - 1) (j - 1) (by omega) (by omega) (by omega)
  · rw [← hc v]
    have k : ∀ z : Nat, y + (z : Int) ≤ x → ctZ (uZ T' y (T' 799)) v (y + (z : Int) + 1) = ctZ T v (y + (z : Int)) + (if T x = v then 1 else 0) := by
      intro z
      induction z with
      | zero =>
        intro _
        rw [show y + ((0 : Nat) : Int) = y by omega, ctZ_s (by omega), e2, ctZ_congr (fun i a b => e1 i a b)]
      | succ z ih =>
        intro hz
        have := ih (by omega)
        rw [ctZ_s (by omega), show y + ((z + 1 : Nat) : Int) = y + (z : Int) + 1 by omega, this, (e3 (y + (z : Int) + 1) (by omega) (by omega)).1, ctZ_s (by omega), show y + (z : Int) + 1 - 1 = y + (z : Int) by omega]
        omega
    have k1 := k (x - y).toNat (by omega)
    rw [show y + (((x - y).toNat : Nat) : Int) = x by omega, ← ctZ_s (by omega)] at k1
    refine ct_tail (by omega) k1 (by omega) (fun j a b => ?_)
    rw [uZ_n (by omega)]; exact h4 j (by omega) (by omega)
theorem ct_p {F T : Int → Int} {n : Int} {P : Int → Prop} (h : ∀ v, ctZ T v n = ctZ F v n) (hF : ∀ i, 0 ≤ i → i < n → P (F i)) : ∀ i, 0 ≤ i → i < n → P (T i) := by
  intro i a b
  have h3 : 0 < ctZ T (T i) n := (ctZ_ex (by omega)).mpr ⟨i, a, b, rfl⟩
  rw [h] at h3
  obtain ⟨j, j1, j2, j3⟩ := (ctZ_ex (by omega)).mp h3
  rw [← j3]; exact hF j j1 j2
