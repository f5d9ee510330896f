/-! ALL LAYERS -/
noncomputable def tot (fsz ffu fsu fbb fmo : Int → Int) : Nat → Int
  | 0 => cn fsz ffu fsu fbb fmo 0
  | d + 1 => tot fsz ffu fsu fbb fmo d + cn fsz ffu fsu fbb fmo (d + 1)
noncomputable def need (fsz ffu fsu fbb fmo : Int → Int) (d : Nat) : Int := tot fsz ffu fsu fbb fmo d + min 400 (cn fsz ffu fsu fbb fmo d * fsz (d : Int))
def gN (cap : Nat) (w : Int) : Nat := if w ≤ (cap : Int) then cap else (max w (min (2 * (cap : Int)) 4801)).toNat
def gS (cap : Nat) (w : Int) : Nat := if w ≤ (cap : Int) then 0 else 11 * gN cap w
theorem gN_kN {cap : Nat} {w : Int} (h : 0 ≤ w) : (w ≤ (cap : Int) ∧ gN cap w = cap) ∨ ((cap : Int) < w ∧ (gN cap w : Int) = max w (min (2 * (cap : Int)) 4801)) := by
  unfold gN
  by_cases q : w ≤ (cap : Int)
  · rw [if_pos q]; exact Or.inl ⟨q, rfl⟩
  · rw [if_neg q]; exact Or.inr ⟨by omega, by omega⟩
theorem gS_kq {cap : Nat} {w : Int} : w ≤ (cap : Int) ∨ 11 * gN cap w ≤ gS cap w := by
  unfold gS
  by_cases q : w ≤ (cap : Int)
  · exact Or.inl q
  · rw [if_neg q]; exact Or.inr (Nat.le_refl _)
/-- capacity and slots of k more layers from layer d on -/
noncomputable def layC (fsz ffu fsu fbb fmo : Int → Int) : Nat → Nat → Nat → Nat
  | 0, _, c => c
  | k + 1, d, c => if cn fsz ffu fsu fbb fmo (d + 1) ≤ 400 then layC fsz ffu fsu fbb fmo k (d + 1) (gN c (need fsz ffu fsu fbb fmo d)) else gN c (need fsz ffu fsu fbb fmo d)
noncomputable def layS (fsz ffu fsu fbb fmo : Int → Int) : Nat → Nat → Nat → Nat
  | 0, _, _ => 0
  | k + 1, d, c => gS c (need fsz ffu fsu fbb fmo d) + (if cn fsz ffu fsu fbb fmo (d + 1) ≤ 400 then layS fsz ffu fsu fbb fmo k (d + 1) (gN c (need fsz ffu fsu fbb fmo d)) else 0)
def LYS (fsz fco ffu fsu fbb fmo : Int → Int) (d : Nat) (ST GK GW GC GB : Int → Int) : Prop :=
  (∀ i : Nat, i ≤ d → (0 ≤ ST (i : Int) ∧ ST (i : Int) ≤ ST ((i : Int) + 1) ∧ ST ((i : Int) + 1) ≤ 1 + 400 * (i : Int) ∧ ST ((i : Int) + 1) = tot fsz ffu fsu fbb fmo i) ∧ LO fsz fco ffu fsu fbb fmo i (ST (i : Int)) (ST ((i : Int) + 1)) GK GW GC ∧ cn fsz ffu fsu fbb fmo i ≤ 400) ∧
  (∀ i : Nat, i < d → LK fsz ffu fsu fbb fmo GK i (ST (i : Int)) (ST ((i : Int) + 1)) (ST ((i : Int) + 2)) GB GK) ∧ ST 0 = 0
theorem ls_0 {fsz fco ffu fsu fbb fmo ST GK GW GC GB : Int → Int} (h0 : ST 0 = 0) (h1 : ST 1 = 1) (hk : GK 0 = 0) (hw : GW 0 = 1) (hc : GC 0 = 0) : LYS fsz fco ffu fsu fbb fmo 0 ST GK GW GC GB := by
  have hL : LO fsz fco ffu fsu fbb fmo 0 0 1 GK GW GC := by
    refine ⟨fun i i1 i2 => ?_, fun i j i1 i2 i3 => by omega, fun k q => ?_⟩
    · have : i = 0 := by omega
      subst this
      rw [hk, hw, hc]
      refine ⟨by unfold vk; omega, ?_, by omega, ?_⟩
      · unfold wt; rfl
      · unfold ct; rfl
    · unfold wt at q
      by_cases r : k = 0
      · subst r; exact ⟨0, by omega, by omega, hk⟩
      · rw [if_neg r] at q; omega
  have hcn := lo_cn (by omega) hL
  refine ⟨fun i hi => ?_, fun i hi => by omega, h0⟩
  have : i = 0 := by omega
  subst this
  show (0 ≤ ST 0 ∧ ST 0 ≤ ST (0 + 1) ∧ ST (0 + 1) ≤ 1 + 400 * 0 ∧ ST (0 + 1) = cn fsz ffu fsu fbb fmo 0) ∧ LO fsz fco ffu fsu fbb fmo 0 (ST 0) (ST (0 + 1)) GK GW GC ∧ cn fsz ffu fsu fbb fmo 0 ≤ 400
  rw [show (0 : Int) + 1 = 1 from rfl, h0, h1]
  exact ⟨⟨by omega, by omega, by omega, by omega⟩, hL, by omega⟩
theorem ls_step {fsz fco ffu fsu fbb fmo ST GK GW GC GB GK2 GW2 GC2 GB2 : Int → Int} {d : Nat} {T : Int} (hT : TB fsz fco ffu fsu fbb fmo) (hd : d < 12) (h : LYS fsz fco ffu fsu fbb fmo d ST GK GW GC GB) (hc : cn fsz ffu fsu fbb fmo (d + 1) ≤ 400)
    (q1 : ST ((d : Int) + 1) ≤ T ∧ T ≤ ST ((d : Int) + 1) + 400) (q2 : LO fsz fco ffu fsu fbb fmo (d + 1) (ST ((d : Int) + 1)) T GK2 GW2 GC2) (q3 : LK fsz ffu fsu fbb fmo GK d (ST (d : Int)) (ST ((d : Int) + 1)) T GB2 GK2)
    (q4 : ∀ i, 0 ≤ i → i < ST ((d : Int) + 1) → GK2 i = GK i ∧ GC2 i = GC i ∧ GW2 i = GW i) (q5 : ∀ j, 0 ≤ j → j < ST (d : Int) * 6 → GB2 j = GB j) : LYS fsz fco ffu fsu fbb fmo (d + 1) (uZ ST ((d : Int) + 2) T) GK2 GW2 GC2 GB2 := by
  obtain ⟨h1, h2, h0⟩ := h
  have hlow : ∀ i : Nat, i ≤ d + 1 → uZ ST ((d : Int) + 2) T (i : Int) = ST (i : Int) := fun i hi => uZ_n (by omega)
  have hlow1 : ∀ i : Nat, i ≤ d → uZ ST ((d : Int) + 2) T ((i : Int) + 1) = ST ((i : Int) + 1) := fun i hi => uZ_n (by omega)
  have hmon : ∀ k i : Nat, i + k ≤ d → ST ((i : Int) + 1) ≤ ST (((i + k : Nat) : Int) + 1) := by
    intro k
    induction k with
    | zero => intro i _; exact Int.le_refl _
    | succ k ih =>
      intro i hi
      have a := ih i (by omega)
      have b := (h1 (i + (k + 1)) hi).1.2.1
      rw [show (((i + (k + 1) : Nat) : Int)) = ((i + k : Nat) : Int) + 1 by omega] at b ⊢
      omega
  have hup : ∀ i : Nat, i ≤ d → ST ((i : Int) + 1) ≤ ST ((d : Int) + 1) := fun i hi => by
    have := hmon (d - i) i (by omega)
    rw [show i + (d - i) = d by omega] at this
    exact this
  have hup0 : ∀ i : Nat, i < d → ST ((i : Int) + 1) ≤ ST (d : Int) := fun i hi => by
    have := hmon (d - 1 - i) i (by omega)
    rw [show ((i + (d - 1 - i) : Nat) : Int) + 1 = (d : Int) by omega] at this
    exact this
  have hcd := lo_cn q1.1 q2
  refine ⟨fun i hi => ?_, fun i hi => ?_, by rw [uZ_n (by omega)]; exact h0⟩
  · by_cases r : i = d + 1
    · subst r
      have e1 : uZ ST ((d : Int) + 2) T (((d + 1 : Nat) : Int)) = ST ((d : Int) + 1) := by rw [uZ_n (by omega)]; congr 1
      have e2 : uZ ST ((d : Int) + 2) T (((d + 1 : Nat) : Int) + 1) = T := by rw [show (((d + 1 : Nat) : Int) + 1) = (d : Int) + 2 by omega, uZ_s]
      rw [e1, e2]
      have hd1 := (h1 d (Nat.le_refl d)).1
      refine ⟨⟨by omega, q1.1, by omega, ?_⟩, q2, hc⟩
      show T = tot fsz ffu fsu fbb fmo d + cn fsz ffu fsu fbb fmo (d + 1)
      omega
    · obtain ⟨a, b, c⟩ := h1 i (by omega)
      rw [hlow i (by omega), hlow1 i (by omega)]
      have u := hup i (by omega)
      exact ⟨a, lo_congr b (fun j j1 j2 => (q4 j (by omega) (by omega)).1) (fun j j1 j2 => (q4 j (by omega) (by omega)).2.2) (fun j j1 j2 => (q4 j (by omega) (by omega)).2.1), c⟩
  · have hsz := hT.1 (i : Int) (by omega) (by omega)
    rw [hlow i (by omega), hlow1 i (by omega)]
    have a := (h1 i (by omega)).1
    have u := hup i (by omega)
    by_cases r : i = d
    · subst r
      rw [uZ_s]
      exact lk_congr q3 hsz.2 (fun j j1 j2 => (q4 j (by omega) (by omega)).1) (fun _ _ _ => rfl) (fun _ _ _ => rfl)
    · rw [uZ_n (by omega)]
      have e3 : ST ((i : Int) + 2) ≤ ST ((d : Int) + 1) := by
        have := hup (i + 1) (by omega)
        rw [show ((i + 1 : Nat) : Int) + 1 = (i : Int) + 2 by omega] at this
        exact this
      have e4 := hup0 i (by omega)
      exact lk_congr (h2 i (by omega)) hsz.2 (fun j j1 j2 => (q4 j (by omega) (by omega)).1) (fun j j1 j2 => q5 j (by omega) (by omega)) (fun m m1 m2 => (q4 m (by omega) (by omega)).1)
theorem ls_need {fsz fco ffu fsu fbb fmo ST GK GW GC GB : Int → Int} {d : Nat} (h : LYS fsz fco ffu fsu fbb fmo d ST GK GW GC GB) : ST ((d : Int) + 1) + min 400 ((ST ((d : Int) + 1) - ST (d : Int)) * fsz (d : Int)) = need fsz ffu fsu fbb fmo d := by
  obtain ⟨a, b, c⟩ := h.1 d (Nat.le_refl d)
  unfold need
  rw [← lo_cn a.2.1 b, ← a.2.2.2]
theorem layC_s {fsz ffu fsu fbb fmo : Int → Int} {k d c : Nat} : layC fsz ffu fsu fbb fmo (k + 1) d c = if cn fsz ffu fsu fbb fmo (d + 1) ≤ 400 then layC fsz ffu fsu fbb fmo k (d + 1) (gN c (need fsz ffu fsu fbb fmo d)) else gN c (need fsz ffu fsu fbb fmo d) := rfl
theorem layS_s {fsz ffu fsu fbb fmo : Int → Int} {k d c : Nat} : layS fsz ffu fsu fbb fmo (k + 1) d c = gS c (need fsz ffu fsu fbb fmo d) + (if cn fsz ffu fsu fbb fmo (d + 1) ≤ 400 then layS fsz ffu fsu fbb fmo k (d + 1) (gN c (need fsz ffu fsu fbb fmo d)) else 0) := rfl
theorem ls_nb {fsz fco ffu fsu fbb fmo ST GK GW GC GB : Int → Int} {d : Nat} (hT : TB fsz fco ffu fsu fbb fmo) (hd : d < 12) (h : LYS fsz fco ffu fsu fbb fmo d ST GK GW GC GB) : 0 ≤ need fsz ffu fsu fbb fmo d ∧ need fsz ffu fsu fbb fmo d ≤ 4801 := by
  obtain ⟨a, b, c⟩ := h.1 d (Nat.le_refl d)
  have hsz := hT.1 (d : Int) (by omega) (by omega)
  rw [← ls_need h]
  have : 0 ≤ (ST ((d : Int) + 1) - ST (d : Int)) * fsz (d : Int) := Int.mul_nonneg (by omega) (by omega)
  omega
theorem gN_b {c : Nat} {w : Int} (h1 : 0 ≤ w) (h2 : w ≤ 4801) (hc : 1 ≤ c ∧ c ≤ 4801) : 1 ≤ gN c w ∧ gN c w ≤ 4801 := by
  rcases gN_kN (cap := c) h1 with ⟨-, q⟩ | ⟨-, q⟩ <;> omega
