/-! WHAT GOES FROM A NODE -/
noncomputable def wf (fsz ffu fsu fbb fmo fle : Int → Int) : Nat → Nat → Int → Int
  | 0, _, k => if fle 0 ≤ k / 512 ∧ fle 1 ≤ k / 8 % 64 then 1 else 0
  | j + 1, d, k => sumR (fun c => if kn fbb ffu fsu fmo ((d : Int) * 6 + c) c k = -1 then 0 else wf fsz ffu fsu fbb fmo fle j (d + 1) (kn fbb ffu fsu fmo ((d : Int) * 6 + c) c k)) 0 (fsz (d : Int)).toNat
noncomputable def cf (fsz fco ffu fsu fbb fmo fle : Int → Int) : Nat → Nat → Int → Int
  | 0, _, _ => 0
  | j + 1, d, k => minR (fun c => ¬ kn fbb ffu fsu fmo ((d : Int) * 6 + c) c k = -1 ∧ 0 < wf fsz ffu fsu fbb fmo fle j (d + 1) (kn fbb ffu fsu fmo ((d : Int) * 6 + c) c k)) (fun c => cf fsz fco ffu fsu fbb fmo fle j (d + 1) (kn fbb ffu fsu fmo ((d : Int) * 6 + c) c k) + fco ((d : Int) * 6 + c)) 0 (fsz (d : Int)).toNat
theorem wf_nn {fsz ffu fsu fbb fmo fle : Int → Int} : ∀ (j d : Nat) (k : Int), 0 ≤ wf fsz ffu fsu fbb fmo fle j d k
  | 0, d, k => by
    show 0 ≤ (if fle 0 ≤ k / 512 ∧ fle 1 ≤ k / 8 % 64 then (1 : Int) else 0)
    split <;> omega
  | j + 1, d, k => by
    refine sumR_nn (fun c => ?_) _
    split
    · exact Int.le_refl 0
    · exact wf_nn j (d + 1) _
theorem sumR_ub {g : Int → Int} {s u : Int} : ∀ n : Nat, (∀ i, s ≤ i → i < s + (n : Int) → g i ≤ u) → sumR g s n ≤ (n : Int) * u
  | 0, _ => by show (0 : Int) ≤ _; simp
  | n + 1, q => by
    have i1 := sumR_ub (s := s) n (fun i a c => q i a (by omega))
    have e : ((n + 1 : Nat) : Int) * u = (n : Int) * u + u := by rw [Int.natCast_add, Int.add_mul]; simp
    rw [e]
    show sumR g s n + g (s + (n : Int)) ≤ _
    have q1 := q (s + (n : Int)) (by omega) (by omega)
    omega
theorem wf_ub {fsz fco ffu fsu fbb fmo fle : Int → Int} (hT : TB fsz fco ffu fsu fbb fmo) : ∀ (j d : Nat) (k : Int), d + j ≤ 12 → wf fsz ffu fsu fbb fmo fle j d k ≤ 6 ^ j := by
  intro j
  induction j with
  | zero =>
    intro d k _
    show (if fle 0 ≤ k / 512 ∧ fle 1 ≤ k / 8 % 64 then (1 : Int) else 0) ≤ 1
    split <;> omega
  | succ j ih =>
    intro d k hd
    have hsz := hT.1 (d : Int) (by omega) (by omega)
    have hp : (0 : Int) < 6 ^ j := Int.pow_pos (by omega)
    have := sumR_ub (g := fun c => if kn fbb ffu fsu fmo ((d : Int) * 6 + c) c k = -1 then 0 else wf fsz ffu fsu fbb fmo fle j (d + 1) (kn fbb ffu fsu fmo ((d : Int) * 6 + c) c k)) (s := 0) (u := 6 ^ j) (fsz (d : Int)).toNat (fun c c1 c2 => by
      show (if kn fbb ffu fsu fmo ((d : Int) * 6 + c) c k = -1 then 0 else wf fsz ffu fsu fbb fmo fle j (d + 1) (kn fbb ffu fsu fmo ((d : Int) * 6 + c) c k)) ≤ 6 ^ j
      split
      · omega
      · exact ih (d + 1) _ (by omega))
    have h2 : ((fsz (d : Int)).toNat : Int) * 6 ^ j ≤ 6 * 6 ^ j := Int.mul_le_mul_of_nonneg_right (by omega) (by omega)
    have h3 : (6 : Int) ^ (j + 1) = 6 * 6 ^ j := by rw [Int.pow_succ, Int.mul_comm]
    rw [h3]
    exact Int.le_trans this h2
theorem wf_big {fsz fco ffu fsu fbb fmo fle : Int → Int} (hT : TB fsz fco ffu fsu fbb fmo) {j d : Nat} {k : Int} (h : d + j ≤ 12) : wf fsz ffu fsu fbb fmo fle j d k ≤ 1000000000000 := by
  have h1 := wf_ub (fle := fle) hT j d k h
  have h2 : ∀ j : Nat, j ≤ 12 → (6 : Int) ^ j ≤ 1000000000000 := by decide +kernel
  exact Int.le_trans h1 (h2 j (by omega))
theorem cf_rng {fsz fco ffu fsu fbb fmo fle : Int → Int} (hT : TB fsz fco ffu fsu fbb fmo) : ∀ (j d : Nat) (k : Int), d + j ≤ 12 → 0 < wf fsz ffu fsu fbb fmo fle j d k → -(1000 * (j : Int)) ≤ cf fsz fco ffu fsu fbb fmo fle j d k ∧ cf fsz fco ffu fsu fbb fmo fle j d k ≤ 1000 * (j : Int) := by
  intro j
  induction j with
  | zero => intro d k _ _; unfold cf; omega
  | succ j ih =>
    intro d k hd hw
    have hsz := hT.1 (d : Int) (by omega) (by omega)
    obtain ⟨c, c1, c2, c3⟩ := sumR_pos (fun c => by
      show 0 ≤ (if kn fbb ffu fsu fmo ((d : Int) * 6 + c) c k = -1 then 0 else wf fsz ffu fsu fbb fmo fle j (d + 1) (kn fbb ffu fsu fmo ((d : Int) * 6 + c) c k))
      split
      · exact Int.le_refl 0
      · exact wf_nn j (d + 1) _) _ hw
    have hne : ¬ kn fbb ffu fsu fmo ((d : Int) * 6 + c) c k = -1 := fun q => by
      have c4 : 0 < (if kn fbb ffu fsu fmo ((d : Int) * 6 + c) c k = -1 then 0 else wf fsz ffu fsu fbb fmo fle j (d + 1) (kn fbb ffu fsu fmo ((d : Int) * 6 + c) c k)) := c3
      rw [if_pos q] at c4; omega
    have hpos : 0 < wf fsz ffu fsu fbb fmo fle j (d + 1) (kn fbb ffu fsu fmo ((d : Int) * 6 + c) c k) := by
      have c4 : 0 < (if kn fbb ffu fsu fmo ((d : Int) * 6 + c) c k = -1 then 0 else wf fsz ffu fsu fbb fmo fle j (d + 1) (kn fbb ffu fsu fmo ((d : Int) * 6 + c) c k)) := c3
      rw [if_neg hne] at c4; exact c4
    have hco := hT.2.1 ((d : Int) * 6 + c) (by omega) (by omega)
    have hj := ih (d + 1) _ (by omega) hpos
    have up := minR_le (P := fun c => ¬ kn fbb ffu fsu fmo ((d : Int) * 6 + c) c k = -1 ∧ 0 < wf fsz ffu fsu fbb fmo fle j (d + 1) (kn fbb ffu fsu fmo ((d : Int) * 6 + c) c k)) (v := fun c => cf fsz fco ffu fsu fbb fmo fle j (d + 1) (kn fbb ffu fsu fmo ((d : Int) * 6 + c) c k) + fco ((d : Int) * 6 + c)) (s := 0) (fsz (d : Int)).toNat c c1 c2 ⟨hne, hpos⟩
    have lo := minR_ge (P := fun c => ¬ kn fbb ffu fsu fmo ((d : Int) * 6 + c) c k = -1 ∧ 0 < wf fsz ffu fsu fbb fmo fle j (d + 1) (kn fbb ffu fsu fmo ((d : Int) * 6 + c) c k)) (v := fun c => cf fsz fco ffu fsu fbb fmo fle j (d + 1) (kn fbb ffu fsu fmo ((d : Int) * 6 + c) c k) + fco ((d : Int) * 6 + c)) (s := 0) (lo := -(1000 * ((j : Int) + 1))) (by omega) (fsz (d : Int)).toNat (fun i i1 i2 q => by
      have := ih (d + 1) _ (by omega) q.2
      have hc2 := hT.2.1 ((d : Int) * 6 + i) (by omega) (by omega)
      show _ ≤ cf fsz fco ffu fsu fbb fmo fle j (d + 1) (kn fbb ffu fsu fmo ((d : Int) * 6 + i) i k) + fco ((d : Int) * 6 + i)
      omega)
    unfold cf
    try dsimp only at up
    omega
/-- what is known of the nodes lo .. hi of layer d, looked back from -/
def BK (fsz fco ffu fsu fbb fmo fle : Int → Int) (n : Nat) (GK GX GD : Int → Int) (d : Nat) (lo hi : Int) : Prop :=
  ∀ i, lo ≤ i → i < hi → GX i = wf fsz ffu fsu fbb fmo fle (n - d) d (GK i) ∧ (0 < GX i → GD i = cf fsz fco ffu fsu fbb fmo fle (n - d) d (GK i)) ∧ -1000000 ≤ GD i ∧ GD i ≤ 1000000
theorem bk_keep {fsz fco ffu fsu fbb fmo fle GK GX GD : Int → Int} {n d : Nat} {lo hi y v w : Int} (h : BK fsz fco ffu fsu fbb fmo fle n GK GX GD d lo hi) (hy : y < lo ∨ hi ≤ y) : BK fsz fco ffu fsu fbb fmo fle n GK (uZ GX y v) (uZ GD y w) d lo hi := by
  intro i i1 i2
  rw [uZ_n (by omega), uZ_n (by omega)]
  exact h i i1 i2
theorem lbW_eq {gbe gwf g : Int → Int} {z : Int} : ∀ n : Nat, (∀ c, 0 ≤ c → c < (n : Int) → (if 0 ≤ gbe (z * 6 + c) ∧ 0 < gwf (gbe (z * 6 + c)) then gwf (gbe (z * 6 + c)) else 0) = g c) → lbW gbe gwf z n = sumR g 0 n
  | 0, _ => rfl
  | n + 1, h => by
    show lbW gbe gwf z n + _ = sumR g 0 n + g (0 + (n : Int))
    rw [lbW_eq n (fun c c1 c2 => h c c1 (by omega)), h (n : Int) (by omega) (by omega), Int.zero_add]
theorem lbC_eq {gbe gwf gcf fco v : Int → Int} {P : Int → Prop} {d z : Int} : ∀ n : Nat, (∀ c, 0 ≤ c → c < (n : Int) → ((0 ≤ gbe (z * 6 + c) ∧ 0 < gwf (gbe (z * 6 + c))) ↔ P c) ∧ (P c → gcf (gbe (z * 6 + c)) + fco (d * 6 + c) = v c ∧ v c ≤ 900000)) → 0 ≤ lbW gbe gwf z n ∧ (lbW gbe gwf z n = 0 → minR P v 0 n = 900000 ∧ lbC gbe gwf gcf fco d z n = 0) ∧ (0 < lbW gbe gwf z n → lbC gbe gwf gcf fco d z n = minR P v 0 n)
  | 0, _ => ⟨Int.le_refl 0, fun _ => ⟨rfl, rfl⟩, fun h => absurd h (Int.lt_irrefl 0)⟩
  | n + 1, h => by
    obtain ⟨i0, i1, i2⟩ := lbC_eq (gcf := gcf) (fco := fco) (v := v) (P := P) (d := d) n (fun c c1 c2 => h c c1 (by omega))
    obtain ⟨q1, q2⟩ := h (n : Int) (by omega) (by omega)
    have eW : lbW gbe gwf z (n + 1) = lbW gbe gwf z n + (if 0 ≤ gbe (z * 6 + (n : Int)) ∧ 0 < gwf (gbe (z * 6 + (n : Int))) then gwf (gbe (z * 6 + (n : Int))) else 0) := rfl
    have eC : lbC gbe gwf gcf fco d z (n + 1) = if 0 ≤ gbe (z * 6 + (n : Int)) ∧ 0 < gwf (gbe (z * 6 + (n : Int))) then (if lbW gbe gwf z n = 0 then gcf (gbe (z * 6 + (n : Int))) + fco (d * 6 + (n : Int)) else min (lbC gbe gwf gcf fco d z n) (gcf (gbe (z * 6 + (n : Int))) + fco (d * 6 + (n : Int)))) else lbC gbe gwf gcf fco d z n := rfl
    by_cases r : 0 ≤ gbe (z * 6 + (n : Int)) ∧ 0 < gwf (gbe (z * 6 + (n : Int)))
    · rw [if_pos r] at eW eC
      obtain ⟨v1, v2⟩ := q2 (q1.mp r)
      rw [eW, eC, minR_yes (by rw [Int.zero_add]; exact q1.mp r), Int.zero_add, v1]
      refine ⟨by omega, fun z0 => by omega, fun _ => ?_⟩
      by_cases t : lbW gbe gwf z n = 0
      · rw [if_pos t, (i1 t).1]; omega
      · rw [if_neg t, i2 (by omega)]
    · rw [if_neg r] at eW eC
      rw [eW, eC, minR_no (by rw [Int.zero_add]; exact fun x => r (q1.mpr x)), Int.add_zero]
      exact ⟨i0, i1, i2⟩
/-- one node, looked back from -/
theorem bk_step {fsz fco ffu fsu fbb fmo fle GK GX GD GB : Int → Int} {n d : Nat} {s e T y : Int} (hT : TB fsz fco ffu fsu fbb fmo) (hd : d < n) (hn : n ≤ 12) (hL : LK fsz ffu fsu fbb fmo GK d s e T GB GK) (hN : BK fsz fco ffu fsu fbb fmo fle n GK GX GD (d + 1) e T) (hv : ∀ i, s ≤ i → i < e → vk (GK i)) (he0 : 0 ≤ e) (h1 : s ≤ y) (h2 : y < e) (h : BK fsz fco ffu fsu fbb fmo fle n GK GX GD d s y) :
    BK fsz fco ffu fsu fbb fmo fle n GK (uZ GX y (lbW GB GX y (fsz (d : Int)).toNat)) (uZ GD y (lbC GB GX GD fco (d : Int) y (fsz (d : Int)).toNat)) d s (y + 1) := by
  have hsz := hT.1 (d : Int) (by omega) (by omega)
  have hnd : n - d = (n - (d + 1)) + 1 := by omega
  have key : ∀ c, 0 ≤ c → c < ((fsz (d : Int)).toNat : Int) → (kn fbb ffu fsu fmo ((d : Int) * 6 + c) c (GK y) = -1 ∧ GB (y * 6 + c) = -1) ∨ (¬ kn fbb ffu fsu fmo ((d : Int) * 6 + c) c (GK y) = -1 ∧ 0 ≤ GB (y * 6 + c) ∧ GX (GB (y * 6 + c)) = wf fsz ffu fsu fbb fmo fle (n - (d + 1)) (d + 1) (kn fbb ffu fsu fmo ((d : Int) * 6 + c) c (GK y)) ∧ (0 < GX (GB (y * 6 + c)) → GD (GB (y * 6 + c)) = cf fsz fco ffu fsu fbb fmo fle (n - (d + 1)) (d + 1) (kn fbb ffu fsu fmo ((d : Int) * 6 + c) c (GK y)))) := by
    intro c c1 c2
    rcases hL c y c1 (by omega) h1 h2 with x | ⟨x1, x2, x3⟩
    · exact Or.inl x
    · obtain ⟨b1, b2, b3⟩ := hN _ x1.1 x1.2
      rw [x2] at b1 b2
      exact Or.inr ⟨x3, by omega, b1, b2⟩
  have eW : lbW GB GX y (fsz (d : Int)).toNat = wf fsz ffu fsu fbb fmo fle (n - d) d (GK y) := by
    rw [hnd]
    refine lbW_eq _ (fun c c1 c2 => ?_)
    rcases key c c1 c2 with ⟨x1, x2⟩ | ⟨x1, x2, x3, x4⟩
    · rw [if_pos x1, if_neg (by omega)]
    · rw [if_neg x1]
      have w0 := wf_nn (fsz := fsz) (ffu := ffu) (fsu := fsu) (fbb := fbb) (fmo := fmo) (fle := fle) (n - (d + 1)) (d + 1) (kn fbb ffu fsu fmo ((d : Int) * 6 + c) c (GK y))
      by_cases r : 0 < GX (GB (y * 6 + c))
      · rw [if_pos ⟨x2, r⟩, x3]
      · rw [if_neg (fun z => r z.2)]; omega
  have eC := lbC_eq (gbe := GB) (gwf := GX) (gcf := GD) (fco := fco) (z := y) (d := (d : Int)) (P := fun c => ¬ kn fbb ffu fsu fmo ((d : Int) * 6 + c) c (GK y) = -1 ∧ 0 < wf fsz ffu fsu fbb fmo fle (n - (d + 1)) (d + 1) (kn fbb ffu fsu fmo ((d : Int) * 6 + c) c (GK y))) (v := fun c => cf fsz fco ffu fsu fbb fmo fle (n - (d + 1)) (d + 1) (kn fbb ffu fsu fmo ((d : Int) * 6 + c) c (GK y)) + fco ((d : Int) * 6 + c)) (fsz (d : Int)).toNat (fun c c1 c2 => by
    have hco := hT.2.1 ((d : Int) * 6 + c) (by omega) (by omega)
    rcases key c c1 c2 with ⟨x1, x2⟩ | ⟨x1, x2, x3, x4⟩
    · exact ⟨⟨fun z => by omega, fun z => absurd x1 z.1⟩, fun z => absurd x1 z.1⟩
    · refine ⟨⟨fun z => ⟨x1, by rw [← x3]; exact z.2⟩, fun z => ⟨x2, by rw [x3]; exact z.2⟩⟩, fun z => ?_⟩
      have r := cf_rng hT (n - (d + 1)) (d + 1) _ (by omega) z.2
      refine ⟨by rw [x4 (by rw [x3]; exact z.2)], ?_⟩
      show cf fsz fco ffu fsu fbb fmo fle (n - (d + 1)) (d + 1) (kn fbb ffu fsu fmo ((d : Int) * 6 + c) c (GK y)) + fco ((d : Int) * 6 + c) ≤ 900000
      omega)
  intro i i1 i2
  by_cases r : i = y
  · subst r
    rw [uZ_s, uZ_s]
    refine ⟨eW, fun q => ?_, ?_⟩
    · rw [eC.2.2 q, hnd]; rfl
    · by_cases q : 0 < lbW GB GX i (fsz (d : Int)).toNat
      · have e2 : lbC GB GX GD fco (d : Int) i (fsz (d : Int)).toNat = cf fsz fco ffu fsu fbb fmo fle (n - d) d (GK i) := by rw [eC.2.2 q, hnd]; rfl
        have r2 := cf_rng hT (n - d) d (GK i) (by omega) (by rw [← eW]; exact q)
        rw [e2]; omega
      · rw [(eC.2.1 (by have := eC.1; omega)).2]; omega
  · rw [uZ_n r, uZ_n r]; exact h i i1 (by omega)
