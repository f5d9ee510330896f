/-! ONE NODE MORE KEEPS THE INVARIANT -/
set_option maxHeartbeats 4000000 in
theorem lb_step {fsz fco ffu fsu fbb fmo gk gwt gct B0 CU F GK GC GW CU2 F2 GC2 GW2 : Int → Int} {d : Nat} {s e T b lk : Int} (hT : TB fsz fco ffu fsu fbb fmo) (hd : d < 12) (hL : LO fsz fco ffu fsu fbb fmo d s e gk gwt gct) (hse : s ≤ e)
    (h : LBp fsz fco ffu fsu fbb fmo gk gwt gct B0 d s e T CU F GK GC GW) (hb0 : 0 ≤ b) (hb : b < fsz (d : Int)) (hCW : CWp CU F e (fsz (d : Int)) b lk)
    (hA : ANp F GC GW CU b (fco ((d : Int) * 6 + b)) e (F (CU b * 6 + b)) T CU2 F2 GC2 GW2) (hgt : CU b < CU2 b) (hne : CU2 b < e → ¬ F (CU2 b * 6 + b) = F (CU b * 6 + b)) :
    LBp fsz fco ffu fsu fbb fmo gk gwt gct B0 d s e (T + 1) CU2 F2 (uZ GK T (F (CU b * 6 + b))) GC2 GW2 := by
  obtain ⟨l1, l2, l3, l4, l5, l6, l7, l8, l9, l10⟩ := h
  obtain ⟨o1, o2, o3⟩ := hL
  obtain ⟨a1, a2, a3, a4, a5, ⟨a6, a6b, a6c, a6d⟩, a7, a7b⟩ := hA
  have hsz := hT.1 (d : Int) (by omega) (by omega)
  have hCb : CU b < e := by omega
  have hlk : ∀ c, 0 ≤ c → c < fsz (d : Int) → CU c < e → F (CU b * 6 + b) ≤ F (CU c * 6 + c) := by
    rcases hCW with ⟨q, -⟩ | ⟨-, -, q3, q4⟩
    · omega
    · intro c c1 c2 c3; rw [← q3]; exact q4 c c1 c2 c3
  have hsb := (l2 b hb0 hb).1
  have hkey : F (CU b * 6 + b) = kn fbb ffu fsu fmo ((d : Int) * 6 + b) b (gk (CU b)) := l3 b (CU b) hb0 hb (Int.le_refl _) hCb
  have hk1 : ¬ kn fbb ffu fsu fmo ((d : Int) * 6 + b) b (gk (CU b)) = -1 := (l2 b hb0 hb).2 hCb
  have hNK : ∀ i, CU b ≤ i → i < e → F (i * 6 + b) = kn fbb ffu fsu fmo ((d : Int) * 6 + b) b (gk i) := fun i i1 i2 => l3 b i hb0 hb i1 i2
  have hvk : ∀ i, s ≤ i → i < e → vk (gk i) := fun i i1 i2 => (o1 i i1 i2).1
  have hop : ∀ c i, 0 ≤ c → c < fsz (d : Int) → s ≤ i → i < e → ¬ kn fbb ffu fsu fmo ((d : Int) * 6 + c) c (gk i) = -1 → vk (kn fbb ffu fsu fmo ((d : Int) * 6 + c) c (gk i)) ∧ kn fbb ffu fsu fmo ((d : Int) * 6 + c) c (gk i) % 8 = c + 1 ∧ 1 ≤ kn fbb ffu fsu fmo ((d : Int) * 6 + c) c (gk i) := fun c i c1 c2 i1 i2 q => kn_vk hT (by omega) (by omega) c1 (by omega) (hvk i i1 i2) q
  have hmono : ∀ i i', s ≤ i → i ≤ i' → i' < e → ¬ kn fbb ffu fsu fmo ((d : Int) * 6 + b) b (gk i) = -1 → ¬ kn fbb ffu fsu fmo ((d : Int) * 6 + b) b (gk i') = -1 → kn fbb ffu fsu fmo ((d : Int) * 6 + b) b (gk i) ≤ kn fbb ffu fsu fmo ((d : Int) * 6 + b) b (gk i') := by
    intro i i' i1 i2 i3 q1 q2
    refine kn_mono (hvk i i1 (by omega)).1 ?_ q1 q2
    by_cases r : i = i'
    · subst r; exact Int.le_refl _
    · exact Int.le_of_lt (o2 i i' i1 (by omega) i3)
  have hkb := hop b (CU b) hb0 hb (by omega) hCb hk1
  -- the other choices' places are untouched
  have hF2 : ∀ c i, 0 ≤ c → c < fsz (d : Int) → ¬ c = b → F2 (i * 6 + c) = F (i * 6 + c) := fun c i c1 c2 q => a5 _ (fun z z1 z2 => by omega)
  have hF2b : ∀ i, i < CU b ∨ CU2 b ≤ i → F2 (i * 6 + b) = F (i * 6 + b) := fun i q => a5 _ (fun z z1 z2 => by omega)
  -- which nodes lead to the key
  have hlow : ∀ i, s ≤ i → i < CU b → ¬ kn fbb ffu fsu fmo ((d : Int) * 6 + b) b (gk i) = F (CU b * 6 + b) := by
    intro i i1 i2 q
    rcases l4 b i hb0 hb i1 i2 with ⟨x1, -⟩ | ⟨x1, x2, x3⟩
    · rw [x1] at q; omega
    · have := l6 _ b x1.1 x1.2 hb0 hb hCb
      rw [x2, q, ← hkey] at this
      omega
  have hhigh : ∀ i, CU2 b ≤ i → i < e → ¬ kn fbb ffu fsu fmo ((d : Int) * 6 + b) b (gk i) = F (CU b * 6 + b) := by
    intro i i1 i2 q
    have p1 : ¬ kn fbb ffu fsu fmo ((d : Int) * 6 + b) b (gk (CU2 b)) = -1 := by rw [← hNK _ (by omega) (by omega)]; exact a3 (by omega)
    have p2 : ¬ kn fbb ffu fsu fmo ((d : Int) * 6 + b) b (gk i) = -1 := by rw [q, hkey]; exact hk1
    have p3 := hmono (CU2 b) i (by omega) i1 i2 p1 p2
    have p4 := hmono (CU b) (CU2 b) (by omega) (by omega) (by omega) hk1 p1
    apply hne (by omega)
    rw [hNK _ (by omega) (by omega)]
    omega
  obtain ⟨n1, hn1⟩ : ∃ n : Nat, CU b = s + (n : Int) := ⟨(CU b - s).toNat, by omega⟩
  obtain ⟨n2, hn2⟩ : ∃ n : Nat, CU2 b = s + ((n1 + n : Nat) : Int) := ⟨(CU2 b - CU b).toNat, by omega⟩
  obtain ⟨n3, hn3⟩ : ∃ n : Nat, e = s + ((n1 + n2 + n : Nat) : Int) := ⟨(e - CU2 b).toNat, by omega⟩
  have en2 : (CU2 b - CU b).toNat = n2 := by omega
  have hcov : ∀ j, 0 < wt fsz ffu fsu fbb fmo d j → ∃ i, s ≤ i ∧ i < s + ((n1 + n2 + n3 : Nat) : Int) ∧ gk i = j := fun j q => by
    obtain ⟨i, i1, i2, i3⟩ := o3 j q
    exact ⟨i, i1, by omega, i3⟩
  have hbnd : ∀ i, s ≤ i → i < s + ((n1 + n2 + n3 : Nat) : Int) → 0 ≤ gk i ∧ gk i < ((32768 : Nat) : Int) := fun i i1 i2 => by
    have := hvk i i1 (by omega)
    unfold vk at this
    omega
  have hinc : ∀ i j, s ≤ i → i < j → j < s + ((n1 + n2 + n3 : Nat) : Int) → gk i < gk j := fun i j i1 i2 i3 => o2 i j i1 i2 (by omega)
  have hK8 : F (CU b * 6 + b) % 8 - 1 = b := by rw [hkey]; omega
  -- the ways
  have hW : GW2 T = wt fsz ffu fsu fbb fmo (d + 1) (F (CU b * 6 + b)) := by
    rw [a7b, en2]
    show _ = sumR (fun j => if (0 ≤ F (CU b * 6 + b) % 8 - 1 ∧ F (CU b * 6 + b) % 8 - 1 < fsz (d : Int)) ∧ kn fbb ffu fsu fmo ((d : Int) * 6 + (F (CU b * 6 + b) % 8 - 1)) (F (CU b * 6 + b) % 8 - 1) j = F (CU b * 6 + b) then wt fsz ffu fsu fbb fmo d j else 0) 0 32768
    rw [hK8]
    rw [← sum_keys (g := fun j => if (0 ≤ b ∧ b < fsz (d : Int)) ∧ kn fbb ffu fsu fmo ((d : Int) * 6 + b) b j = F (CU b * 6 + b) then wt fsz ffu fsu fbb fmo d j else 0) (gk := gk) (s := s) (n1 + n2 + n3) 32768 hinc hbnd (fun k k1 k2 k3 => hcov k (by
      try dsimp only at k3
      by_cases q : (0 ≤ b ∧ b < fsz (d : Int)) ∧ kn fbb ffu fsu fmo ((d : Int) * 6 + b) b k = F (CU b * 6 + b)
      · rw [if_pos q] at k3
        have := wt_nn (fsz := fsz) (ffu := ffu) (fsu := fsu) (fbb := fbb) (fmo := fmo) d k
        omega
      · rw [if_neg q] at k3; omega))]
    rw [sumR_gap (n := n1 + n2) n3 (fun i i1 i2 => by
      try dsimp only
      rw [if_neg (fun q => hhigh i (by omega) (by omega) q.2)])]
    rw [sumR_split n2, ← hn1]
    have z0 : sumR (fun i => (fun j => if (0 ≤ b ∧ b < fsz (d : Int)) ∧ kn fbb ffu fsu fmo ((d : Int) * 6 + b) b j = F (CU b * 6 + b) then wt fsz ffu fsu fbb fmo d j else 0) (gk i)) s n1 = 0 := by
      have := sumR_gap (g := fun i => (fun j => if (0 ≤ b ∧ b < fsz (d : Int)) ∧ kn fbb ffu fsu fmo ((d : Int) * 6 + b) b j = F (CU b * 6 + b) then wt fsz ffu fsu fbb fmo d j else 0) (gk i)) (s := s) (n := 0) n1 (fun i i1 i2 => by
        try dsimp only
        rw [if_neg (fun q => hlow i (by omega) (by omega) q.2)])
      rw [Nat.zero_add] at this
      rw [this]; rfl
    rw [z0, Int.zero_add]
    refine sumR_congr n2 (fun i i1 i2 => ?_)
    try dsimp only
    rw [hNK i i1 (by omega)]
    by_cases q : kn fbb ffu fsu fmo ((d : Int) * 6 + b) b (gk i) = F (CU b * 6 + b)
    · rw [if_pos q, if_pos ⟨⟨hb0, hb⟩, q⟩, (l1 i (by omega)).2.2, (o1 i (by omega) (by omega)).2.1]
    · rw [if_neg q, if_neg (fun z => q z.2)]
  -- the costs
  have hC : GC2 T = ct fsz fco ffu fsu fbb fmo (d + 1) (F (CU b * 6 + b)) := by
    rw [a6b, en2]
    show _ = minR (fun j => 0 < wt fsz ffu fsu fbb fmo d j ∧ kn fbb ffu fsu fmo ((d : Int) * 6 + (F (CU b * 6 + b) % 8 - 1)) (F (CU b * 6 + b) % 8 - 1) j = F (CU b * 6 + b)) (fun j => ct fsz fco ffu fsu fbb fmo d j + fco ((d : Int) * 6 + (F (CU b * 6 + b) % 8 - 1))) 0 32768
    rw [hK8]
    rw [← min_keys (P := fun j => 0 < wt fsz ffu fsu fbb fmo d j ∧ kn fbb ffu fsu fmo ((d : Int) * 6 + b) b j = F (CU b * 6 + b)) (v := fun j => ct fsz fco ffu fsu fbb fmo d j + fco ((d : Int) * 6 + b)) (gk := gk) (s := s) (n1 + n2 + n3) 32768 hinc hbnd (fun k k1 k2 k3 => hcov k k3.1)]
    rw [minR_gap (n := n1 + n2) n3 (fun i i1 i2 q => hhigh i (by omega) (by omega) q.2)]
    rw [minR_split (n := n1) (fun i i1 i2 q => hlow i i1 (by omega) q.2) n2, ← hn1]
    refine Eq.trans ?_ (minR_congr (P := fun i => F (i * 6 + b) = F (CU b * 6 + b)) (v := fun i => GC i + fco ((d : Int) * 6 + b)) n2 (fun i i1 i2 => ?_))
    · have := minR_le (P := fun i => F (i * 6 + b) = F (CU b * 6 + b)) (v := fun i => GC i + fco ((d : Int) * 6 + b)) (s := CU b) n2 (CU b) (Int.le_refl _) (by omega) rfl
      try dsimp only at this
      omega
    · have q1 := o1 i (by omega) (by omega)
      refine ⟨⟨fun q => ⟨by rw [← q1.2.1]; exact q1.2.2.1, by rw [← hNK i i1 (by omega)]; exact q⟩, fun q => by rw [hNK i i1 (by omega)]; exact q.2⟩, fun _ => ?_⟩
      show GC i + fco ((d : Int) * 6 + b) = ct fsz fco ffu fsu fbb fmo d (gk i) + fco ((d : Int) * 6 + b)
      rw [(l1 i (by omega)).2.1, q1.2.2.2]
  have hWp : 0 < GW2 T := by
    rw [hW]
    have q1 := o1 (CU b) (by omega) hCb
    have := sumR_term (g := fun j => if (0 ≤ F (CU b * 6 + b) % 8 - 1 ∧ F (CU b * 6 + b) % 8 - 1 < fsz (d : Int)) ∧ kn fbb ffu fsu fmo ((d : Int) * 6 + (F (CU b * 6 + b) % 8 - 1)) (F (CU b * 6 + b) % 8 - 1) j = F (CU b * 6 + b) then wt fsz ffu fsu fbb fmo d j else 0) (s := 0) (fun i => by
      try dsimp only
      split
      · exact wt_nn d i
      · exact Int.le_refl 0) 32768 (gk (CU b)) (by have := q1.1; unfold vk at this; omega) (by have := q1.1; unfold vk at this; omega)
    try dsimp only at this
    rw [hK8, if_pos ⟨⟨hb0, hb⟩, hkey.symm⟩, ← q1.2.1] at this
    refine Int.lt_of_lt_of_le q1.2.2.1 ?_
    show _ ≤ sumR (fun j => if (0 ≤ F (CU b * 6 + b) % 8 - 1 ∧ F (CU b * 6 + b) % 8 - 1 < fsz (d : Int)) ∧ kn fbb ffu fsu fmo ((d : Int) * 6 + (F (CU b * 6 + b) % 8 - 1)) (F (CU b * 6 + b) % 8 - 1) j = F (CU b * 6 + b) then wt fsz ffu fsu fbb fmo d j else 0) 0 32768
    rw [hK8]
    exact this
  refine ⟨fun i i1 => ?_, fun c c1 c2 => ?_, fun c i c1 c2 i1 i2 => ?_, fun c i c1 c2 i1 i2 => ?_, fun m m' m1 m2 m3 => ?_, fun m c m1 m2 c1 c2 c3 => ?_, fun m m1 m2 => ?_, fun j hj => ?_, by omega, ?_⟩
  · rw [uZ_n (by omega), a6 i (by omega), a7 i (by omega)]; exact l1 i i1
  · by_cases q : c = b
    · subst q
      refine ⟨⟨by omega, a2.2⟩, fun hl => ?_⟩
      rw [← hNK _ (by omega) hl]; exact a3 hl
    · rw [a1 c q]; exact l2 c c1 c2
  · by_cases q : c = b
    · subst q; rw [hF2b i (Or.inr i1)]; exact hNK i (by omega) i2
    · rw [a1 c q] at i1; rw [hF2 c i c1 c2 q]; exact l3 c i c1 c2 i1 i2
  · by_cases q : c = b
    · subst q
      by_cases r : i < CU c
      · rw [hF2b i (Or.inl r)]
        rcases l4 c i c1 c2 i1 r with x | ⟨x1, x2, x3⟩
        · exact Or.inl x
        · exact Or.inr ⟨⟨x1.1, by omega⟩, by rw [uZ_n (by omega)]; exact x2, x3⟩
      · rcases a4 i (by omega) i2 with ⟨x1, x2⟩ | ⟨x1, x2⟩
        · rw [hNK i (by omega) (by omega)] at x1
          refine Or.inr ⟨⟨by omega, by omega⟩, ?_, ?_⟩
          · rw [x2, uZ_s, x1]
          · rw [x1, hkey]; exact hk1
        · rw [hNK i (by omega) (by omega)] at x1
          exact Or.inl ⟨x1, x2⟩
    · rw [a1 c q] at i2
      rw [hF2 c i c1 c2 q]
      rcases l4 c i c1 c2 i1 i2 with x | ⟨x1, x2, x3⟩
      · exact Or.inl x
      · exact Or.inr ⟨⟨x1.1, by omega⟩, by rw [uZ_n (by omega)]; exact x2, x3⟩
  · rw [uZ_n (k := T) (j := m) (by omega)]
    by_cases q : m' = T
    · subst q; rw [uZ_s, hkey]; exact l6 m b m1 m2 hb0 hb hCb
    · rw [uZ_n (by omega)]; exact l5 m m' m1 m2 (by omega)
  · by_cases q : c = b
    · subst q
      have p1 : ¬ kn fbb ffu fsu fmo ((d : Int) * 6 + c) c (gk (CU2 c)) = -1 := by rw [← hNK _ (by omega) c3]; exact a3 c3
      have p2 := hmono (CU c) (CU2 c) (by omega) (by omega) c3 hk1 p1
      by_cases r : m = T
      · subst r
        rw [uZ_s]
        have := hne c3
        rw [hNK _ (by omega) c3] at this
        omega
      · rw [uZ_n r]
        have := l6 m c m1 (by omega) c1 c2 hCb
        omega
    · rw [a1 c q] at c3 ⊢
      by_cases r : m = T
      · subst r
        rw [uZ_s]
        have p1 := hlk c c1 c2 c3
        have p2 := (hop c (CU c) c1 c2 (by have := (l2 c c1 c2).1; omega) c3 ((l2 c c1 c2).2 c3)).2.1
        rw [l3 c (CU c) c1 c2 (Int.le_refl _) c3] at p1
        have p3 := hkb.2.1
        rw [← hkey] at p3
        omega
      · rw [uZ_n r]; exact l6 m c m1 (by omega) c1 c2 c3
  · by_cases r : m = T
    · subst r
      rw [uZ_s]
      exact ⟨by rw [hkey]; exact hkb.1, hW, hWp, hC⟩
    · rw [uZ_n r, a7 m r, a6 m r]; exact l7 m m1 (by omega)
  · rw [a5 j (fun i i1 i2 => by omega)]; exact l8 j hj
  · have := (sumR_upd (g := fun c => CU c - s) (g' := fun c => CU2 c - s) (s := 0) (b := b) (fun i hi => by show CU2 i - s = CU i - s; rw [a1 i hi]) (by show CU b - s + 1 ≤ CU2 b - s; omega) (fsz (d : Int)).toNat).2 hb0 (by omega)
    omega
