theorem wf0_t {fsz ffu fsu fbb fmo fle : Int → Int} {d : Nat} {k : Int} (h : fle 0 ≤ k / 512 ∧ fle 1 ≤ k / 8 % 64) : 1 = wf fsz ffu fsu fbb fmo fle 0 d k := (if_pos h).symm
theorem wf0_f {fsz ffu fsu fbb fmo fle : Int → Int} {d : Nat} {k : Int} (h : ¬ (fle 0 ≤ k / 512 ∧ fle 1 ≤ k / 8 % 64)) : 0 = wf fsz ffu fsu fbb fmo fle 0 d k := (if_neg h).symm
theorem bk_last {fsz fco ffu fsu fbb fmo fle GK GX GD : Int → Int} {n : Nat} {s x v : Int} (h : BK fsz fco ffu fsu fbb fmo fle n GK GX GD n s x) (hv : v = wf fsz ffu fsu fbb fmo fle 0 n (GK x)) : BK fsz fco ffu fsu fbb fmo fle n GK (uZ GX x v) (uZ GD x 0) n s (x + 1) := by
  intro i i1 i2
  by_cases r : i = x
  · subst r
    rw [uZ_s, uZ_s, Nat.sub_self]
    exact ⟨hv, fun _ => rfl, by omega, by omega⟩
  · rw [uZ_n r, uZ_n r]; exact h i i1 (by omega)
theorem ls_up {fsz fco ffu fsu fbb fmo ST GK GW GC GB : Int → Int} {n : Nat} (h : LYS fsz fco ffu fsu fbb fmo n ST GK GW GC GB) : ∀ k i : Nat, i + 1 + k ≤ n → ST ((i : Int) + 1) ≤ ST ((i + 1 + k : Nat) : Int) := by
  intro k
  induction k with
  | zero => intro i _; exact Int.le_of_eq (by congr 1)
  | succ k ih =>
    intro i hi
    have a := ih i (by omega)
    have b := (h.1 (i + 1 + k) (by omega)).1.2.1
    rw [show ((i + 1 + (k + 1) : Nat) : Int) = ((i + 1 + k : Nat) : Int) + 1 by omega]
    omega
theorem ls_lt {fsz fco ffu fsu fbb fmo ST GK GW GC GB : Int → Int} {n i d : Nat} (h : LYS fsz fco ffu fsu fbb fmo n ST GK GW GC GB) (h1 : i < d) (h2 : d ≤ n) : ST ((i : Int) + 1) ≤ ST (d : Int) := by
  have := ls_up h (d - (i + 1)) i (by omega)
  rw [show i + 1 + (d - (i + 1)) = d by omega] at this
  exact this
theorem bk_be {fsz fco ffu fsu fbb fmo fle GK GX GD GB : Int → Int} {n d : Nat} {s e T y cap : Int} (hT : TB fsz fco ffu fsu fbb fmo) (hd : d < n) (hn : n ≤ 12) (hL : LK fsz ffu fsu fbb fmo GK d s e T GB GK) (hN : BK fsz fco ffu fsu fbb fmo fle n GK GX GD (d + 1) e T) (he0 : 0 ≤ e) (hTc : T ≤ cap) (hc : 0 ≤ cap) (h1 : s ≤ y) (h2 : y < e) :
    ∀ i, 0 ≤ i → i < fsz (d : Int) → (-1 ≤ GB (y * 6 + i) ∧ GB (y * 6 + i) < cap) ∧ (0 ≤ GB (y * 6 + i) → (0 ≤ GX (GB (y * 6 + i)) ∧ GX (GB (y * 6 + i)) ≤ 1000000000000) ∧ -1000000 ≤ GD (GB (y * 6 + i)) ∧ GD (GB (y * 6 + i)) ≤ 1000000) := by
  intro c c1 c2
  rcases hL c y c1 c2 h1 h2 with ⟨x1, x2⟩ | ⟨x1, x2, x3⟩
  · rw [x2]; exact ⟨by omega, fun q => by omega⟩
  · obtain ⟨b1, b2, b3, b4⟩ := hN _ x1.1 x1.2
    refine ⟨by omega, fun _ => ⟨?_, b3, b4⟩⟩
    rw [b1]
    exact ⟨wf_nn _ _ _, wf_big hT (by omega)⟩
theorem bk_all1 {fsz fco ffu fsu fbb fmo fle GK GX GD ST : Int → Int} {n : Nat} {x total : Int} (h : BK fsz fco ffu fsu fbb fmo fle n GK GX GD n (ST (n : Int)) x) (hx : total ≤ x) (ht : total = ST ((n : Int) + 1)) : ∀ d : Nat, (n : Int) - 1 < (d : Int) → d ≤ n → BK fsz fco ffu fsu fbb fmo fle n GK GX GD d (ST (d : Int)) (ST ((d : Int) + 1)) := by
  intro d d1 d2
  obtain rfl : d = n := by omega
  intro i i1 i2
  exact h i i1 (by omega)
theorem bk_all2 {fsz fco ffu fsu fbb fmo fle GK GX GD ST : Int → Int} {n d0 : Nat} {y : Int} (h1 : ∀ d : Nat, (d0 : Int) < (d : Int) → d ≤ n → BK fsz fco ffu fsu fbb fmo fle n GK GX GD d (ST (d : Int)) (ST ((d : Int) + 1))) (h2 : BK fsz fco ffu fsu fbb fmo fle n GK GX GD d0 (ST (d0 : Int)) y) (hy : ST ((d0 : Int) + 1) ≤ y) : ∀ d : Nat, (d0 : Int) + (-1) < (d : Int) → d ≤ n → BK fsz fco ffu fsu fbb fmo fle n GK GX GD d (ST (d : Int)) (ST ((d : Int) + 1)) := by
  intro d d1 d2
  by_cases r : d = d0
  · subst r
    intro i i1 i2
    exact h2 i i1 (by omega)
  · exact h1 d (by omega) d2
