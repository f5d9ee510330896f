/-! CLASS AND MODEL SIDE BY SIDE: what is told -/
def TD (n : Nat) (ch ba : Int) (fsz fco ffu fsu fbb fmo fle fba : Int → Int) : Prop := n ≤ 12 ∧ TB fsz fco ffu fsu fbb fmo ∧ (∀ j, (n : Int) ≤ j → fsz j = 0) ∧ (∀ j, 0 ≤ j → j < 2 → 0 ≤ fle j ∧ fle j ≤ 40) ∧ BR fbb fba ∧ ch = sumR fsz 0 n ∧ ba = sumR fba 0 468
theorem sum_u {f : Int → Int} {a v : Int} (h0 : 0 ≤ a) : ∀ n : Nat, a < (n : Int) → sumR (uZ f a v) 0 n = sumR f 0 n + (v - f a)
  | 0, h => by omega
  | n + 1, h => by
    show sumR (uZ f a v) 0 n + uZ f a v (0 + (n : Int)) = sumR f 0 n + f (0 + (n : Int)) + (v - f a)
    by_cases q : a = (n : Int)
    · subst q
      have key : ∀ m : Nat, m ≤ n → sumR (uZ f (n : Int) v) 0 m = sumR f 0 m := by
        intro m
        induction m with
        | zero => intro _; rfl
        | succ m ih =>
          intro hm
          show sumR (uZ f (n : Int) v) 0 m + uZ f (n : Int) v (0 + (m : Int)) = sumR f 0 m + f (0 + (m : Int))
          rw [ih (by omega), uZ_n (by omega)]
      rw [key n (Nat.le_refl n), show 0 + (n : Int) = (n : Int) by omega, uZ_s]
      omega
    · rw [sum_u h0 n (by omega), uZ_n (by omega)]
      omega
theorem td_sz {n : Nat} {ch ba : Int} {fsz fco ffu fsu fbb fmo fle fba : Int → Int} (h : TD n ch ba fsz fco ffu fsu fbb fmo fle fba) : ∀ j, 0 ≤ j → j < 13 → 0 ≤ fsz j ∧ fsz j ≤ 6 := fun j a b => by
  by_cases q : j < 12
  · exact h.2.1.1 j a q
  · have := h.2.2.1 j (by have := h.1; omega); omega
theorem w_step {n : Nat} {ch ba s1 s2 : Int} {fsz fco ffu fsu fbb fmo fle fba f1 : Int → Int} {H H1 H2 : Prop} {r1 r2 : Int32} (h : TD n ch ba fsz fco ffu fsu fbb fmo fle fba)
    (hC : (12 ≤ (n : Int) ∧ r1 = iI (-3000000) ∧ (H1, s1, f1) = (H, (n : Int), fsz)) ∨ ((n : Int) < 12 ∧ r1 = iI ((n : Int) + 1 - 1) ∧ (H1, s1, f1) = (False, (n : Int) + 1, uZ fsz (n : Int) 0)))
    (hM : (12 ≤ (n : Int) ∧ r2 = iI (-3000000) ∧ (H2, s2) = (H, (n : Int))) ∨ ((n : Int) < 12 ∧ r2 = iI ((n : Int) + 1 - 1) ∧ (H2, s2) = (False, (n : Int) + 1))) :
    ∃ n' : Nat, r1 = r2 ∧ H2 = H1 ∧ s1 = (n' : Int) ∧ s2 = (n' : Int) ∧ f1 = fsz ∧ TD n' ch ba fsz fco ffu fsu fbb fmo fle fba ∧ (H1 → H ∧ n' = n) := by
  simp only [Prod.mk.injEq] at hC hM
  rcases hC with ⟨a1, a2, a3, a4, a5⟩ | ⟨a1, a2, a3, a4, a5⟩ <;> rcases hM with ⟨b1, b2, b3, b4⟩ | ⟨b1, b2, b3, b4⟩
  · exact ⟨n, by rw [a2, b2], b3.trans a3.symm, a4, b4, a5, h, fun q => ⟨a3 ▸ q, rfl⟩⟩
  · omega
  · omega
  · obtain ⟨h1, h2, h3, h4, h5, h6, h7⟩ := h
    refine ⟨n + 1, by rw [a2, b2], b3.trans a3.symm, by omega, by omega, ?_, ⟨by omega, h2, fun j hj => h3 j (by omega), h4, h5, ?_, h7⟩, fun q => absurd (a3 ▸ q) id⟩
    · have h0 := h3 (n : Int) (Int.le_refl _)
      rw [a5, show (0 : Int) = fsz (n : Int) from h0.symm, uZ_id]
    · rw [h6]
      show _ = sumR fsz 0 n + fsz (0 + (n : Int))
      rw [show 0 + (n : Int) = (n : Int) by omega, h3 (n : Int) (Int.le_refl _)]; omega
theorem w_choice {n : Nat} {ch ba c1 a x y z : Int} {fsz fco ffu fsu fbb fmo fle fba f1 f2 f3 f4 g1 g2 g3 g4 : Int → Int} {H H1 H2 : Prop} {r1 r2 : Int32} (h : TD n ch ba fsz fco ffu fsu fbb fmo fle fba)
    (hC : (¬ (((0 ≤ a ∧ a < (n : Int)) ∧ (-1000 ≤ x ∧ x ≤ 1000)) ∧ (0 ≤ y ∧ y ≤ 20) ∧ 0 ≤ z ∧ z ≤ 20) ∧ r1 = iI (-2000000) ∧ (H1, c1, f1, f2, f3, f4) = (H, ch, fsz, fco, ffu, fsu)) ∨ (((((0 ≤ a ∧ a < (n : Int)) ∧ (-1000 ≤ x ∧ x ≤ 1000)) ∧ (0 ≤ y ∧ y ≤ 20) ∧ 0 ≤ z ∧ z ≤ 20) ∧ 6 ≤ fsz a) ∧ r1 = iI (-3000000) ∧ (H1, c1, f1, f2, f3, f4) = (H, ch, fsz, fco, ffu, fsu)) ∨ (((((0 ≤ a ∧ a < (n : Int)) ∧ (-1000 ≤ x ∧ x ≤ 1000)) ∧ (0 ≤ y ∧ y ≤ 20) ∧ 0 ≤ z ∧ z ≤ 20) ∧ fsz a < 6) ∧ r1 = iI (fsz a) ∧ (H1, c1, f1, f2, f3, f4) = (False, ch + 1, uZ fsz a (fsz a + 1), uZ fco (a * 6 + fsz a) x, uZ ffu (a * 6 + fsz a) y, uZ fsu (a * 6 + fsz a) z)))
    (hM : (¬ (((0 ≤ a ∧ a < (n : Int)) ∧ (-1000 ≤ x ∧ x ≤ 1000)) ∧ (0 ≤ y ∧ y ≤ 20) ∧ 0 ≤ z ∧ z ≤ 20) ∧ r2 = iI (-2000000) ∧ (H2, g1, g2, g3, g4) = (H, fsz, fco, ffu, fsu)) ∨ (((((0 ≤ a ∧ a < (n : Int)) ∧ (-1000 ≤ x ∧ x ≤ 1000)) ∧ (0 ≤ y ∧ y ≤ 20) ∧ 0 ≤ z ∧ z ≤ 20) ∧ 6 ≤ fsz a) ∧ r2 = iI (-3000000) ∧ (H2, g1, g2, g3, g4) = (H, fsz, fco, ffu, fsu)) ∨ (((((0 ≤ a ∧ a < (n : Int)) ∧ (-1000 ≤ x ∧ x ≤ 1000)) ∧ (0 ≤ y ∧ y ≤ 20) ∧ 0 ≤ z ∧ z ≤ 20) ∧ fsz a < 6) ∧ r2 = iI (fsz a) ∧ (H2, g1, g2, g3, g4) = (False, uZ fsz a (fsz a + 1), uZ fco (a * 6 + fsz a) x, uZ ffu (a * 6 + fsz a) y, uZ fsu (a * 6 + fsz a) z))) :
    r1 = r2 ∧ H2 = H1 ∧ g1 = f1 ∧ g2 = f2 ∧ g3 = f3 ∧ g4 = f4 ∧ TD n c1 ba f1 f2 f3 f4 fbb fmo fle fba ∧ (H1 → H ∧ f1 = fsz ∧ f2 = fco ∧ f3 = ffu ∧ f4 = fsu) := by
  simp only [Prod.mk.injEq] at hC hM
  rcases hC with ⟨a1, a2, a3, a4, a5, a6, a7, a8⟩ | ⟨a1, a2, a3, a4, a5, a6, a7, a8⟩ | ⟨a1, a2, a3, a4, a5, a6, a7, a8⟩ <;> rcases hM with ⟨b1, b2, b3, b4, b5, b6, b7⟩ | ⟨b1, b2, b3, b4, b5, b6, b7⟩ | ⟨b1, b2, b3, b4, b5, b6, b7⟩ <;> first | (exfalso; omega) | skip
  · exact ⟨a2.trans b2.symm, b3.trans a3.symm, b4.trans a5.symm, b5.trans a6.symm, b6.trans a7.symm, b7.trans a8.symm, by rw [a4, a5, a6, a7, a8]; exact h, fun q => ⟨a3 ▸ q, a5, a6, a7, a8⟩⟩
  · exact ⟨a2.trans b2.symm, b3.trans a3.symm, b4.trans a5.symm, b5.trans a6.symm, b6.trans a7.symm, b7.trans a8.symm, by rw [a4, a5, a6, a7, a8]; exact h, fun q => ⟨a3 ▸ q, a5, a6, a7, a8⟩⟩
  · refine ⟨a2.trans b2.symm, b3.trans a3.symm, b4.trans a5.symm, b5.trans a6.symm, b6.trans a7.symm, b7.trans a8.symm, ?_, fun q => absurd (a3 ▸ q) id⟩
    rw [a4, a5, a6, a7, a8]
    obtain ⟨h1, ⟨t1, t2, t3, t4⟩, h3, h4, h5, h6, h7⟩ := h
    have hs := t1 a (by omega) (by omega)
    refine ⟨h1, ⟨fun j j1 j2 => ?_, fun j j1 j2 => ?_, fun j j1 j2 => ?_, t4⟩, fun j hj => ?_, h4, h5, ?_, h7⟩
    · by_cases q : j = a
      · subst q; rw [uZ_s]; omega
      · rw [uZ_n q]; exact t1 j j1 j2
    · by_cases q : j = a * 6 + fsz a
      · subst q; rw [uZ_s]; omega
      · rw [uZ_n q]; exact t2 j j1 j2
    · have := t3 j j1 j2
      by_cases q : j = a * 6 + fsz a
      · subst q; rw [uZ_s, uZ_s]; exact ⟨by omega, by omega, this.2.2⟩
      · rw [uZ_n q, uZ_n q]; exact this
    · rw [uZ_n (by omega)]; exact h3 j hj
    · rw [sum_u (by omega) n (by omega), h6]; omega
theorem w_cost {n : Nat} {ch ba a b x : Int} {fsz fco ffu fsu fbb fmo fle fba f1 g1 : Int → Int} {H H1 H2 : Prop} {r1 r2 : Int32} (h : TD n ch ba fsz fco ffu fsu fbb fmo fle fba)
    (hC : (¬ (((0 ≤ a ∧ a < (n : Int)) ∧ 0 ≤ b ∧ b < fsz a) ∧ -1000 ≤ x ∧ x ≤ 1000) ∧ r1 = iI (-2000000) ∧ (H1, f1) = (H, fco)) ∨ ((((0 ≤ a ∧ a < (n : Int)) ∧ 0 ≤ b ∧ b < fsz a) ∧ -1000 ≤ x ∧ x ≤ 1000) ∧ r1 = iI (fco (a * 6 + b)) ∧ (H1, f1) = (False, uZ fco (a * 6 + b) x)))
    (hM : (¬ (((0 ≤ a ∧ a < (n : Int)) ∧ 0 ≤ b ∧ b < fsz a) ∧ -1000 ≤ x ∧ x ≤ 1000) ∧ r2 = iI (-2000000) ∧ (H2, g1) = (H, fco)) ∨ ((((0 ≤ a ∧ a < (n : Int)) ∧ 0 ≤ b ∧ b < fsz a) ∧ -1000 ≤ x ∧ x ≤ 1000) ∧ r2 = iI (fco (a * 6 + b)) ∧ (H2, g1) = (False, uZ fco (a * 6 + b) x))) :
    r1 = r2 ∧ H2 = H1 ∧ g1 = f1 ∧ TD n ch ba fsz f1 ffu fsu fbb fmo fle fba ∧ (H1 → H ∧ f1 = fco) := by
  simp only [Prod.mk.injEq] at hC hM
  rcases hC with ⟨a1, a2, a3, a4⟩ | ⟨a1, a2, a3, a4⟩ <;> rcases hM with ⟨b1, b2, b3, b4⟩ | ⟨b1, b2, b3, b4⟩ <;> first | (exfalso; omega) | skip
  · exact ⟨a2.trans b2.symm, b3.trans a3.symm, b4.trans a4.symm, by rw [a4]; exact h, fun q => ⟨a3 ▸ q, a4⟩⟩
  · refine ⟨a2.trans b2.symm, b3.trans a3.symm, b4.trans a4.symm, ?_, fun q => absurd (a3 ▸ q) id⟩
    rw [a4]
    obtain ⟨h1, ⟨t1, t2, t3, t4⟩, h3⟩ := h
    refine ⟨h1, ⟨t1, fun j j1 j2 => ?_, t3, t4⟩, h3⟩
    by_cases q : j = a * 6 + b
    · subst q; rw [uZ_s]; omega
    · rw [uZ_n q]; exact t2 j j1 j2
theorem w_resource {n : Nat} {ch ba a x y : Int} {fsz fco ffu fsu fbb fmo fle fba f1 f2 g1 g2 : Int → Int} {H H1 H2 : Prop} {r1 r2 : Int32} (h : TD n ch ba fsz fco ffu fsu fbb fmo fle fba)
    (hC : (¬ ((0 ≤ a ∧ a ≤ 1) ∧ (0 ≤ x ∧ x ≤ y) ∧ y ≤ 40) ∧ r1 = iI (-2000000) ∧ (H1, f1, f2) = (H, fle, fmo)) ∨ (((0 ≤ a ∧ a ≤ 1) ∧ (0 ≤ x ∧ x ≤ y) ∧ y ≤ 40) ∧ r1 = iI (100 * fle a + fmo a) ∧ (H1, f1, f2) = (False, uZ fle a x, uZ fmo a y)))
    (hM : (¬ ((0 ≤ a ∧ a ≤ 1) ∧ (0 ≤ x ∧ x ≤ y) ∧ y ≤ 40) ∧ r2 = iI (-2000000) ∧ (H2, g1, g2) = (H, fle, fmo)) ∨ (((0 ≤ a ∧ a ≤ 1) ∧ (0 ≤ x ∧ x ≤ y) ∧ y ≤ 40) ∧ r2 = iI (100 * fle a + fmo a) ∧ (H2, g1, g2) = (False, uZ fle a x, uZ fmo a y))) :
    r1 = r2 ∧ H2 = H1 ∧ g1 = f1 ∧ g2 = f2 ∧ TD n ch ba fsz fco ffu fsu fbb f2 f1 fba ∧ (H1 → H ∧ f1 = fle ∧ f2 = fmo) := by
  simp only [Prod.mk.injEq] at hC hM
  rcases hC with ⟨a1, a2, a3, a4, a5⟩ | ⟨a1, a2, a3, a4, a5⟩ <;> rcases hM with ⟨b1, b2, b3, b4, b5⟩ | ⟨b1, b2, b3, b4, b5⟩ <;> first | (exfalso; omega) | skip
  · exact ⟨a2.trans b2.symm, b3.trans a3.symm, b4.trans a4.symm, b5.trans a5.symm, by rw [a4, a5]; exact h, fun q => ⟨a3 ▸ q, a4, a5⟩⟩
  · refine ⟨a2.trans b2.symm, b3.trans a3.symm, b4.trans a4.symm, b5.trans a5.symm, ?_, fun q => absurd (a3 ▸ q) id⟩
    rw [a4, a5]
    obtain ⟨h1, ⟨t1, t2, t3, t4⟩, h3, h4, h5⟩ := h
    refine ⟨h1, ⟨t1, t2, t3, fun j j1 j2 => ?_⟩, h3, fun j j1 j2 => ?_, h5⟩
    · by_cases q : j = a
      · subst q; rw [uZ_s]; omega
      · rw [uZ_n q]; exact t4 j j1 j2
    · by_cases q : j = a
      · subst q; rw [uZ_s]; omega
      · rw [uZ_n q]; exact h4 j j1 j2
theorem bit_n : ∀ F : Nat, F < 64 → ∀ x : Nat, x < 6 → ∀ v : Nat, v < 2 → (0 ≤ (F : Int) + ((v : Int) - (F : Int) / 2 ^ x % 2) * 2 ^ x ∧ (F : Int) + ((v : Int) - (F : Int) / 2 ^ x % 2) * 2 ^ x < 64) ∧ ∀ y : Nat, y < 6 → ((F : Int) + ((v : Int) - (F : Int) / 2 ^ x % 2) * 2 ^ x) / 2 ^ y % 2 = if y = x then (v : Int) else (F : Int) / 2 ^ y % 2 := by decide +kernel
theorem bit_i {F v x : Int} (hF : 0 ≤ F ∧ F < 64) (hx : 0 ≤ x ∧ x < 6) (hv : v = 0 ∨ v = 1) : (0 ≤ F + (v - F / 2 ^ x.toNat % 2) * 2 ^ x.toNat ∧ F + (v - F / 2 ^ x.toNat % 2) * 2 ^ x.toNat < 64) ∧ ∀ y, 0 ≤ y → y < 6 → (F + (v - F / 2 ^ x.toNat % 2) * 2 ^ x.toNat) / 2 ^ y.toNat % 2 = if y = x then v else F / 2 ^ y.toNat % 2 := by
  obtain ⟨f, rfl⟩ : ∃ f : Nat, F = (f : Int) := ⟨F.toNat, by omega⟩
  obtain ⟨w, rfl⟩ : ∃ w : Nat, v = (w : Int) := ⟨v.toNat, by omega⟩
  have k := bit_n f (by omega) x.toNat (by omega) w (by omega)
  refine ⟨k.1, fun y y1 y2 => ?_⟩
  rw [k.2 y.toNat (by omega)]
  by_cases q : y = x
  · rw [if_pos q, if_pos (by omega)]
  · rw [if_neg q, if_neg (by omega)]
theorem w_bar {n : Nat} {ch ba b1' a x b : Int} {fsz fco ffu fsu fbb fmo fle fba f1 g1 : Int → Int} {H H1 H2 v : Prop} {r1 r2 : Int32} (h : TD n ch ba fsz fco ffu fsu fbb fmo fle fba)
    (hC : (¬ (((0 ≤ a ∧ a < (n : Int)) ∧ 0 ≤ x ∧ x < fsz a) ∧ ((0 ≤ a + 1 ∧ a + 1 < (n : Int)) ∧ 0 ≤ b ∧ b < fsz (a + 1))) ∧ r1 = iI (-2000000) ∧ (H1, b1', f1) = (H, ba, fbb)) ∨ ((((0 ≤ a ∧ a < (n : Int)) ∧ 0 ≤ x ∧ x < fsz a) ∧ ((0 ≤ a + 1 ∧ a + 1 < (n : Int)) ∧ 0 ≤ b ∧ b < fsz (a + 1))) ∧ r1 = iI (fbb ((a + 1) * 6 + b) / 2 ^ x.toNat % 2) ∧ (H1, b1', f1) = (False, ba + (bI v - fbb ((a + 1) * 6 + b) / 2 ^ x.toNat % 2), uZ fbb ((a + 1) * 6 + b) (fbb ((a + 1) * 6 + b) + (bI v - fbb ((a + 1) * 6 + b) / 2 ^ x.toNat % 2) * 2 ^ x.toNat))))
    (hM : (¬ (((0 ≤ a ∧ a < (n : Int)) ∧ 0 ≤ x ∧ x < fsz a) ∧ ((0 ≤ a + 1 ∧ a + 1 < (n : Int)) ∧ 0 ≤ b ∧ b < fsz (a + 1))) ∧ r2 = iI (-2000000) ∧ (H2, g1) = (H, fba)) ∨ ((((0 ≤ a ∧ a < (n : Int)) ∧ 0 ≤ x ∧ x < fsz a) ∧ ((0 ≤ a + 1 ∧ a + 1 < (n : Int)) ∧ 0 ≤ b ∧ b < fsz (a + 1))) ∧ r2 = iI (fba (36 * a + 6 * x + b)) ∧ (H2, g1) = (False, uZ fba (36 * a + 6 * x + b) (bI v)))) :
    r1 = r2 ∧ H2 = H1 ∧ TD n ch b1' fsz fco ffu fsu f1 fmo fle g1 ∧ (H1 → H ∧ f1 = fbb) := by
  simp only [Prod.mk.injEq] at hC hM
  rcases hC with ⟨a1, a2, a3, a4, a5⟩ | ⟨a1, a2, a3, a4, a5⟩ <;> rcases hM with ⟨b1, b2, b3, b4⟩ | ⟨b1, b2, b3, b4⟩ <;> first | (exfalso; omega) | skip
  · exact ⟨a2.trans b2.symm, b3.trans a3.symm, by rw [a4, a5, b4]; exact h, fun q => ⟨a3 ▸ q, a5⟩⟩
  · obtain ⟨h1, ⟨t1, t2, t3, t4⟩, h3, h4, ⟨p1, p2⟩, h6, h7⟩ := h
    have s1 := t1 a (by omega) (by omega)
    have s2 := t1 (a + 1) (by omega) (by omega)
    have hv : bI v = 0 ∨ bI v = 1 := (bI_c v).symm.elim (fun q => by rcases bI_c v with z | z <;> omega) (fun q => by rcases bI_c v with z | z <;> omega)
    have hF := (t3 ((a + 1) * 6 + b) (by omega) (by omega)).2.2
    have hb := bit_i (x := x) hF ⟨by omega, by omega⟩ hv
    have hpr := p2 (a + 1) b x (by omega) (by omega) (by omega) (by omega) (by omega) (by omega)
    rw [show a + 1 - 1 = a by omega] at hpr
    refine ⟨by rw [a2, b2, hpr], b3.trans a3.symm, ?_, fun q => absurd (a3 ▸ q) id⟩
    rw [a4, a5, b4]
    refine ⟨h1, ⟨t1, t2, fun j j1 j2 => ?_, t4⟩, h3, h4, ⟨fun j => ?_, fun d cp lp d1 d2 c1 c2 l1 l2 => ?_⟩, h6, ?_⟩
    · have := t3 j j1 j2
      by_cases q : j = (a + 1) * 6 + b
      · subst q; rw [uZ_s]; exact ⟨this.1, this.2.1, hb.1⟩
      · rw [uZ_n q]; exact this
    · by_cases q : j = 36 * a + 6 * x + b
      · subst q; rw [uZ_s]; exact hv
      · rw [uZ_n q]; exact p1 j
    · by_cases q : d * 6 + cp = (a + 1) * 6 + b
      · have e1 : d = a + 1 := by omega
        have e2 : cp = b := by omega
        subst e1 e2
        rw [uZ_s, hb.2 lp l1 l2]
        by_cases r : lp = x
        · rw [if_pos r, show 36 * (a + 1 - 1) + 6 * lp + cp = 36 * a + 6 * x + cp by omega, uZ_s]
        · rw [if_neg r, uZ_n (by omega)]; exact p2 (a + 1) cp lp d1 d2 c1 c2 l1 l2
      · rw [uZ_n q, uZ_n (by omega)]; exact p2 d cp lp d1 d2 c1 c2 l1 l2
    · rw [sum_u (by omega) 468 (by omega), h7, hpr]
