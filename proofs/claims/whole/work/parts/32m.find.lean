/-! the first row, and none -/
theorem ls_root {fsz fco ffu fsu fbb fmo ST GK GW GC GB : Int → Int} {n : Nat} (h : LYS fsz fco ffu fsu fbb fmo n ST GK GW GC GB) : ST 0 = 0 ∧ 0 < ST 1 ∧ GK 0 = 0 := by
  have h0 := h.2.2
  have hL := h.1 0 (Nat.zero_le n)
  have hw : 0 < wt fsz ffu fsu fbb fmo 0 0 := by unfold wt; rw [if_pos rfl]; omega
  obtain ⟨i, i1, i2, i3⟩ := hL.2.1.2.2 0 hw
  have e0 : ST (((0 : Nat) : Int)) = 0 := h0
  have e1 : (((0 : Nat) : Int) + 1) = 1 := rfl
  rw [e0] at i1
  rw [e1] at i2
  have hz := hL.2.1.1 0 (by rw [e0]; omega) (by rw [e1]; omega)
  have hk : 0 < wt fsz ffu fsu fbb fmo 0 (GK 0) := by rw [← hz.2.1]; exact hz.2.2.1
  unfold wt at hk
  refine ⟨h0, by omega, ?_⟩
  by_cases r : GK 0 = 0
  · exact r
  · rw [if_neg r] at hk; omega
theorem pr_none {fsz fco ffu fsu fbb fmo fle : Int → Int} {n : Nat} (h : wf fsz ffu fsu fbb fmo fle n 0 0 = 0) : ∀ (d : Nat) (r k g : Int), ¬ PR fsz fco ffu fsu fbb fmo fle n d r k g
  | 0, r, k, g, q => by have := q.2.2.2; omega
  | d + 1, r, k, g, q => by
    obtain ⟨c, k0, g0, r0, h1, -⟩ := q
    exact pr_none h d r0 k0 g0 h1
theorem fs_none {fsz fco ffu fsu fbb fmo fle gst gk R V : Int → Int} {n d : Nat} (h : wf fsz ffu fsu fbb fmo fle n 0 0 = 0) : FS (PC fsz fco ffu fsu fbb fmo fle n gst gk d) 0 R V := fs_0 (fun E v q => by
  obtain ⟨r, k, g, h1, -⟩ := q
  exact pr_none h d r k g h1)
theorem fs_first {fsz fco ffu fsu fbb fmo fle gst gk R V : Int → Int} {n : Nat} {w : Int} (hg : gst 0 = 0 ∧ 0 < gst 1 ∧ gk 0 = 0) (h : 0 < wf fsz ffu fsu fbb fmo fle n 0 0) (hw : w = (cf fsz fco ffu fsu fbb fmo fle n 0 0 + 12000) * 68719476736) : FS (PC fsz fco ffu fsu fbb fmo fle n gst gk 0) 1 (uZ R 0 w) (uZ V 0 0) := by
  have e : cod fsz fco ffu fsu fbb fmo fle n 0 0 0 0 = w := by
    unfold cod
    rw [hw, Nat.sub_zero]
    omega
  refine ⟨by omega, fun i i1 i2 => ?_, fun i j i1 i2 i3 => by omega, fun E v q => ?_⟩
  · have : i = 0 := by omega
    subst this
    rw [uZ_s, uZ_s]
    refine ⟨0, 0, 0, ⟨rfl, rfl, rfl, h⟩, e.symm, ?_, hg.2.2⟩
    show gst 0 ≤ 0 ∧ 0 < gst (0 + 1)
    rw [hg.1]
    exact ⟨Int.le_refl 0, hg.2.1⟩
  · obtain ⟨r, k, g, h1, h2, -⟩ := q
    refine Or.inl ⟨0, by omega, ?_⟩
    rw [uZ_s, h2, h1.1, h1.2.1, h1.2.2.1, e]
