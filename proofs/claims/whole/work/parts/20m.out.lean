/-! WHAT layBehind GIVES -/
theorem vk_all {k : Int} (h : vk k) : 0 ≤ k ∧ k < 32768 ∧ k / 512 ≤ 40 ∧ k / 8 % 64 ≤ 40 ∧ k % 8 ≤ 6 := by
  unfold vk at h
  omega
theorem kn_rI {fsz fco ffu fsu fbb fmo : Int → Int} (hT : TB fsz fco ffu fsu fbb fmo) {pl c k : Int} (h0 : 0 ≤ pl) (h1 : pl < 72) (hc0 : 0 ≤ c) (hc : c < 6) (hk : vk k) : rI (kn fbb ffu fsu fmo pl c k) := by
  by_cases q : kn fbb ffu fsu fmo pl c k = -1
  · rw [q]; decide
  · have := vk_all (kn_vk hT h0 h1 hc0 hc hk q).1
    constructor <;> omega
theorem lo_congr {fsz fco ffu fsu fbb fmo gk gwt gct gk1 gwt1 gct1 : Int → Int} {d : Nat} {s e : Int} (h : LO fsz fco ffu fsu fbb fmo d s e gk gwt gct) (g1 : ∀ i, s ≤ i → i < e → gk1 i = gk i) (g2 : ∀ i, s ≤ i → i < e → gwt1 i = gwt i) (g3 : ∀ i, s ≤ i → i < e → gct1 i = gct i) : LO fsz fco ffu fsu fbb fmo d s e gk1 gwt1 gct1 := by
  obtain ⟨o1, o2, o3⟩ := h
  refine ⟨fun i i1 i2 => ?_, fun i j i1 i2 i3 => ?_, fun k q => ?_⟩
  · rw [g1 i i1 i2, g2 i i1 i2, g3 i i1 i2]; exact o1 i i1 i2
  · rw [g1 i i1 (by omega), g1 j (by omega) i3]; exact o2 i j i1 i2 i3
  · obtain ⟨i, i1, i2, i3⟩ := o3 k q
    exact ⟨i, i1, i2, by rw [g1 i i1 i2]; exact i3⟩
theorem lk_congr {fsz ffu fsu fbb fmo gk gk1 F GK F1 GK1 : Int → Int} {d : Nat} {s e T : Int} (h : LK fsz ffu fsu fbb fmo gk d s e T F GK) (h6 : fsz (d : Int) ≤ 6) (g1 : ∀ i, s ≤ i → i < e → gk1 i = gk i) (g2 : ∀ j, s * 6 ≤ j → j < e * 6 → F1 j = F j) (g3 : ∀ m, e ≤ m → m < T → GK1 m = GK m) : LK fsz ffu fsu fbb fmo gk1 d s e T F1 GK1 := by
  intro c i c1 c2 i1 i2
  rw [g1 i i1 i2, g2 (i * 6 + c) (by omega) (by omega)]
  rcases h c i c1 c2 i1 i2 with x | ⟨x1, x2, x3⟩
  · exact Or.inl x
  · exact Or.inr ⟨x1, by rw [g3 _ x1.1 x1.2]; exact x2, x3⟩
theorem lb_out {fsz fco ffu fsu fbb fmo gk gwt gct gbe gk1 gwt1 gct1 gbe1 CU F GK GC GW : Int → Int} (hT : TB fsz fco ffu fsu fbb fmo) {d : Nat} (hd : d < 12) {s e T C : Int} (hs0 : 0 ≤ s) (hse : s ≤ e) (hec : e ≤ C) (g1 : ∀ j, 0 ≤ j → j < C → gk1 j = gk j) (g2 : ∀ j, 0 ≤ j → j < C → gct1 j = gct j) (g3 : ∀ j, 0 ≤ j → j < C → gwt1 j = gwt j) (g4 : ∀ j, 0 ≤ j → j < 6 * C → gbe1 j = gbe j)
    (hL1 : LO fsz fco ffu fsu fbb fmo d s e gk1 gwt1 gct1) (h : LBp fsz fco ffu fsu fbb fmo gk1 gwt1 gct1 gbe1 d s e T CU F GK GC GW) (hall : ∀ c, 0 ≤ c → c < fsz (d : Int) → e ≤ CU c) (h4 : T ≤ e + 400) :
    cn fsz ffu fsu fbb fmo (d + 1) ≤ 400 ∧ (e ≤ T ∧ T ≤ e + 400) ∧ LO fsz fco ffu fsu fbb fmo (d + 1) e T GK GW GC ∧ LK fsz ffu fsu fbb fmo gk d s e T F GK ∧ (∀ i, 0 ≤ i → i < e → GK i = gk i ∧ GC i = gct i ∧ GW i = gwt i) ∧ (∀ j, 0 ≤ j → j < s * 6 → F j = gbe j) := by
  obtain ⟨h1, h2⟩ := lb_done hT hd hL1 h hall
  have hsz := hT.1 (d : Int) (by omega) (by omega)
  obtain ⟨l1, l2, l3, l4, l5, l6, l7, l8, l9, l10⟩ := h
  have hc := lo_cn l9 h1
  refine ⟨by omega, ⟨l9, h4⟩, h1, lk_congr h2 hsz.2 (fun i i1 i2 => (g1 i (by omega) (by omega)).symm) (fun _ _ _ => rfl) (fun _ _ _ => rfl), fun i i1 i2 => ?_, fun j j1 j2 => ?_⟩
  · obtain ⟨x1, x2, x3⟩ := l1 i i2
    rw [x1, x2, x3]
    exact ⟨g1 i i1 (by omega), g2 i i1 (by omega), g3 i i1 (by omega)⟩
  · rw [l8 j j2]; exact g4 j j1 (by omega)
theorem st_le {g : Int → Int} {N k x : Int} (h : ∀ j, 0 ≤ j → j < 14 → 0 ≤ g j ∧ g j ≤ N) (hx : 0 ≤ x ∧ x ≤ N) : ∀ j, 0 ≤ j → j < 14 → 0 ≤ uZ g k x j ∧ uZ g k x j ≤ N := by
  intro j h1 h2
  by_cases q : j = k
  · subst q; rw [uZ_s]; exact hx
  · rw [uZ_n q]; exact h j h1 h2
theorem cw_rng {gcu gbe : Int → Int} {e x fo lk : Int} (h : CWp gcu gbe e x fo lk) (hx : 0 ≤ x ∧ x ≤ 6) : -1 ≤ fo ∧ fo < 6 := by
  rcases h with ⟨h1, -⟩ | ⟨h1, -⟩ <;> omega
