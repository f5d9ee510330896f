/-! WIDE LAYERS: cuts, unions, the bound -/
theorem fo_m {fco ffu fsu fbb fmo fn : Int → Int} {pl c nx E : Int} {T : Int → Int} {m : Int} (h : FO fco ffu fsu fbb fmo fn pl c nx E T m) : nx ≤ m ∧ m ≤ nx + 1 := by
  by_cases q : wo ffu fsu fbb fmo pl E
  · have := (h.1 q).1; omega
  · have := (h.2 q).1; omega
def orm (L M : Int) : Int := (iI L ||| iI M).toInt
theorem orm_n : ∀ L : Nat, L < 64 → ∀ M : Nat, M < 64 → 0 ≤ orm (L : Int) (M : Int) ∧ orm (L : Int) (M : Int) < 64 := by
  unfold orm; decide +kernel
theorem orm_b {L M : Int} (h1 : 0 ≤ L) (h2 : L < 64) (h3 : 0 ≤ M) (h4 : M < 64) : 0 ≤ orm L M ∧ orm L M < 64 := by
  obtain ⟨n, rfl⟩ : ∃ n : Nat, L = (n : Int) := ⟨L.toNat, by omega⟩
  obtain ⟨w, rfl⟩ : ∃ w : Nat, M = (w : Int) := ⟨M.toNat, by omega⟩
  exact orm_n n (by omega) w (by omega)
/-- two wide nodes made one -/
def un (E F : Int) : Int := wp (min (E / 1073741824 - 12000) (F / 1073741824 - 12000)) (min (E / 16777216 % 64) (F / 16777216 % 64)) (min (E / 262144 % 64) (F / 262144 % 64)) (max (E / 4096 % 64) (F / 4096 % 64)) (max (E / 64 % 64) (F / 64 % 64)) (orm (E % 64) (F % 64))
/-- its parts -/
def WQ (E z2 z3 z4 z5 z6 z7 : Int) : Prop := z2 = E / 1073741824 - 12000 ∧ z3 = E / 16777216 % 64 ∧ z4 = E / 262144 % 64 ∧ z5 = E / 4096 % 64 ∧ z6 = E / 64 % 64 ∧ z7 = E % 64
theorem un_q {E F z2 z3 z4 z5 z6 z7 : Int} (h : WQ E z2 z3 z4 z5 z6 z7) : WQ (un E F) (min z2 (F / 1073741824 - 12000)) (min z3 (F / 16777216 % 64)) (min z4 (F / 262144 % 64)) (max z5 (F / 4096 % 64)) (max z6 (F / 64 % 64)) (orm z7 (F % 64)) := by
  obtain ⟨rfl, rfl, rfl, rfl, rfl, rfl⟩ := h
  have ho := orm_b (L := E % 64) (M := F % 64) (by omega) (by omega) (by omega) (by omega)
  have hq := wp_p (a := min (E / 1073741824 - 12000) (F / 1073741824 - 12000)) (b := min (E / 16777216 % 64) (F / 16777216 % 64)) (cc := min (E / 262144 % 64) (F / 262144 % 64)) (d := max (E / 4096 % 64) (F / 4096 % 64)) (f := max (E / 64 % 64) (F / 64 % 64)) (g := orm (E % 64) (F % 64)) (by omega) (by omega) (by omega) (by omega) ho
  unfold WQ un
  exact ⟨hq.1.symm, hq.2.1.symm, hq.2.2.1.symm, hq.2.2.2.1.symm, hq.2.2.2.2.1.symm, hq.2.2.2.2.2.symm⟩
theorem wq_s {E : Int} : WQ E (E / 1073741824 - 12000) (E / 16777216 % 64) (E / 262144 % 64) (E / 4096 % 64) (E / 64 % 64) (E % 64) := ⟨rfl, rfl, rfl, rfl, rfl, rfl⟩
theorem wq_v {E z2 z3 z4 z5 z6 z7 : Int} (h : WQ E z2 z3 z4 z5 z6 z7) : wp z2 z3 z4 z5 z6 z7 = E := by
  unfold WQ at h; unfold wp; omega
theorem wp_nn {a b cc d f g : Int} (ha : -12000 ≤ a) (hb : 0 ≤ b) (hc : 0 ≤ cc) (hd : 0 ≤ d) (hf : 0 ≤ f) (hg : 0 ≤ g) : 0 ≤ wp a b cc d f g := by unfold wp; omega
theorem mod64 (x : Int) : 0 ≤ x % 64 := by omega
theorem un_wn {dd E F : Int} (h1 : WN dd E) (h2 : WN dd F) (hd : dd ≤ 12000) : WN dd (un E F) := by
  obtain ⟨q1, q2, q3, q4, q5, q6⟩ := un_q (F := F) (wq_s (E := E))
  have ho := orm_b (L := E % 64) (M := F % 64) (by omega) (by omega) (by omega) (by omega)
  obtain ⟨⟨a0, a1, a2⟩, a3, a4, a5, a6⟩ := h1
  obtain ⟨⟨b0, b1, b2⟩, b3, b4, b5, b6⟩ := h2
  have hm : -dd ≤ min (E / 1073741824 - 12000) (F / 1073741824 - 12000) := Int.le_min.mpr ⟨a1, b1⟩
  have hz : 0 ≤ un E F := wp_nn (Int.le_trans (by omega) hm) (Int.le_min.mpr ⟨mod64 _, mod64 _⟩) (Int.le_min.mpr ⟨mod64 _, mod64 _⟩) (Int.le_trans (mod64 _) (Int.le_max_left _ _)) (Int.le_trans (mod64 _) (Int.le_max_left _ _)) ho.1
  unfold WN
  rw [← q1, ← q2, ← q3, ← q4, ← q5]
  exact ⟨⟨hz, hm, Int.le_trans (Int.min_le_left _ _) a2⟩, Int.le_trans (Int.min_le_left _ _) a3, Int.le_trans (Int.min_le_left _ _) a4, Int.max_le.mpr ⟨a5, b5⟩, Int.max_le.mpr ⟨a6, b6⟩⟩
def uni (R : Int → Int) (b : Int) : Nat → Int
  | 0 => R b
  | k + 1 => un (uni R b k) (R (b + k + 1))
/-- the nodes b .. x - 1 made one -/
def UI (R : Int → Int) (b x : Int) : Int := uni R b (x - b - 1).toNat
theorem ui_0 {R : Int → Int} {b : Int} : UI R b (b + 1) = R b := by unfold UI; rw [show (b + 1 - b - 1).toNat = 0 by omega]; rfl
theorem ui_s {R : Int → Int} {b x : Int} (h : b < x) : UI R b (x + 1) = un (UI R b x) (R x) := by
  unfold UI
  rw [show (x + 1 - b - 1).toNat = (x - b - 1).toNat + 1 by omega]
  show un _ (R (b + ((x - b - 1).toNat : Int) + 1)) = _
  rw [show b + ((x - b - 1).toNat : Int) + 1 = x by omega]
theorem ui_ind {R : Int → Int} {b m : Int} {P : Int → Int → Prop} (h0 : P (b + 1) (R b)) (hs : ∀ x, b < x → x < m → P x (UI R b x) → P (x + 1) (un (UI R b x) (R x))) : ∀ x, b < x → x ≤ m → P x (UI R b x) := by
  intro x h1 h2
  obtain ⟨k, rfl⟩ : ∃ k : Nat, x = b + 1 + k := ⟨(x - b - 1).toNat, by omega⟩
  induction k with
  | zero => rw [show b + 1 + ((0 : Nat) : Int) = b + 1 by omega, ui_0]; exact h0
  | succ k ih =>
    rw [show b + 1 + ((k + 1 : Nat) : Int) = b + 1 + k + 1 by omega, ui_s (by omega)]
    exact hs _ (by omega) (by omega) (ih (by omega) (by omega))
theorem ui_wn {R : Int → Int} {b m dd : Int} (hd : dd ≤ 12000) (h : ∀ i, b ≤ i → i < m → WN dd (R i)) : ∀ x, b < x → x ≤ m → WN dd (UI R b x) := by
  intro x h1 h2
  exact ui_ind (P := fun _ E => WN dd E) (h b (by omega) (by omega)) (fun y a c k => un_wn k (h y (by omega) c) hd) x h1 h2
theorem ui_cost {R : Int → Int} {b m : Int} (h : ∀ i, b ≤ i → i < m → R b ≤ R i) : ∀ x, b < x → x ≤ m → UI R b x / 1073741824 - 12000 = R b / 1073741824 - 12000 :=
  ui_ind (P := fun _ E => E / 1073741824 - 12000 = R b / 1073741824 - 12000) rfl (fun y a c k => by
    have hq := (un_q (F := R y) (wq_s (E := UI R b y))).1
    have := h y (by omega) c
    omega)
theorem ui_congr {R T : Int → Int} {b m : Int} (h : ∀ i, b ≤ i → i < m → R i = T i) : ∀ x, b < x → x ≤ m → UI R b x = UI T b x := by
  intro x h1 h2
  obtain ⟨k, rfl⟩ : ∃ k : Nat, x = b + 1 + k := ⟨(x - b - 1).toNat, by omega⟩
  induction k with
  | zero => rw [show b + 1 + ((0 : Nat) : Int) = b + 1 by omega, ui_0, ui_0]; exact h b (by omega) (by omega)
  | succ k ih =>
    rw [show b + 1 + ((k + 1 : Nat) : Int) = b + 1 + k + 1 by omega, ui_s (by omega), ui_s (by omega), ih (by omega) (by omega), h _ (by omega) (by omega)]
/-- one step of the wide layers -/
def WST (fsz fco ffu fsu fbb fmo : Int → Int) (lq : Prop) (w s n : Int) (R : Int → Int) (l wi c n' : Int) (R' : Int → Int) (l' wi' c' : Int) : Prop :=
  ∃ (m : Int) (R1 : Int → Int), EN (NL (NX fsz fco ffu fsu fbb fmo R n s)) m R1 ∧ wi' = max wi m ∧ ((m ≤ w ∧ n' = m ∧ (∀ i, 0 ≤ i → i < n' → R' i = R1 i) ∧ l' = l ∧ c' = c) ∨ (w < m ∧ n' = w ∧ c' = c + 1 ∧ ((lq ∧ l' = l + (m - w + 1) ∧ ∀ i, 0 ≤ i → i < w → R' i = uZ R1 (w - 1) (UI R1 (w - 1) m) i) ∨ (¬ lq ∧ l' = l + (m - w) ∧ ∀ i, 0 ≤ i → i < w → R' i = R1 i))))
def WL (fsz fco ffu fsu fbb fmo : Int → Int) (lq : Prop) (w : Int) : Nat → Int → (Int → Int) → Int → Int → Int → Prop
  | 0, n, R, l, wi, c => n = 1 ∧ R 0 = 12884901888000 ∧ l = 0 ∧ wi = 1 ∧ c = 0
  | d + 1, n, R, l, wi, c => ∃ (n0 : Int) (R0 : Int → Int) (l0 w0 c0 : Int), WL fsz fco ffu fsu fbb fmo lq w d n0 R0 l0 w0 c0 ∧ WST fsz fco ffu fsu fbb fmo lq w (d : Int) n0 R0 l0 w0 c0 n R l wi c
theorem en_wn {fsz fco ffu fsu fbb fmo R : Int → Int} (hT : TB fsz fco ffu fsu fbb fmo) {s dd n m : Int} {R1 : Int → Int} (hs : 0 ≤ s ∧ s < 12) (hR : ∀ i, 0 ≤ i → i < n → WN dd (R i)) (hdd : dd ≤ 11000) (h : EN (NL (NX fsz fco ffu fsu fbb fmo R n s)) m R1) : ∀ i, 0 ≤ i → i < m → WN (dd + 1000) (R1 i) :=
  fun i h1 h2 => nq_wn hT hs hR (Int.le_refl _) (Or.inl rfl) hdd ((h.2.2 (R1 i)).mp ⟨i, h1, h2, rfl⟩).1
/-- the costs of a layer do not fall -/
def CO (n : Int) (R : Int → Int) : Prop := ∀ i j, 0 ≤ i → i < j → j < n → R i / 1073741824 ≤ R j / 1073741824
theorem wst_i {fsz fco ffu fsu fbb fmo : Int → Int} (hT : TB fsz fco ffu fsu fbb fmo) {lq : Prop} {w s n : Int} {R : Int → Int} {l wi c n' : Int} {R' : Int → Int} {l' wi' c' dd : Int} (hw : 1 ≤ w ∧ w ≤ 60) (hs : 0 ≤ s ∧ s < 12) (hR : ∀ i, 0 ≤ i → i < n → WN dd (R i)) (hdd : dd ≤ 11000) (h : WST fsz fco ffu fsu fbb fmo lq w s n R l wi c n' R' l' wi' c') : (0 ≤ n' ∧ n' ≤ 60) ∧ (∀ i, 0 ≤ i → i < n' → WN (dd + 1000) (R' i)) ∧ CO n' R' := by
  obtain ⟨m, R1, h1, h2, h3⟩ := h
  have hW := en_wn hT hs hR hdd h1
  have h0 := h1.1
  have hC : CO m R1 := fun i j a b c => by have := h1.2.1 i j a b c; omega
  rcases h3 with ⟨k1, k2, k3, -⟩ | ⟨k1, k2, -, k4 | k4⟩
  · subst k2
    exact ⟨by omega, fun i a b => by rw [k3 i a b]; exact hW i a b, fun i j a b c => by rw [k3 i a (by omega), k3 j (by omega) c]; exact hC i j a b c⟩
  · subst k2
    have hu := ui_wn (R := R1) (b := n' - 1) (m := m) (dd := dd + 1000) (by omega) (fun i a b => hW i (by omega) b) m (by omega) (Int.le_refl _)
    have hc := ui_cost (R := R1) (b := n' - 1) (m := m) (fun i a b => by
      by_cases q : i = n' - 1
      · subst q; exact Int.le_refl _
      · have := h1.2.1 (n' - 1) i (by omega) (by omega) b; omega) m (by omega) (Int.le_refl _)
    refine ⟨by omega, fun i a b => ?_, fun i j a b c => ?_⟩
    · rw [k4.2.2 i a b]
      by_cases q : i = n' - 1
      · subst q; rw [uZ_s]; exact hu
      · rw [uZ_n q]; exact hW i a (by omega)
    · rw [k4.2.2 i a (by omega), k4.2.2 j (by omega) c, uZ_n (by omega)]
      by_cases q : j = n' - 1
      · subst q; rw [uZ_s]; have := hC i (n' - 1) a b (by omega); omega
      · rw [uZ_n q]; exact hC i j a b (by omega)
  · subst k2
    exact ⟨by omega, fun i a b => by rw [k4.2.2 i a b]; exact hW i a (by omega), fun i j a b c => by rw [k4.2.2 i a (by omega), k4.2.2 j (by omega) c]; exact hC i j a b (by omega)⟩
theorem wl_i {fsz fco ffu fsu fbb fmo : Int → Int} (hT : TB fsz fco ffu fsu fbb fmo) {lq : Prop} {w : Int} (hw : 1 ≤ w ∧ w ≤ 60) : ∀ (d : Nat) {n : Int} {R : Int → Int} {l wi c : Int}, d ≤ 12 → WL fsz fco ffu fsu fbb fmo lq w d n R l wi c → (0 ≤ n ∧ n ≤ 60) ∧ (∀ i, 0 ≤ i → i < n → WN (1000 * (d : Int)) (R i)) ∧ CO n R
  | 0, n, R, l, wi, c, _, h => by
    obtain ⟨h1, h2, -⟩ := h
    subst h1
    exact ⟨by omega, fun i a b => by
      have hi : i = 0 := by omega
      subst hi; rw [h2]; unfold WN; decide, fun i j a b c => by omega⟩
  | d + 1, n, R, l, wi, c, hd, h => by
    obtain ⟨n0, R0, l0, w0, c0, h1, h2⟩ := h
    have ih := wl_i hT hw d (by omega) h1
    have := wst_i hT hw (s := (d : Int)) (by omega) ih.2.1 (by omega) h2
    rw [show 1000 * ((d + 1 : Nat) : Int) = 1000 * (d : Int) + 1000 by omega]
    exact this
theorem nx_congr {fsz fco ffu fsu fbb fmo R T : Int → Int} {n s : Int} (h : ∀ i, 0 ≤ i → i < n → R i = T i) (E : Int) : NX fsz fco ffu fsu fbb fmo R n s E ↔ NX fsz fco ffu fsu fbb fmo T n s E := by
  constructor
  · intro ⟨i, c, h1, h2, h3, h4⟩
    have := h i (by omega) (by omega)
    exact ⟨i, c, h1, h2, by rw [← this]; exact h3, by rw [← this]; exact h4⟩
  · intro ⟨i, c, h1, h2, h3, h4⟩
    have := h i (by omega) (by omega)
    exact ⟨i, c, h1, h2, by rw [this]; exact h3, by rw [this]; exact h4⟩
theorem en_congr {X Y : Int → Prop} {n : Int} {R : Int → Int} (h : EN (NL X) n R) (he : ∀ E, X E ↔ Y E) : EN (NL Y) n R :=
  ⟨h.1, h.2.1, fun E => (h.2.2 E).trans ⟨fun q => ⟨(he E).mp q.1, fun E' a b => q.2 E' ((he E').mpr a) b⟩, fun q => ⟨(he E).mpr q.1, fun E' a b => q.2 E' ((he E').mp a) b⟩⟩⟩
theorem wl_u {fsz fco ffu fsu fbb fmo : Int → Int} {lq : Prop} {w : Int} (hw : 1 ≤ w) : ∀ (d : Nat) {n : Int} {R : Int → Int} {l wi c n' : Int} {R' : Int → Int} {l' wi' c' : Int}, WL fsz fco ffu fsu fbb fmo lq w d n R l wi c → WL fsz fco ffu fsu fbb fmo lq w d n' R' l' wi' c' → n = n' ∧ l = l' ∧ wi = wi' ∧ c = c' ∧ ∀ i, 0 ≤ i → i < n → R i = R' i
  | 0, n, R, l, wi, c, n', R', l', wi', c', h, h' => by
    obtain ⟨h1, h2, h3, h4, h5⟩ := h
    obtain ⟨k1, k2, k3, k4, k5⟩ := h'
    exact ⟨by omega, by omega, by omega, by omega, fun i a b => by rw [show i = 0 by omega, h2, k2]⟩
  | d + 1, n, R, l, wi, c, n', R', l', wi', c', h, h' => by
    obtain ⟨n0, R0, l0, w0, c0, h1, m, R1, h2, h3, h4⟩ := h
    obtain ⟨p0, Q0, r0, s0, t0, k1, p, Q1, k2, k3, k4⟩ := h'
    obtain ⟨e1, e2, e3, e4, e5⟩ := wl_u hw d h1 k1
    subst e1 e2 e3 e4
    obtain ⟨f1, f2⟩ := en_eq (en_congr h2 (nx_congr e5)) k2
    subst f1
    rcases h4 with ⟨a1, a2, a3, a4, a5⟩ | ⟨a1, a2, a3, a4⟩
    · rcases k4 with ⟨b1, b2, b3, b4, b5⟩ | ⟨b1, -⟩
      · exact ⟨by omega, by omega, by omega, by omega, fun i x y => by rw [a3 i x y, b3 i x (by omega)]; exact f2 i x (by omega)⟩
      · omega
    · rcases k4 with ⟨b1, -⟩ | ⟨b1, b2, b3, b4⟩
      · omega
      · rcases a4 with ⟨q1, q2, q3⟩ | ⟨q1, q2, q3⟩
        · rcases b4 with ⟨z1, z2, z3⟩ | ⟨z1, -⟩
          · refine ⟨by omega, by omega, by omega, by omega, fun i x y => ?_⟩
            rw [q3 i x (by omega), z3 i x (by omega)]
            by_cases g : i = w - 1
            · rw [g, uZ_s, uZ_s]; exact ui_congr (fun j j1 j2 => f2 j (by omega) j2) m (by omega) (Int.le_refl _)
            · rw [uZ_n g, uZ_n g]; exact f2 i x (by omega)
          · exact absurd q1 z1
        · rcases b4 with ⟨z1, -⟩ | ⟨z1, z2, z3⟩
          · exact absurd z1 q1
          · exact ⟨by omega, by omega, by omega, by omega, fun i x y => by rw [q3 i x (by omega), z3 i x (by omega)]; exact f2 i x (by omega)⟩
/-- a node may meet the least uses -/
def enh (fle : Int → Int) (E : Int) : Prop := fle 0 ≤ E / 4096 % 64 ∧ fle 1 ≤ E / 64 % 64
def WB (fle R : Int → Int) (n v : Int) : Prop := (∃ i, (0 ≤ i ∧ i < n) ∧ enh fle (R i) ∧ (∀ j, 0 ≤ j → j < i → ¬ enh fle (R j)) ∧ v = R i / 1073741824 - 12000) ∨ ((∀ j, 0 ≤ j → j < n → ¬ enh fle (R j)) ∧ v = -1000000)
theorem wb_u {fle R T : Int → Int} {n v v' : Int} (h : WB fle R n v) (h' : WB fle T n v') (he : ∀ i, 0 ≤ i → i < n → R i = T i) : v = v' := by
  rcases h with ⟨i, a, b, c, d⟩ | ⟨a, b⟩
  · rcases h' with ⟨i', a', b', c', d'⟩ | ⟨a', b'⟩
    · rcases Int.lt_trichotomy i i' with q | q | q
      · exact absurd (he i a.1 a.2 ▸ b) (c' i a.1 q)
      · subst q; rw [d, d', he i a.1 a.2]
      · exact absurd ((he i' a'.1 a'.2).symm ▸ b') (c i' a'.1 q)
    · exact absurd (he i a.1 a.2 ▸ b) (a' i a.1 a.2)
  · rcases h' with ⟨i', a', b', c', d'⟩ | ⟨a', b'⟩
    · exact absurd ((he i' a'.1 a'.2).symm ▸ b') (a i' a'.1 a'.2)
    · omega
theorem wb_n {fle R : Int → Int} {x : Int} (h : ∀ j, 0 ≤ j → j < x → ¬ enh fle (R j)) (hx : ¬ enh fle (R x)) : ∀ j, 0 ≤ j → j < x + 1 → ¬ enh fle (R j) := by
  intro j h1 h2
  by_cases q : j = x
  · subst q; exact hx
  · exact h j h1 (by omega)
theorem wl_a {fsz fco ffu fsu fbb fmo : Int → Int} {lq : Prop} {w : Int} {d : Nat} {n : Int} {R : Int → Int} {l wi c m : Int} {R1 : Int → Int} (h : WL fsz fco ffu fsu fbb fmo lq w d n R l wi c) (hE : EN (NL (NX fsz fco ffu fsu fbb fmo R n (d : Int))) m R1) (hm : m ≤ w) : WL fsz fco ffu fsu fbb fmo lq w (d + 1) m R1 l (max wi m) c :=
  ⟨n, R, l, wi, c, h, m, R1, hE, rfl, Or.inl ⟨hm, rfl, fun _ _ _ => rfl, rfl, rfl⟩⟩
theorem wl_b {fsz fco ffu fsu fbb fmo : Int → Int} {lq : Prop} {w : Int} {d : Nat} {n : Int} {R : Int → Int} {l wi c m l' : Int} {R1 R' : Int → Int} (h : WL fsz fco ffu fsu fbb fmo lq w d n R l wi c) (hE : EN (NL (NX fsz fco ffu fsu fbb fmo R n (d : Int))) m R1) (hm : w < m) (hc : (lq ∧ l' = l + (m - w + 1) ∧ R' = uZ R1 (w - 1) (UI R1 (w - 1) m)) ∨ (¬ lq ∧ l' = l + (m - w) ∧ R' = R1)) : WL fsz fco ffu fsu fbb fmo lq w (d + 1) w R' l' (max wi m) (c + 1) :=
  ⟨n, R, l, wi, c, h, m, R1, hE, rfl, Or.inr ⟨hm, rfl, rfl, hc.elim (fun q => Or.inl ⟨q.1, q.2.1, fun i _ _ => by rw [q.2.2]⟩) (fun q => Or.inr ⟨q.1, q.2.1, fun i _ _ => by rw [q.2.2]⟩)⟩⟩
