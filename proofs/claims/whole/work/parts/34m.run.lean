/-! for the class's own methods -/
noncomputable def sel (P : Prop) (a b : Int) : Int := @ite Int P (Classical.propDecidable P) a b
theorem sel_t {P : Prop} {a b : Int} (h : P) : sel P a b = a := by unfold sel; exact if_pos h
theorem sel_f {P : Prop} {a b : Int} (h : ¬ P) : sel P a b = b := by unfold sel; exact if_neg h
theorem z_bfit (P : Prop) : fits .boolean (.int (iI (bI P))) = true := by
  rcases bI_c P with h | h <;> rw [h] <;> decide
theorem cn_nn {fsz ffu fsu fbb fmo : Int → Int} (d : Nat) : 0 ≤ cn fsz ffu fsu fbb fmo d := sumR_nn (fun k => by
  show 0 ≤ (if 0 < wt fsz ffu fsu fbb fmo d k then (1 : Int) else 0)
  split <;> omega) _
theorem cn_0 {fsz ffu fsu fbb fmo : Int → Int} : cn fsz ffu fsu fbb fmo 0 = 1 := by
  have h := (ls_0 (fsz := fsz) (fco := fun _ => 0) (ffu := ffu) (fsu := fsu) (fbb := fbb) (fmo := fmo) (ST := fun j => j) (GK := fun _ => 0) (GW := fun _ => 1) (GC := fun _ => 0) (GB := fun _ => 0) rfl rfl rfl rfl rfl).1 0 (Nat.le_refl 0)
  have := lo_cn h.1.2.1 h.2.1
  rw [← this]
  rfl
theorem tot_b {fsz ffu fsu fbb fmo : Int → Int} : ∀ d : Nat, (∀ i : Nat, i ≤ d → cn fsz ffu fsu fbb fmo i ≤ 400) → 0 ≤ tot fsz ffu fsu fbb fmo d ∧ tot fsz ffu fsu fbb fmo d ≤ 1 + 400 * (d : Int)
  | 0, _ => by
    show 0 ≤ cn fsz ffu fsu fbb fmo 0 ∧ cn fsz ffu fsu fbb fmo 0 ≤ _
    rw [cn_0]; omega
  | d + 1, h => by
    have i1 := tot_b d (fun i hi => h i (by omega))
    have i2 := h (d + 1) (Nat.le_refl _)
    have i3 := cn_nn (fsz := fsz) (ffu := ffu) (fsu := fsu) (fbb := fbb) (fmo := fmo) (d + 1)
    show 0 ≤ tot fsz ffu fsu fbb fmo d + cn fsz ffu fsu fbb fmo (d + 1) ∧ tot fsz ffu fsu fbb fmo d + cn fsz ffu fsu fbb fmo (d + 1) ≤ _
    omega
theorem need_b {fsz fco ffu fsu fbb fmo : Int → Int} (hT : TB fsz fco ffu fsu fbb fmo) {d : Nat} (hd : d < 12) (h : ∀ i : Nat, i ≤ d → cn fsz ffu fsu fbb fmo i ≤ 400) : 0 ≤ need fsz ffu fsu fbb fmo d ∧ need fsz ffu fsu fbb fmo d ≤ 4801 := by
  have h1 := tot_b d h
  have hsz := hT.1 (d : Int) (by omega) (by omega)
  have h2 : 0 ≤ cn fsz ffu fsu fbb fmo d * fsz (d : Int) := Int.mul_nonneg (cn_nn d) (by omega)
  unfold need
  omega
theorem layC_b {fsz fco ffu fsu fbb fmo : Int → Int} (hT : TB fsz fco ffu fsu fbb fmo) : ∀ (k d c : Nat), d + k ≤ 12 → (∀ i : Nat, i ≤ d → cn fsz ffu fsu fbb fmo i ≤ 400) → 1 ≤ c ∧ c ≤ 4801 → 1 ≤ layC fsz ffu fsu fbb fmo k d c ∧ layC fsz ffu fsu fbb fmo k d c ≤ 4801
  | 0, d, c, _, _, hc => hc
  | k + 1, d, c, hd, h, hc => by
    have hn := need_b hT (by omega) h
    have hg := gN_b hn.1 hn.2 hc
    rw [layC_s]
    by_cases q : cn fsz ffu fsu fbb fmo (d + 1) ≤ 400
    · rw [if_pos q]
      exact layC_b hT k (d + 1) _ (by omega) (fun i hi => by
        by_cases r : i = d + 1
        · subst r; exact q
        · exact h i (by omega)) hg
    · rw [if_neg q]; exact hg
section SW
variable {p : Program} {l : Launch} {e : Env} {R : Room} {s : State} {m : MethodId} {args : Array Value} {below : List Frame} {meth : Method} {c : Code} {D : va_G} {cl : List vw_C} {tys : List (ClassId × FieldType)} {nw : List Cond} {cc : ByteArray} {nL : Nat} {Ts : List Cond} {own : String} {A : Nat → Prop} {cells slots : Nat} {Q : State → Prop} {ws ws' : va_W} {pc : Nat} {lv lv' : List (Nat × Value)} {st : List Value}
theorem g_tin (C : CX p s m args meth c D cl tys nw cc nL Ts own A) {dflt lo hi off x : Int} {offs : Array Int} {len tgt : Nat} (hd : decode cc pc = .ok (.tableswitch dflt lo hi offs, len)) (hx : rI x) (h1 : lo ≤ x) (h2 : x ≤ hi) (ho : offs[(x - lo).toNat]? = some off) (ht : (pc : Int) + off = (tgt : Int)) (k : G p l e R s m args below meth c D cl nL A cells slots Q ws tgt lv st) : G p l e R s m args below meth c D cl nL A cells slots Q ws pc lv (.int (iI x) :: st) :=
  fun H locs ls hP hD hS hl => lv_tableIn C.1 C.2.1 hd (by rw [iI_toInt hx]; omega) (by rw [iI_toInt hx]; omega) (by rw [iI_toInt hx]; exact ho) ht (k H locs ls hP hD hS hl)
theorem g_tout (C : CX p s m args meth c D cl tys nw cc nL Ts own A) {dflt lo hi x : Int} {offs : Array Int} {len tgt : Nat} (hd : decode cc pc = .ok (.tableswitch dflt lo hi offs, len)) (hx : rI x) (h : x < lo ∨ hi < x) (ht : (pc : Int) + dflt = (tgt : Int)) (k : G p l e R s m args below meth c D cl nL A cells slots Q ws tgt lv st) : G p l e R s m args below meth c D cl nL A cells slots Q ws pc lv (.int (iI x) :: st) :=
  fun H locs ls hP hD hS hl => lv_tableOut C.1 C.2.1 hd (by rw [iI_toInt hx]; exact h) ht (k H locs ls hP hD hS hl)
end SW
