/-! THE MODEL: division, places of nodes -/
theorem iI_div {a b : Int} (ha : 0 ≤ a ∧ a < 2147483648) (hb : 0 < b ∧ b < 2147483648) : iI a / iI b = iI (a / b) := by
  apply Int32.toInt_inj.mp
  have h1 : 0 ≤ a / b := Int.ediv_nonneg ha.1 (by omega)
  have h2 : a / b ≤ a := Int.ediv_le_self _ ha.1
  rw [lg_idiv_nonneg (by rw [iI_toInt (by unfold rI; omega)]; omega) (by rw [iI_toInt (by unfold rI; omega)]; omega), iI_toInt (by unfold rI; omega), iI_toInt (by unfold rI; omega), iI_toInt (by unfold rI; omega)]
theorem iI_rem {a b : Int} (ha : 0 ≤ a ∧ a < 2147483648) (hb : 0 < b ∧ b < 2147483648) : iI a - iI a / iI b * iI b = iI (a % b) := by
  rw [iI_div ha hb, iI_mul, iI_sub, Int.emod_def, Int.mul_comm b]
theorem iI_ne0 {b : Int} (hb : 0 < b ∧ b < 2147483648) : ¬ iI b = 0 := fun h => by
  have := (iI_eq (a := b) (b := 0) (by unfold rI; omega) (by unfold rI; omega)).mp h
  omega
section ROWS3
variable {p : Program} {l : Launch} {e : Env} {R : Room} {s : State} {m : MethodId} {args : Array Value} {below : List Frame} {meth : Method} {c : Code} {D : va_G} {cl : List vw_C} {tys : List (ClassId × FieldType)} {nw : List Cond} {cc : ByteArray} {nL : Nat} {Ts : List Cond} {own : String} {A : Nat → Prop} {cells slots : Nat} {Q : State → Prop} {ws ws' : va_W} {pc : Nat} {lv lv' : List (Nat × Value)} {st : List Value}
theorem g_idiv (C : CX p s m args meth c D cl tys nw cc nL Ts own A) {x y : Int} (hd : decode cc pc = .ok (.idiv, 1)) (hx : 0 ≤ x ∧ x < 2147483648) (hy : 0 < y ∧ y < 2147483648) (k : G p l e R s m args below meth c D cl nL A cells slots Q ws (pc + 1) lv (.int (iI (x / y)) :: st)) : G p l e R s m args below meth c D cl nL A cells slots Q ws pc lv (.int (iI y) :: .int (iI x) :: st) :=
  fun H locs ls hP hD hS hl => lv_idiv C.1 C.2.1 hd (iI_ne0 hy) (by rw [iI_div hx hy]; exact k H locs ls hP hD hS hl)
theorem g_irem (C : CX p s m args meth c D cl tys nw cc nL Ts own A) {x y : Int} (hd : decode cc pc = .ok (.irem, 1)) (hx : 0 ≤ x ∧ x < 2147483648) (hy : 0 < y ∧ y < 2147483648) (k : G p l e R s m args below meth c D cl nL A cells slots Q ws (pc + 1) lv (.int (iI (x % y)) :: st)) : G p l e R s m args below meth c D cl nL A cells slots Q ws pc lv (.int (iI y) :: .int (iI x) :: st) :=
  fun H locs ls hP hD hS hl => lv_irem C.1 C.2.1 hd (iI_ne0 hy) (by rw [iI_rem hx hy]; exact k H locs ls hP hD hS hl)
end ROWS3
/-- what the model bars, as bits -/
def BR (fbb fba : Int → Int) : Prop := (∀ j, fba j = 0 ∨ fba j = 1) ∧ ∀ d cp lp, 1 ≤ d → d < 12 → 0 ≤ cp → cp < 6 → 0 ≤ lp → lp < 6 → fbb (d * 6 + cp) / 2 ^ lp.toNat % 2 = fba (36 * (d - 1) + 6 * lp + cp)
/-- the place of a key within its layer -/
def kat (k : Int) : Int := (41 * (k / 512) + k / 8 % 64) * 7 + k % 8
theorem kat_r {k : Int} (h : vk k) : (0 ≤ kat k ∧ kat k < 11767) ∧ kat k / 7 / 41 = k / 512 ∧ kat k / 7 % 41 = k / 8 % 64 ∧ kat k % 7 = k % 8 := by
  unfold vk at h; unfold kat; omega
theorem kat_at {k d a : Int} (h : vk k) (ha : a = 11767 * d + kat k) : a / 11767 = d ∧ a % 11767 / 7 / 41 = k / 512 ∧ a % 11767 / 7 % 41 = k / 8 % 64 ∧ a % 7 = k % 8 := by
  have := kat_r h
  omega
/-- where a choice leads, in the model's places -/
noncomputable def nxt (fbb ffu fsu fmo : Int → Int) (d cp k : Int) : Int := sel (kn fbb ffu fsu fmo (d * 6 + cp) cp k = -1) (-1000000) (11767 * (d + 1) + kat (kn fbb ffu fsu fmo (d * 6 + cp) cp k))
theorem nx_b {fbb ffu fsu fmo : Int → Int} {d cp k : Int} (h : ¬ kop fbb ffu fsu fmo (d * 6 + cp) k) : nxt fbb ffu fsu fmo d cp k = -1000000 := by unfold nxt; exact sel_t (kn_shut h)
theorem nx_o {fbb ffu fsu fmo : Int → Int} {d cp k : Int} (h : kop fbb ffu fsu fmo (d * 6 + cp) k) (hk : 0 ≤ k) (hc : 0 ≤ cp ∧ cp < 6) (h1 : 0 ≤ k / 512 + ffu (d * 6 + cp)) (h2 : 0 ≤ fsu (d * 6 + cp)) (h3 : fmo 1 ≤ 40) : nxt fbb ffu fsu fmo d cp k = 11767 * (d + 1) + (41 * (k / 512 + ffu (d * 6 + cp)) + (k / 8 % 64 + fsu (d * 6 + cp))) * 7 + cp + 1 := by
  have h4 := h.2.2
  have e := kn_open (c := cp) h
  unfold nxt
  rw [sel_f (by rw [e]; omega), e]
  unfold kat
  omega
