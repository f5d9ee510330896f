/-! MORE ROWS: arraycopy, an array as an answer -/
def cpZ (f g : Int → Int) (sp dp n : Int) : Int → Int := fun j => if dp ≤ j ∧ j < dp + n then f (sp + (j - dp)) else g j
theorem cpZ_i {f g : Int → Int} {sp dp n : Int} (h1 : 0 ≤ sp) (h2 : 0 ≤ dp) (h3 : 0 ≤ n) (h4 : sp < 2147483648) (h5 : dp < 2147483648) (h6 : n < 2147483648) : va_cpy (fun j : Nat => iI (f (j : Int))) (fun j : Nat => iI (g (j : Int))) (iI sp).toNatClampNeg (iI dp).toNatClampNeg (iI n).toNatClampNeg = fun j : Nat => iI (cpZ f g sp dp n (j : Int)) := by
  funext j
  rw [iI_cl h1 h4, iI_cl h2 h5, iI_cl h3 h6]
  unfold va_cpy cpZ
  by_cases h : dp ≤ (j : Int) ∧ (j : Int) < dp + n
  · rw [if_pos h, if_pos (by omega)]
    dsimp only
    rw [show ((sp.toNat + (j - dp.toNat) : Nat) : Int) = sp + ((j : Int) - dp) by omega]
  · rw [if_neg h, if_neg (by omega)]
theorem cpZ_l {f g : Int → Int} {sp dp n : Int} (h1 : 0 ≤ sp) (h2 : 0 ≤ dp) (h3 : 0 ≤ n) (h4 : sp < 2147483648) (h5 : dp < 2147483648) (h6 : n < 2147483648) : va_cpy (fun j : Nat => lI (f (j : Int))) (fun j : Nat => lI (g (j : Int))) (iI sp).toNatClampNeg (iI dp).toNatClampNeg (iI n).toNatClampNeg = fun j : Nat => lI (cpZ f g sp dp n (j : Int)) := by
  funext j
  rw [iI_cl h1 h4, iI_cl h2 h5, iI_cl h3 h6]
  unfold va_cpy cpZ
  by_cases h : dp ≤ (j : Int) ∧ (j : Int) < dp + n
  · rw [if_pos h, if_pos (by omega)]
    dsimp only
    rw [show ((sp.toNat + (j - dp.toNat) : Nat) : Int) = sp + ((j : Int) - dp) by omega]
  · rw [if_neg h, if_neg (by omega)]
theorem cpZ_lo {f g : Int → Int} {n j : Int} (h1 : 0 ≤ j) (h2 : j < n) : cpZ f g 0 0 n j = f j := by
  unfold cpZ
  rw [if_pos (by omega)]
  congr 1
  omega
section ROWS2
variable {p : Program} {l : Launch} {e : Env} {R : Room} {s : State} {m : MethodId} {args : Array Value} {below : List Frame} {meth : Method} {c : Code} {D : va_G} {cl : List vw_C} {tys : List (ClassId × FieldType)} {nw : List Cond} {cc : ByteArray} {nL : Nat} {Ts : List Cond} {own : String} {A : Nat → Prop} {cells slots : Nat} {Q : State → Prop} {ws ws' : va_W} {pc : Nat} {lv lv' : List (Nat × Value)} {st : List Value}
theorem z_nneg {x : Int} (h : 0 ≤ x) (h2 : x < 2147483648) : ¬ iI x < 0 := by
  rw [show (0 : Int32) = iI 0 from rfl, iI_lt (by constructor <;> omega) (by decide)]
  omega
theorem g_copyI (C : CX p s m args meth c D cl tys nw cc nL Ts own A) {a0 a n0 n1 index : Nat} {cA : ClassId} {f g : Int → Int} {sp dp n : Int} (q0 q1 t0 : Nat) (ha0 : ws[q0]? = some (a0, .inl (cA, aI n0 f))) (ha1 : ws[q1]? = some (a, .inl (cA, aI n1 g))) (ht : tys[t0]? = some (cA, .int)) (h1 : 0 ≤ sp) (h2 : 0 ≤ dp) (h3 : 0 ≤ n) (h4 : sp + n ≤ (n0 : Int)) (h5 : dp + n ≤ (n1 : Int)) (h6 : (n0 : Int) ≤ 2147483647) (h7 : (n1 : Int) ≤ 2147483647)
    (hlink : Cond.methodLink own index arraycopyName ∈ Ts) (hnat : Cond.native arraycopyName ∈ Ts) (hstat : Cond.static arraycopyName ∈ Ts) (hini : Cond.initialized "java/lang/System" ∈ Ts) (hframes : 1 ≤ R.frames) (hlocals : (st.map fun v => v.category).sum + (nativeFrameWords "java/lang/System" "arraycopy" 5 + 11) ≤ R.locals) (hd : decode cc pc = .ok (.invokestatic index, 3)) (hw : ws.set q1 (a, .inl (cA, aI n1 (cpZ f g sp dp n))) = ws')
    (kk : G p l e R s m args below meth c D cl nL A cells slots Q ws' (pc + 3) lv st) : G p l e R s m args below meth c D cl nL A cells slots Q ws pc lv (.int (iI n) :: .int (iI dp) :: .ref a :: .int (iI sp) :: .ref a0 :: st) :=
  fun H locs ls hP hD hS hl => va_copyi (n0 := n0) (n1 := n1) (f := fun j : Nat => iI (f (j : Int))) (g := fun j : Nat => iI (g (j : Int))) C.1 C.2.1 (by rw [C.2.2.1]; exact hl.1.symm) C.2.2.2.1 (cx_ts C hlink) (cx_ts C hnat) (cx_ts C hstat) (cx_ts C hini) (cx_k C) hP hD hS q0 q1 t0 t0 ha0 ha1 ht ht rfl (z_nneg h1 (by omega)) (z_nneg h2 (by omega)) (z_nneg h3 (by omega)) (by rw [iI_cl h1 (by omega), iI_cl h3 (by omega)]; omega) (by rw [iI_cl h2 (by omega), iI_cl h3 (by omega)]; omega) (fun i hi => rfl) hframes hlocals hd (by
    rw [cpZ_i h1 h2 h3 (by omega) (by omega) (by omega)]
    intro H1 locs1 hP1 hD1 hS1
    exact kk H1 locs1 ls (hw ▸ hP1) (hw ▸ hD1) hS1 hl)
theorem g_copyL (C : CX p s m args meth c D cl tys nw cc nL Ts own A) {a0 a n0 n1 index : Nat} {cA : ClassId} {f g : Int → Int} {sp dp n : Int} (q0 q1 t0 : Nat) (ha0 : ws[q0]? = some (a0, .inl (cA, aL n0 f))) (ha1 : ws[q1]? = some (a, .inl (cA, aL n1 g))) (ht : tys[t0]? = some (cA, .long)) (h1 : 0 ≤ sp) (h2 : 0 ≤ dp) (h3 : 0 ≤ n) (h4 : sp + n ≤ (n0 : Int)) (h5 : dp + n ≤ (n1 : Int)) (h6 : (n0 : Int) ≤ 2147483647) (h7 : (n1 : Int) ≤ 2147483647)
    (hlink : Cond.methodLink own index arraycopyName ∈ Ts) (hnat : Cond.native arraycopyName ∈ Ts) (hstat : Cond.static arraycopyName ∈ Ts) (hini : Cond.initialized "java/lang/System" ∈ Ts) (hframes : 1 ≤ R.frames) (hlocals : (st.map fun v => v.category).sum + (nativeFrameWords "java/lang/System" "arraycopy" 5 + 11) ≤ R.locals) (hd : decode cc pc = .ok (.invokestatic index, 3)) (hw : ws.set q1 (a, .inl (cA, aL n1 (cpZ f g sp dp n))) = ws')
    (kk : G p l e R s m args below meth c D cl nL A cells slots Q ws' (pc + 3) lv st) : G p l e R s m args below meth c D cl nL A cells slots Q ws pc lv (.int (iI n) :: .int (iI dp) :: .ref a :: .int (iI sp) :: .ref a0 :: st) :=
  fun H locs ls hP hD hS hl => va_copyl (n0 := n0) (n1 := n1) (f := fun j : Nat => lI (f (j : Int))) (g := fun j : Nat => lI (g (j : Int))) C.1 C.2.1 (by rw [C.2.2.1]; exact hl.1.symm) C.2.2.2.1 (cx_ts C hlink) (cx_ts C hnat) (cx_ts C hstat) (cx_ts C hini) (cx_k C) hP hD hS q0 q1 t0 t0 ha0 ha1 ht ht rfl (z_nneg h1 (by omega)) (z_nneg h2 (by omega)) (z_nneg h3 (by omega)) (by rw [iI_cl h1 (by omega), iI_cl h3 (by omega)]; omega) (by rw [iI_cl h2 (by omega), iI_cl h3 (by omega)]; omega) (fun i hi => rfl) hframes hlocals hd (by
    rw [cpZ_l h1 h2 h3 (by omega) (by omega) (by omega)]
    intro H1 locs1 hP1 hD1 hS1
    exact kk H1 locs1 ls (hw ▸ hP1) (hw ▸ hD1) hS1 hl)
end ROWS2
theorem met_r {l : Launch} {y : MethodName} {wy wy' : List Cond} {rm : Room} {D : va_G} {cl : List vw_C} {tys : List (ClassId × FieldType)} {nw : List Cond} {cc : ByteArray} {maxL mc ms : Nat} {t : FieldType} {S : Type} {post : S → Prop} {w1 : S → Nat → va_W} {W0 : va_W} {av : List Value} (hy : plainName y.cls = true) (hw : wy = Cond.code y cc maxL (some (.array t)) :: wy') (hlen : (lg_sl av).length ≤ maxL)
    (body : ∀ (p : Program) (e : Env) (s : State) (m : MethodId) (below : List Frame) (meth : Method) (c : Code) (A : Nat → Prop) (Q : State → Prop), CX p s m av.toArray meth c D cl tys nw cc maxL wy y.cls A → meth.name = y.name →
      (∀ (pc : Nat) (lv : List (Nat × Value)) (u : S) (r : Nat), post u → decode cc pc = .ok (.areturn, 1) → G p l e rm s m av.toArray below meth c D cl maxL A mc ms Q (w1 u r) pc lv [.ref r]) →
      G p l e rm s m av.toArray below meth c D cl maxL A 0 0 Q W0 0 (lv_args 0 av) []) :
    ∀ sz, Met l y wy rm (va_Pc av (zPre D cl tys nw W0 sz)) (va_Qr post (fun u r => zPost D cl tys W0 sz (fun u : S => w1 u r) u) (va_A W0 sz)) mc ms (va_A W0 sz) := by
  intro sz
  refine Met.ofW (cc := cc) (maxL := maxL) (ret := some (.array t)) hy hw ?_
  intro p e s m args below meth c s₁ B hml hv
  obtain ⟨rfl, hsz, hP, hK, hD0, hN, hNo⟩ := hv
  have hx := B.exec
  have hb := B.bytes
  have hr := B.returns
  have hlocks := B.notSynchronized
  subst hsz
  have hD := hD0.self (sz := s.heap.size)
  have C : CX p s m av.toArray meth c D cl tys nw cc maxL wy y.cls (va_A W0 s.heap.size) := ⟨hx, hb, hml, findClass_of_methodNamed B.named, atoms_spec (ws := wy) B.pre, hK, fun q h => Or.inr h, hlocks, hN, hNo⟩
  rw [lg_entry_eq]
  refine body p e s m below meth c (va_A W0 s.heap.size) _ C (name_of_methodNamed B.named B.method).1 ?_ s.heap [] _ hP hD va_S.rf (lv_entry av hlen)
  intro pc lv u r hp hd H locs ls hP1 hD1 hS1 hl1
  exact W.aret (v := .ref r) hx hb hr (Or.inr ⟨t, rfl⟩) (Or.inr ⟨r, rfl⟩) (fun t ht hW => ⟨⟨u, r, rfl, hp, by rw [ht]; exact hP1, va_K.moved hW.alike hK, hD1⟩, hS1.F ht⟩) hS1.2.2 hd
