/-! CALLS AND CONTRACTS over the symbolic world -/
theorem z_fm {ws wc : va_W} {is : List Nat} (h : is.map (fun i => ws[i]?) = wc.map some) : is.filterMap (fun i => ws[i]?) = wc := by
  have h1 : is.filterMap (fun i => ws[i]?) = (is.map (fun i => ws[i]?)).filterMap id := by rw [List.filterMap_map]; rfl
  rw [h1, h, List.filterMap_map]
  exact List.filterMap_some
section CALLS
variable {p : Program} {l : Launch} {e : Env} {R : Room} {s : State} {m : MethodId} {args : Array Value} {below : List Frame} {meth : Method} {c : Code} {D : va_G} {cl : List vw_C} {tys : List (ClassId × FieldType)} {nw : List Cond} {cc : ByteArray} {nL : Nat} {Ts : List Cond} {own : String} {A : Nat → Prop} {cells slots : Nat} {Q : State → Prop} {ws ws' : va_W} {pc : Nat} {lv lv' : List (Nat × Value)} {st rest : List Value}
variable {y : MethodName} {bytes : ByteArray} {maxL mc ms n index ci N b : Nat} {ret : Option FieldType} {wy wy' : List Cond} {rm : Room} {Qc : Nat → Array Value → State → Outcome → State → Prop} {Cn host : String} {T : u_T} {fs As : List Value} {wc wr : va_W} {a : Array Value}
theorem z_blind {av : List Value} {W0 : va_W} {sz : Nat} : FrameBlind (va_Pc av (zPre D cl tys nw W0 sz)) := fun a U g mk q => by
  obtain ⟨q0, q1, qP, qK, qD, qN, qo⟩ := q
  exact ⟨q0, q1, qP, va_K.moved (u := U) (U := U.calling g mk a) (Vm.Alike.refl U.vm) qK, qD, fun w h => va_Nw.of (qo w h).1 (va_tabs (qo w h).1 (A := #[]) (A' := #[]) (rfl : U.vm = (U.calling g mk a).vm) (qN w h)), qo⟩
theorem z_pre (C : CX p s m args meth c D cl tys nw cc nL Ts own A) {av : List Value} {H : Heap} (hP : va_P D cl wc H) (hD : va_D (fun _ => True) wc) : ∀ U : State, U.heap = H → s.WarmedH U.vm → va_Pc av (zPre D cl tys nw wc H.size) av.toArray U := fun U hU hW =>
  ⟨rfl, by rw [hU], by rw [hU]; exact hP, va_K.moved hW.alike (cx_k C), hD, fun w h => (C.2.2.2.2.2.2.2.2.2 w h).2 s U hW (C.2.2.2.2.2.2.2.2.1 w h), C.2.2.2.2.2.2.2.2.2⟩
/-- a call runs, from any heap that holds its world -/
def zRun (p : Program) (l : Launch) (e : Env) (R : Room) (s : State) (m : MethodId) (args : Array Value) (below : List Frame) (meth : Method) (c : Code) (D : va_G) (cl : List vw_C) (nL cells slots mc ms pc : Nat) (st rest : List Value) (wc : va_W) (Qa : Nat → State → Outcome → State → Prop) : Prop :=
  ∀ (H : Heap) (locs : List Loc) (ls : Array Slot), va_P D cl wc H → va_D (fun _ => True) wc → ls.size = nL → va_Run p l e R s m args below meth c H locs cells slots mc ms (F0 m pc ls st) rest (Qa H.size) (va_A wc H.size)
theorem z_runV (C : CX p s m args meth c D cl tys nw cc nL Ts own A) (hM : ∀ sz, Met l y wy rm (va_Pc (.ref b :: As) (zPre D cl tys nw wc sz)) (Qc sz) mc ms (va_A wc sz)) (cw : CallW R s args own Cn index y bytes maxL ret wy rm mc ms n) (q0 : Nat) (he : wc[q0]? = some (b, .inr (ci, fs))) (hc : cl[ci]? = some (Cn, T, N)) (hn : As.length = n) (hst : st = As.reverse ++ .ref b :: rest) (hW : (rest.map fun v => v.category).sum ≤ 8) (hd : decode cc pc = .ok (.invokevirtual index, 3)) (hf : cells + mc ≤ R.cells ∧ slots + ms ≤ R.slots) :
    zRun p l e R s m args below meth c D cl nL cells slots mc ms pc st rest wc (fun sz => Qc sz (Value.ref b :: As).toArray) := fun H locs ls hP hD hl =>
  va_runV (As := As) (rest := rest) (cx_fix C) (hM H.size) cw ⟨z_blind, va_recv (cx_k C) hP hc he, z_pre C hP hD⟩ rfl hn hl hst (lv_room hW) hd hf
theorem z_runVN (C : CX p s m args meth c D cl tys nw cc nL Ts own A) (hM : ∀ sz, Met l y wy rm (va_Pc (.ref b :: As) (zPre D cl tys nw wc sz)) (Qc sz) mc ms (va_A wc sz)) (cw : va_CN R s args own index y host bytes maxL ret wy rm mc ms n ∧ (Cond.instanceMethod y).before args s = true ∧ (Cond.selects Cn y y).before args s = true) (q0 : Nat) (he : wc[q0]? = some (b, .inr (ci, fs))) (hc : cl[ci]? = some (Cn, T, N)) (hn : As.length = n) (hst : st = As.reverse ++ .ref b :: rest) (hW : (rest.map fun v => v.category).sum ≤ 8) (hd : decode cc pc = .ok (.invokevirtual index, 3)) (hf : cells + mc ≤ R.cells ∧ slots + ms ≤ R.slots) :
    zRun p l e R s m args below meth c D cl nL cells slots mc ms pc st rest wc (fun sz => Qc sz (Value.ref b :: As).toArray) := fun H locs ls hP hD hl =>
  va_runVN (As := As) (rest := rest) (cx_fix C) (hM H.size) cw ⟨z_blind, va_recv (cx_k C) hP hc he, z_pre C hP hD⟩ rfl hn hl hst (lv_room hW) hd hf
theorem z_runS (C : CX p s m args meth c D cl tys nw cc nL Ts own A) (hM : ∀ sz, Met l y wy rm (va_Pc As (zPre D cl tys nw wc sz)) (Qc sz) mc ms (va_A wc sz)) (cw : CallB R s args own index y bytes maxL ret wy rm mc ms n ∧ (Cond.static y).before args s = true) (hn : As.length = n) (hst : st = As.reverse ++ rest) (hW : (rest.map fun v => v.category).sum ≤ 8) (hd : decode cc pc = .ok (.invokestatic index, 3)) (hf : cells + mc ≤ R.cells ∧ slots + ms ≤ R.slots) :
    zRun p l e R s m args below meth c D cl nL cells slots mc ms pc st rest wc (fun sz => Qc sz As.toArray) := fun H locs ls hP hD hl =>
  va_runS (As := As) (rest := rest) (cx_fix C) (hM H.size) cw ⟨z_blind, z_pre C hP hD⟩ rfl hn hl hst (lv_room hW) hd hf
theorem z_runSN (C : CX p s m args meth c D cl tys nw cc nL Ts own A) (hM : ∀ sz, Met l y wy rm (va_Pc As (zPre D cl tys nw wc sz)) (Qc sz) mc ms (va_A wc sz)) (cw : va_CN R s args own index y host bytes maxL ret wy rm mc ms n ∧ (Cond.static y).before args s = true ∧ True) (hn : As.length = n) (hst : st = As.reverse ++ rest) (hW : (rest.map fun v => v.category).sum ≤ 8) (hd : decode cc pc = .ok (.invokestatic index, 3)) (hf : cells + mc ≤ R.cells ∧ slots + ms ≤ R.slots) :
    zRun p l e R s m args below meth c D cl nL cells slots mc ms pc st rest wc (fun sz => Qc sz As.toArray) := fun H locs ls hP hD hl =>
  va_runSN (As := As) (rest := rest) (cx_fix C) (hM H.size) cw ⟨z_blind, z_pre C hP hD⟩ rfl hn hl hst (lv_room hW) hd hf
theorem z_runI (C : CX p s m args meth c D cl tys nw cc nL Ts own A) (hM : ∀ sz, Met l y wy rm (va_Pc (.ref b :: As) (zPre D cl tys nw wc sz)) (Qc sz) mc ms (va_A wc sz)) (cw : CallB R s args own index y bytes maxL none wy rm mc ms n ∧ y.name = "<init>" ∧ (Cond.instanceMethod y).before args s = true) (hn : As.length = n) (hst : st = As.reverse ++ .ref b :: rest) (hW : (rest.map fun v => v.category).sum ≤ 8) (hd : decode cc pc = .ok (.invokespecial index, 3)) (hf : cells + mc ≤ R.cells ∧ slots + ms ≤ R.slots) :
    zRun p l e R s m args below meth c D cl nL cells slots mc ms pc st rest wc (fun sz => Qc sz (Value.ref b :: As).toArray) := fun H locs ls hP hD hl =>
  va_runI (As := As) (rest := rest) (cx_fix C) (hM H.size) cw ⟨z_blind, z_pre C hP hD⟩ rfl hn hl hst (lv_room hW) hd hf
theorem z_runIN (C : CX p s m args meth c D cl tys nw cc nL Ts own A) (hM : ∀ sz, Met l y wy rm (va_Pc (.ref b :: As) (zPre D cl tys nw wc sz)) (Qc sz) mc ms (va_A wc sz)) (cw : va_CN R s args own index y host bytes maxL none wy rm mc ms n ∧ y.name = "<init>" ∧ (Cond.instanceMethod y).before args s = true) (hn : As.length = n) (hst : st = As.reverse ++ .ref b :: rest) (hW : (rest.map fun v => v.category).sum ≤ 8) (hd : decode cc pc = .ok (.invokespecial index, 3)) (hf : cells + mc ≤ R.cells ∧ slots + ms ≤ R.slots) :
    zRun p l e R s m args below meth c D cl nL cells slots mc ms pc st rest wc (fun sz => Qc sz (Value.ref b :: As).toArray) := fun H locs ls hP hD hl =>
  va_runIN (As := As) (rest := rest) (cx_fix C) (hM H.size) cw ⟨z_blind, z_pre C hP hD⟩ rfl hn hl hst (lv_room hW) hd hf
theorem g_call_i {S : Type} {post : Int32 → S → Prop} {w1 : S → va_W} (C : CX p s m args meth c D cl tys nw cc nL Ts own A) (run : zRun p l e R s m args below meth c D cl nL cells slots mc ms pc st rest wc (fun sz => va_Qi post (zPost D cl tys wc sz w1) (va_A wc sz) a)) (isC isR : List Nat) (hC : isC.map (fun i => ws[i]?) = wc.map some) (hR : isR.map (fun i => ws[i]?) = wr.map some) (hnC : va_nd isC = true) (hnR : va_nd isR = true) (hdis : ∀ i ∈ isR, i ∉ isC)
    (kk : ∀ (r : Int32) (u : S), post r u → G p l e R s m args below meth c D cl nL A (cells + mc) (slots + ms) Q (wr ++ w1 u) (pc + 3) lv (.int r :: rest)) : G p l e R s m args below meth c D cl nL A cells slots Q ws pc lv st := by
  intro H locs ls hP hD hS hl
  have hPc := hP.sub (ws' := wc) isC (z_fm hC)
  have hDc := hD.sub (ws' := wc) isC hnC hC
  have hFc := va_free (wc := wc) hD hS (cx_a C) isC hC
  refine va_calli (run H locs ls hPc (hDc.weaken (fun _ _ _ _ => trivial)) hl.1) hS (fun q _ h => hFc q h) hFc (fun r u t H1 locs1 ht hvm hw hB hz1 hk1 hS1 => ?_)
  obtain ⟨hP1, hK1, hD1⟩ := hB
  rw [ht] at hP1
  obtain ⟨hP2, hD2⟩ := va_join (wr := wr) (w1 := w1 u) hP hD isC isR hC hR hnR hdis hk1 hFc hP1 hD1
  exact kk r u hw H1 locs1 ls hP2 hD2 hS1 hl
theorem g_call_l {S : Type} {post : Int64 → S → Prop} {w1 : S → va_W} (C : CX p s m args meth c D cl tys nw cc nL Ts own A) (run : zRun p l e R s m args below meth c D cl nL cells slots mc ms pc st rest wc (fun sz => va_Ql post (zPost D cl tys wc sz w1) (va_A wc sz) a)) (isC isR : List Nat) (hC : isC.map (fun i => ws[i]?) = wc.map some) (hR : isR.map (fun i => ws[i]?) = wr.map some) (hnC : va_nd isC = true) (hnR : va_nd isR = true) (hdis : ∀ i ∈ isR, i ∉ isC)
    (kk : ∀ (r : Int64) (u : S), post r u → G p l e R s m args below meth c D cl nL A (cells + mc) (slots + ms) Q (wr ++ w1 u) (pc + 3) lv (.long r :: rest)) : G p l e R s m args below meth c D cl nL A cells slots Q ws pc lv st := by
  intro H locs ls hP hD hS hl
  have hPc := hP.sub (ws' := wc) isC (z_fm hC)
  have hDc := hD.sub (ws' := wc) isC hnC hC
  have hFc := va_free (wc := wc) hD hS (cx_a C) isC hC
  refine va_calll (run H locs ls hPc (hDc.weaken (fun _ _ _ _ => trivial)) hl.1) hS (fun q _ h => hFc q h) hFc (fun r u t H1 locs1 ht hvm hw hB hz1 hk1 hS1 => ?_)
  obtain ⟨hP1, hK1, hD1⟩ := hB
  rw [ht] at hP1
  obtain ⟨hP2, hD2⟩ := va_join (wr := wr) (w1 := w1 u) hP hD isC isR hC hR hnR hdis hk1 hFc hP1 hD1
  exact kk r u hw H1 locs1 ls hP2 hD2 hS1 hl
theorem g_call_v {S : Type} {post : S → Prop} {w1 : S → va_W} (C : CX p s m args meth c D cl tys nw cc nL Ts own A) (run : zRun p l e R s m args below meth c D cl nL cells slots mc ms pc st rest wc (fun sz => va_Qv post (zPost D cl tys wc sz w1) (va_A wc sz) a)) (isC isR : List Nat) (hC : isC.map (fun i => ws[i]?) = wc.map some) (hR : isR.map (fun i => ws[i]?) = wr.map some) (hnC : va_nd isC = true) (hnR : va_nd isR = true) (hdis : ∀ i ∈ isR, i ∉ isC)
    (kk : ∀ (u : S), post u → G p l e R s m args below meth c D cl nL A (cells + mc) (slots + ms) Q (wr ++ w1 u) (pc + 3) lv rest) : G p l e R s m args below meth c D cl nL A cells slots Q ws pc lv st := by
  intro H locs ls hP hD hS hl
  have hPc := hP.sub (ws' := wc) isC (z_fm hC)
  have hDc := hD.sub (ws' := wc) isC hnC hC
  have hFc := va_free (wc := wc) hD hS (cx_a C) isC hC
  refine va_callv (run H locs ls hPc (hDc.weaken (fun _ _ _ _ => trivial)) hl.1) hS (fun q _ h => hFc q h) hFc (fun u t H1 locs1 ht hvm hw hB hz1 hk1 hS1 => ?_)
  obtain ⟨hP1, hK1, hD1⟩ := hB
  rw [ht] at hP1
  obtain ⟨hP2, hD2⟩ := va_join (wr := wr) (w1 := w1 u) hP hD isC isR hC hR hnR hdis hk1 hFc hP1 hD1
  exact kk u hw H1 locs1 ls hP2 hD2 hS1 hl
theorem g_call_r {S : Type} {post : S → Prop} {w1 : S → Nat → va_W} (C : CX p s m args meth c D cl tys nw cc nL Ts own A) (run : zRun p l e R s m args below meth c D cl nL cells slots mc ms pc st rest wc (fun sz => va_Qr post (fun u r => zPost D cl tys wc sz (fun u : S => w1 u r) u) (va_A wc sz) a)) (isC isR : List Nat) (hC : isC.map (fun i => ws[i]?) = wc.map some) (hR : isR.map (fun i => ws[i]?) = wr.map some) (hnC : va_nd isC = true) (hnR : va_nd isR = true) (hdis : ∀ i ∈ isR, i ∉ isC)
    (kk : ∀ (u : S) (r : Nat), post u → G p l e R s m args below meth c D cl nL A (cells + mc) (slots + ms) Q (wr ++ w1 u r) (pc + 3) lv (.ref r :: rest)) : G p l e R s m args below meth c D cl nL A cells slots Q ws pc lv st := by
  intro H locs ls hP hD hS hl
  have hPc := hP.sub (ws' := wc) isC (z_fm hC)
  have hDc := hD.sub (ws' := wc) isC hnC hC
  have hFc := va_free (wc := wc) hD hS (cx_a C) isC hC
  refine va_callr (run H locs ls hPc (hDc.weaken (fun _ _ _ _ => trivial)) hl.1) hS (fun q _ h => hFc q h) hFc (fun u r t H1 locs1 ht hvm hw hB hz1 hk1 hS1 => ?_)
  obtain ⟨hP1, hK1, hD1⟩ := hB
  rw [ht] at hP1
  obtain ⟨hP2, hD2⟩ := va_join (wr := wr) (w1 := w1 u r) hP hD isC isR hC hR hnR hdis hk1 hFc hP1 hD1
  exact kk u r hw H1 locs1 ls hP2 hD2 hS1 hl
theorem g_V_i {S : Type} {post : Int32 → S → Prop} {w1 : S → va_W} (C : CX p s m args meth c D cl tys nw cc nL Ts own A) (hM : ∀ sz, Met l y wy rm (va_Pc (.ref b :: As) (zPre D cl tys nw wc sz)) (va_Qi post (zPost D cl tys wc sz w1) (va_A wc sz)) mc ms (va_A wc sz)) (cw : CallW R s args own Cn index y bytes maxL ret wy rm mc ms n) (q0 : Nat) (he : wc[q0]? = some (b, .inr (ci, fs))) (hc : cl[ci]? = some (Cn, T, N)) (hn : As.length = n) (hst : st = As.reverse ++ .ref b :: rest) (hW : (rest.map fun v => v.category).sum ≤ 8) (hd : decode cc pc = .ok (.invokevirtual index, 3)) (hf : cells + mc ≤ R.cells ∧ slots + ms ≤ R.slots) (isC isR : List Nat) (hC : isC.map (fun i => ws[i]?) = wc.map some) (hR : isR.map (fun i => ws[i]?) = wr.map some) (hnC : va_nd isC = true) (hnR : va_nd isR = true) (hdis : ∀ i ∈ isR, i ∉ isC)
    (kk : ∀ (r : Int32) (u : S), post r u → G p l e R s m args below meth c D cl nL A (cells + mc) (slots + ms) Q (wr ++ w1 u) (pc + 3) lv (.int r :: rest)) : G p l e R s m args below meth c D cl nL A cells slots Q ws pc lv st :=
  g_call_i C (z_runV (Qc := fun sz => va_Qi post (zPost D cl tys wc sz w1) (va_A wc sz)) C hM cw q0 he hc hn hst hW hd hf) isC isR hC hR hnC hnR hdis kk
theorem g_V_l {S : Type} {post : Int64 → S → Prop} {w1 : S → va_W} (C : CX p s m args meth c D cl tys nw cc nL Ts own A) (hM : ∀ sz, Met l y wy rm (va_Pc (.ref b :: As) (zPre D cl tys nw wc sz)) (va_Ql post (zPost D cl tys wc sz w1) (va_A wc sz)) mc ms (va_A wc sz)) (cw : CallW R s args own Cn index y bytes maxL ret wy rm mc ms n) (q0 : Nat) (he : wc[q0]? = some (b, .inr (ci, fs))) (hc : cl[ci]? = some (Cn, T, N)) (hn : As.length = n) (hst : st = As.reverse ++ .ref b :: rest) (hW : (rest.map fun v => v.category).sum ≤ 8) (hd : decode cc pc = .ok (.invokevirtual index, 3)) (hf : cells + mc ≤ R.cells ∧ slots + ms ≤ R.slots) (isC isR : List Nat) (hC : isC.map (fun i => ws[i]?) = wc.map some) (hR : isR.map (fun i => ws[i]?) = wr.map some) (hnC : va_nd isC = true) (hnR : va_nd isR = true) (hdis : ∀ i ∈ isR, i ∉ isC)
    (kk : ∀ (r : Int64) (u : S), post r u → G p l e R s m args below meth c D cl nL A (cells + mc) (slots + ms) Q (wr ++ w1 u) (pc + 3) lv (.long r :: rest)) : G p l e R s m args below meth c D cl nL A cells slots Q ws pc lv st :=
  g_call_l C (z_runV (Qc := fun sz => va_Ql post (zPost D cl tys wc sz w1) (va_A wc sz)) C hM cw q0 he hc hn hst hW hd hf) isC isR hC hR hnC hnR hdis kk
theorem g_V_v {S : Type} {post : S → Prop} {w1 : S → va_W} (C : CX p s m args meth c D cl tys nw cc nL Ts own A) (hM : ∀ sz, Met l y wy rm (va_Pc (.ref b :: As) (zPre D cl tys nw wc sz)) (va_Qv post (zPost D cl tys wc sz w1) (va_A wc sz)) mc ms (va_A wc sz)) (cw : CallW R s args own Cn index y bytes maxL ret wy rm mc ms n) (q0 : Nat) (he : wc[q0]? = some (b, .inr (ci, fs))) (hc : cl[ci]? = some (Cn, T, N)) (hn : As.length = n) (hst : st = As.reverse ++ .ref b :: rest) (hW : (rest.map fun v => v.category).sum ≤ 8) (hd : decode cc pc = .ok (.invokevirtual index, 3)) (hf : cells + mc ≤ R.cells ∧ slots + ms ≤ R.slots) (isC isR : List Nat) (hC : isC.map (fun i => ws[i]?) = wc.map some) (hR : isR.map (fun i => ws[i]?) = wr.map some) (hnC : va_nd isC = true) (hnR : va_nd isR = true) (hdis : ∀ i ∈ isR, i ∉ isC)
    (kk : ∀ (u : S), post u → G p l e R s m args below meth c D cl nL A (cells + mc) (slots + ms) Q (wr ++ w1 u) (pc + 3) lv rest) : G p l e R s m args below meth c D cl nL A cells slots Q ws pc lv st :=
  g_call_v C (z_runV (Qc := fun sz => va_Qv post (zPost D cl tys wc sz w1) (va_A wc sz)) C hM cw q0 he hc hn hst hW hd hf) isC isR hC hR hnC hnR hdis kk
theorem g_VN_i {S : Type} {post : Int32 → S → Prop} {w1 : S → va_W} (C : CX p s m args meth c D cl tys nw cc nL Ts own A) (hM : ∀ sz, Met l y wy rm (va_Pc (.ref b :: As) (zPre D cl tys nw wc sz)) (va_Qi post (zPost D cl tys wc sz w1) (va_A wc sz)) mc ms (va_A wc sz)) (cw : va_CN R s args own index y host bytes maxL ret wy rm mc ms n ∧ (Cond.instanceMethod y).before args s = true ∧ (Cond.selects Cn y y).before args s = true) (q0 : Nat) (he : wc[q0]? = some (b, .inr (ci, fs))) (hc : cl[ci]? = some (Cn, T, N)) (hn : As.length = n) (hst : st = As.reverse ++ .ref b :: rest) (hW : (rest.map fun v => v.category).sum ≤ 8) (hd : decode cc pc = .ok (.invokevirtual index, 3)) (hf : cells + mc ≤ R.cells ∧ slots + ms ≤ R.slots) (isC isR : List Nat) (hC : isC.map (fun i => ws[i]?) = wc.map some) (hR : isR.map (fun i => ws[i]?) = wr.map some) (hnC : va_nd isC = true) (hnR : va_nd isR = true) (hdis : ∀ i ∈ isR, i ∉ isC)
    (kk : ∀ (r : Int32) (u : S), post r u → G p l e R s m args below meth c D cl nL A (cells + mc) (slots + ms) Q (wr ++ w1 u) (pc + 3) lv (.int r :: rest)) : G p l e R s m args below meth c D cl nL A cells slots Q ws pc lv st :=
  g_call_i C (z_runVN (Qc := fun sz => va_Qi post (zPost D cl tys wc sz w1) (va_A wc sz)) C hM cw q0 he hc hn hst hW hd hf) isC isR hC hR hnC hnR hdis kk
theorem g_VN_v {S : Type} {post : S → Prop} {w1 : S → va_W} (C : CX p s m args meth c D cl tys nw cc nL Ts own A) (hM : ∀ sz, Met l y wy rm (va_Pc (.ref b :: As) (zPre D cl tys nw wc sz)) (va_Qv post (zPost D cl tys wc sz w1) (va_A wc sz)) mc ms (va_A wc sz)) (cw : va_CN R s args own index y host bytes maxL ret wy rm mc ms n ∧ (Cond.instanceMethod y).before args s = true ∧ (Cond.selects Cn y y).before args s = true) (q0 : Nat) (he : wc[q0]? = some (b, .inr (ci, fs))) (hc : cl[ci]? = some (Cn, T, N)) (hn : As.length = n) (hst : st = As.reverse ++ .ref b :: rest) (hW : (rest.map fun v => v.category).sum ≤ 8) (hd : decode cc pc = .ok (.invokevirtual index, 3)) (hf : cells + mc ≤ R.cells ∧ slots + ms ≤ R.slots) (isC isR : List Nat) (hC : isC.map (fun i => ws[i]?) = wc.map some) (hR : isR.map (fun i => ws[i]?) = wr.map some) (hnC : va_nd isC = true) (hnR : va_nd isR = true) (hdis : ∀ i ∈ isR, i ∉ isC)
    (kk : ∀ (u : S), post u → G p l e R s m args below meth c D cl nL A (cells + mc) (slots + ms) Q (wr ++ w1 u) (pc + 3) lv rest) : G p l e R s m args below meth c D cl nL A cells slots Q ws pc lv st :=
  g_call_v C (z_runVN (Qc := fun sz => va_Qv post (zPost D cl tys wc sz w1) (va_A wc sz)) C hM cw q0 he hc hn hst hW hd hf) isC isR hC hR hnC hnR hdis kk
theorem g_S_i {S : Type} {post : Int32 → S → Prop} {w1 : S → va_W} (C : CX p s m args meth c D cl tys nw cc nL Ts own A) (hM : ∀ sz, Met l y wy rm (va_Pc (As) (zPre D cl tys nw wc sz)) (va_Qi post (zPost D cl tys wc sz w1) (va_A wc sz)) mc ms (va_A wc sz)) (cw : CallB R s args own index y bytes maxL ret wy rm mc ms n ∧ (Cond.static y).before args s = true) (hn : As.length = n) (hst : st = As.reverse ++ rest) (hW : (rest.map fun v => v.category).sum ≤ 8) (hd : decode cc pc = .ok (.invokestatic index, 3)) (hf : cells + mc ≤ R.cells ∧ slots + ms ≤ R.slots) (isC isR : List Nat) (hC : isC.map (fun i => ws[i]?) = wc.map some) (hR : isR.map (fun i => ws[i]?) = wr.map some) (hnC : va_nd isC = true) (hnR : va_nd isR = true) (hdis : ∀ i ∈ isR, i ∉ isC)
    (kk : ∀ (r : Int32) (u : S), post r u → G p l e R s m args below meth c D cl nL A (cells + mc) (slots + ms) Q (wr ++ w1 u) (pc + 3) lv (.int r :: rest)) : G p l e R s m args below meth c D cl nL A cells slots Q ws pc lv st :=
  g_call_i C (z_runS (Qc := fun sz => va_Qi post (zPost D cl tys wc sz w1) (va_A wc sz)) C hM cw hn hst hW hd hf) isC isR hC hR hnC hnR hdis kk
theorem g_S_l {S : Type} {post : Int64 → S → Prop} {w1 : S → va_W} (C : CX p s m args meth c D cl tys nw cc nL Ts own A) (hM : ∀ sz, Met l y wy rm (va_Pc (As) (zPre D cl tys nw wc sz)) (va_Ql post (zPost D cl tys wc sz w1) (va_A wc sz)) mc ms (va_A wc sz)) (cw : CallB R s args own index y bytes maxL ret wy rm mc ms n ∧ (Cond.static y).before args s = true) (hn : As.length = n) (hst : st = As.reverse ++ rest) (hW : (rest.map fun v => v.category).sum ≤ 8) (hd : decode cc pc = .ok (.invokestatic index, 3)) (hf : cells + mc ≤ R.cells ∧ slots + ms ≤ R.slots) (isC isR : List Nat) (hC : isC.map (fun i => ws[i]?) = wc.map some) (hR : isR.map (fun i => ws[i]?) = wr.map some) (hnC : va_nd isC = true) (hnR : va_nd isR = true) (hdis : ∀ i ∈ isR, i ∉ isC)
    (kk : ∀ (r : Int64) (u : S), post r u → G p l e R s m args below meth c D cl nL A (cells + mc) (slots + ms) Q (wr ++ w1 u) (pc + 3) lv (.long r :: rest)) : G p l e R s m args below meth c D cl nL A cells slots Q ws pc lv st :=
  g_call_l C (z_runS (Qc := fun sz => va_Ql post (zPost D cl tys wc sz w1) (va_A wc sz)) C hM cw hn hst hW hd hf) isC isR hC hR hnC hnR hdis kk
theorem g_S_v {S : Type} {post : S → Prop} {w1 : S → va_W} (C : CX p s m args meth c D cl tys nw cc nL Ts own A) (hM : ∀ sz, Met l y wy rm (va_Pc (As) (zPre D cl tys nw wc sz)) (va_Qv post (zPost D cl tys wc sz w1) (va_A wc sz)) mc ms (va_A wc sz)) (cw : CallB R s args own index y bytes maxL ret wy rm mc ms n ∧ (Cond.static y).before args s = true) (hn : As.length = n) (hst : st = As.reverse ++ rest) (hW : (rest.map fun v => v.category).sum ≤ 8) (hd : decode cc pc = .ok (.invokestatic index, 3)) (hf : cells + mc ≤ R.cells ∧ slots + ms ≤ R.slots) (isC isR : List Nat) (hC : isC.map (fun i => ws[i]?) = wc.map some) (hR : isR.map (fun i => ws[i]?) = wr.map some) (hnC : va_nd isC = true) (hnR : va_nd isR = true) (hdis : ∀ i ∈ isR, i ∉ isC)
    (kk : ∀ (u : S), post u → G p l e R s m args below meth c D cl nL A (cells + mc) (slots + ms) Q (wr ++ w1 u) (pc + 3) lv rest) : G p l e R s m args below meth c D cl nL A cells slots Q ws pc lv st :=
  g_call_v C (z_runS (Qc := fun sz => va_Qv post (zPost D cl tys wc sz w1) (va_A wc sz)) C hM cw hn hst hW hd hf) isC isR hC hR hnC hnR hdis kk
theorem g_S_r {S : Type} {post : S → Prop} {w1 : S → Nat → va_W} (C : CX p s m args meth c D cl tys nw cc nL Ts own A) (hM : ∀ sz, Met l y wy rm (va_Pc (As) (zPre D cl tys nw wc sz)) (va_Qr post (fun u r => zPost D cl tys wc sz (fun u : S => w1 u r) u) (va_A wc sz)) mc ms (va_A wc sz)) (cw : CallB R s args own index y bytes maxL ret wy rm mc ms n ∧ (Cond.static y).before args s = true) (hn : As.length = n) (hst : st = As.reverse ++ rest) (hW : (rest.map fun v => v.category).sum ≤ 8) (hd : decode cc pc = .ok (.invokestatic index, 3)) (hf : cells + mc ≤ R.cells ∧ slots + ms ≤ R.slots) (isC isR : List Nat) (hC : isC.map (fun i => ws[i]?) = wc.map some) (hR : isR.map (fun i => ws[i]?) = wr.map some) (hnC : va_nd isC = true) (hnR : va_nd isR = true) (hdis : ∀ i ∈ isR, i ∉ isC)
    (kk : ∀ (u : S) (r : Nat), post u → G p l e R s m args below meth c D cl nL A (cells + mc) (slots + ms) Q (wr ++ w1 u r) (pc + 3) lv (.ref r :: rest)) : G p l e R s m args below meth c D cl nL A cells slots Q ws pc lv st :=
  g_call_r C (z_runS (Qc := fun sz => va_Qr post (fun u r => zPost D cl tys wc sz (fun u : S => w1 u r) u) (va_A wc sz)) C hM cw hn hst hW hd hf) isC isR hC hR hnC hnR hdis kk
theorem g_SN_i {S : Type} {post : Int32 → S → Prop} {w1 : S → va_W} (C : CX p s m args meth c D cl tys nw cc nL Ts own A) (hM : ∀ sz, Met l y wy rm (va_Pc (As) (zPre D cl tys nw wc sz)) (va_Qi post (zPost D cl tys wc sz w1) (va_A wc sz)) mc ms (va_A wc sz)) (cw : va_CN R s args own index y host bytes maxL ret wy rm mc ms n ∧ (Cond.static y).before args s = true ∧ True) (hn : As.length = n) (hst : st = As.reverse ++ rest) (hW : (rest.map fun v => v.category).sum ≤ 8) (hd : decode cc pc = .ok (.invokestatic index, 3)) (hf : cells + mc ≤ R.cells ∧ slots + ms ≤ R.slots) (isC isR : List Nat) (hC : isC.map (fun i => ws[i]?) = wc.map some) (hR : isR.map (fun i => ws[i]?) = wr.map some) (hnC : va_nd isC = true) (hnR : va_nd isR = true) (hdis : ∀ i ∈ isR, i ∉ isC)
    (kk : ∀ (r : Int32) (u : S), post r u → G p l e R s m args below meth c D cl nL A (cells + mc) (slots + ms) Q (wr ++ w1 u) (pc + 3) lv (.int r :: rest)) : G p l e R s m args below meth c D cl nL A cells slots Q ws pc lv st :=
  g_call_i C (z_runSN (Qc := fun sz => va_Qi post (zPost D cl tys wc sz w1) (va_A wc sz)) C hM cw hn hst hW hd hf) isC isR hC hR hnC hnR hdis kk
theorem g_SN_l {S : Type} {post : Int64 → S → Prop} {w1 : S → va_W} (C : CX p s m args meth c D cl tys nw cc nL Ts own A) (hM : ∀ sz, Met l y wy rm (va_Pc (As) (zPre D cl tys nw wc sz)) (va_Ql post (zPost D cl tys wc sz w1) (va_A wc sz)) mc ms (va_A wc sz)) (cw : va_CN R s args own index y host bytes maxL ret wy rm mc ms n ∧ (Cond.static y).before args s = true ∧ True) (hn : As.length = n) (hst : st = As.reverse ++ rest) (hW : (rest.map fun v => v.category).sum ≤ 8) (hd : decode cc pc = .ok (.invokestatic index, 3)) (hf : cells + mc ≤ R.cells ∧ slots + ms ≤ R.slots) (isC isR : List Nat) (hC : isC.map (fun i => ws[i]?) = wc.map some) (hR : isR.map (fun i => ws[i]?) = wr.map some) (hnC : va_nd isC = true) (hnR : va_nd isR = true) (hdis : ∀ i ∈ isR, i ∉ isC)
    (kk : ∀ (r : Int64) (u : S), post r u → G p l e R s m args below meth c D cl nL A (cells + mc) (slots + ms) Q (wr ++ w1 u) (pc + 3) lv (.long r :: rest)) : G p l e R s m args below meth c D cl nL A cells slots Q ws pc lv st :=
  g_call_l C (z_runSN (Qc := fun sz => va_Ql post (zPost D cl tys wc sz w1) (va_A wc sz)) C hM cw hn hst hW hd hf) isC isR hC hR hnC hnR hdis kk
theorem g_SN_v {S : Type} {post : S → Prop} {w1 : S → va_W} (C : CX p s m args meth c D cl tys nw cc nL Ts own A) (hM : ∀ sz, Met l y wy rm (va_Pc (As) (zPre D cl tys nw wc sz)) (va_Qv post (zPost D cl tys wc sz w1) (va_A wc sz)) mc ms (va_A wc sz)) (cw : va_CN R s args own index y host bytes maxL ret wy rm mc ms n ∧ (Cond.static y).before args s = true ∧ True) (hn : As.length = n) (hst : st = As.reverse ++ rest) (hW : (rest.map fun v => v.category).sum ≤ 8) (hd : decode cc pc = .ok (.invokestatic index, 3)) (hf : cells + mc ≤ R.cells ∧ slots + ms ≤ R.slots) (isC isR : List Nat) (hC : isC.map (fun i => ws[i]?) = wc.map some) (hR : isR.map (fun i => ws[i]?) = wr.map some) (hnC : va_nd isC = true) (hnR : va_nd isR = true) (hdis : ∀ i ∈ isR, i ∉ isC)
    (kk : ∀ (u : S), post u → G p l e R s m args below meth c D cl nL A (cells + mc) (slots + ms) Q (wr ++ w1 u) (pc + 3) lv rest) : G p l e R s m args below meth c D cl nL A cells slots Q ws pc lv st :=
  g_call_v C (z_runSN (Qc := fun sz => va_Qv post (zPost D cl tys wc sz w1) (va_A wc sz)) C hM cw hn hst hW hd hf) isC isR hC hR hnC hnR hdis kk
theorem g_I_v {S : Type} {post : S → Prop} {w1 : S → va_W} (C : CX p s m args meth c D cl tys nw cc nL Ts own A) (hM : ∀ sz, Met l y wy rm (va_Pc (.ref b :: As) (zPre D cl tys nw wc sz)) (va_Qv post (zPost D cl tys wc sz w1) (va_A wc sz)) mc ms (va_A wc sz)) (cw : CallB R s args own index y bytes maxL none wy rm mc ms n ∧ y.name = "<init>" ∧ (Cond.instanceMethod y).before args s = true) (hn : As.length = n) (hst : st = As.reverse ++ .ref b :: rest) (hW : (rest.map fun v => v.category).sum ≤ 8) (hd : decode cc pc = .ok (.invokespecial index, 3)) (hf : cells + mc ≤ R.cells ∧ slots + ms ≤ R.slots) (isC isR : List Nat) (hC : isC.map (fun i => ws[i]?) = wc.map some) (hR : isR.map (fun i => ws[i]?) = wr.map some) (hnC : va_nd isC = true) (hnR : va_nd isR = true) (hdis : ∀ i ∈ isR, i ∉ isC)
    (kk : ∀ (u : S), post u → G p l e R s m args below meth c D cl nL A (cells + mc) (slots + ms) Q (wr ++ w1 u) (pc + 3) lv rest) : G p l e R s m args below meth c D cl nL A cells slots Q ws pc lv st :=
  g_call_v C (z_runI (Qc := fun sz => va_Qv post (zPost D cl tys wc sz w1) (va_A wc sz)) C hM cw hn hst hW hd hf) isC isR hC hR hnC hnR hdis kk
theorem g_IN_v {S : Type} {post : S → Prop} {w1 : S → va_W} (C : CX p s m args meth c D cl tys nw cc nL Ts own A) (hM : ∀ sz, Met l y wy rm (va_Pc (.ref b :: As) (zPre D cl tys nw wc sz)) (va_Qv post (zPost D cl tys wc sz w1) (va_A wc sz)) mc ms (va_A wc sz)) (cw : va_CN R s args own index y host bytes maxL none wy rm mc ms n ∧ y.name = "<init>" ∧ (Cond.instanceMethod y).before args s = true) (hn : As.length = n) (hst : st = As.reverse ++ .ref b :: rest) (hW : (rest.map fun v => v.category).sum ≤ 8) (hd : decode cc pc = .ok (.invokespecial index, 3)) (hf : cells + mc ≤ R.cells ∧ slots + ms ≤ R.slots) (isC isR : List Nat) (hC : isC.map (fun i => ws[i]?) = wc.map some) (hR : isR.map (fun i => ws[i]?) = wr.map some) (hnC : va_nd isC = true) (hnR : va_nd isR = true) (hdis : ∀ i ∈ isR, i ∉ isC)
    (kk : ∀ (u : S), post u → G p l e R s m args below meth c D cl nL A (cells + mc) (slots + ms) Q (wr ++ w1 u) (pc + 3) lv rest) : G p l e R s m args below meth c D cl nL A cells slots Q ws pc lv st :=
  g_call_v C (z_runIN (Qc := fun sz => va_Qv post (zPost D cl tys wc sz w1) (va_A wc sz)) C hM cw hn hst hW hd hf) isC isR hC hR hnC hnR hdis kk
end CALLS
theorem met_i {l : Launch} {y : MethodName} {wy wy' : List Cond} {rm : Room} {D : va_G} {cl : List vw_C} {tys : List (ClassId × FieldType)} {nw : List Cond} {cc : ByteArray} {maxL mc ms : Nat} {S : Type} {post : Int32 → S → Prop} {w1 : S → va_W} {W0 : va_W} {av : List Value} (hy : plainName y.cls = true) (hw : wy = Cond.code y cc maxL (some .int) :: wy') (hlen : (lg_sl av).length ≤ maxL)
    (body : ∀ (p : Program) (e : Env) (s : State) (m : MethodId) (below : List Frame) (meth : Method) (c : Code) (A : Nat → Prop) (Q : State → Prop), CX p s m av.toArray meth c D cl tys nw cc maxL wy y.cls A → meth.name = y.name →
      (∀ (pc : Nat) (lv : List (Nat × Value)) (r : Int32) (u : S), post r u → decode cc pc = .ok (.ireturn, 1) → G p l e rm s m av.toArray below meth c D cl maxL A mc ms Q (w1 u) pc lv [.int r]) →
      G p l e rm s m av.toArray below meth c D cl maxL A 0 0 Q W0 0 (lv_args 0 av) []) :
    ∀ sz, Met l y wy rm (va_Pc av (zPre D cl tys nw W0 sz)) (va_Qi post (zPost D cl tys W0 sz w1) (va_A W0 sz)) mc ms (va_A W0 sz) := by
  intro sz
  refine Met.ofW (cc := cc) (maxL := maxL) (ret := some .int) hy hw ?_
  intro p e s m args below meth c s₁ B hml hv
  obtain ⟨rfl, hsz, hP, hK, hD0, hN, hNo⟩ := hv
  have hx := B.exec
  have hb := B.bytes
  have hr := B.returns
  have hlocks := B.notSynchronized
  subst hsz
  have hD := hD0.self (sz := s.heap.size)
  have C : CX p s m av.toArray meth c D cl tys nw cc maxL wy y.cls (va_A W0 s.heap.size) := ⟨hx, hb, hml, findClass_of_methodNamed B.named, atoms_spec (ws := wy) B.pre, hK, fun q h => Or.inr h, hlocks, hN, hNo⟩
  rw [lg_entry_eq]
  refine body p e s m below meth c (va_A W0 s.heap.size) _ C (name_of_methodNamed B.named B.method).1 ?_ s.heap [] _ hP hD va_S.rf (lv_entry av hlen)
  intro pc lv r u hp hd H locs ls hP1 hD1 hS1 hl1
  exact W.iret (v := r) hx hb hr (fun t ht hW => ⟨⟨r, u, rfl, hp, by rw [ht]; exact hP1, va_K.moved hW.alike hK, hD1⟩, hS1.F ht⟩) hS1.2.2 hd
theorem met_z {l : Launch} {y : MethodName} {wy wy' : List Cond} {rm : Room} {D : va_G} {cl : List vw_C} {tys : List (ClassId × FieldType)} {nw : List Cond} {cc : ByteArray} {maxL mc ms : Nat} {S : Type} {post : Int32 → S → Prop} {w1 : S → va_W} {W0 : va_W} {av : List Value} (hy : plainName y.cls = true) (hw : wy = Cond.code y cc maxL (some .boolean) :: wy') (hlen : (lg_sl av).length ≤ maxL)
    (body : ∀ (p : Program) (e : Env) (s : State) (m : MethodId) (below : List Frame) (meth : Method) (c : Code) (A : Nat → Prop) (Q : State → Prop), CX p s m av.toArray meth c D cl tys nw cc maxL wy y.cls A → meth.name = y.name →
      (∀ (pc : Nat) (lv : List (Nat × Value)) (r : Int32) (u : S), post r u → narrow .boolean (.int r) = .int r → decode cc pc = .ok (.ireturn, 1) → G p l e rm s m av.toArray below meth c D cl maxL A mc ms Q (w1 u) pc lv [.int r]) →
      G p l e rm s m av.toArray below meth c D cl maxL A 0 0 Q W0 0 (lv_args 0 av) []) :
    ∀ sz, Met l y wy rm (va_Pc av (zPre D cl tys nw W0 sz)) (va_Qi post (zPost D cl tys W0 sz w1) (va_A W0 sz)) mc ms (va_A W0 sz) := by
  intro sz
  refine Met.ofW (cc := cc) (maxL := maxL) (ret := some .boolean) hy hw ?_
  intro p e s m args below meth c s₁ B hml hv
  obtain ⟨rfl, hsz, hP, hK, hD0, hN, hNo⟩ := hv
  have hx := B.exec
  have hb := B.bytes
  have hr := B.returns
  have hlocks := B.notSynchronized
  subst hsz
  have hD := hD0.self (sz := s.heap.size)
  have C : CX p s m av.toArray meth c D cl tys nw cc maxL wy y.cls (va_A W0 s.heap.size) := ⟨hx, hb, hml, findClass_of_methodNamed B.named, atoms_spec (ws := wy) B.pre, hK, fun q h => Or.inr h, hlocks, hN, hNo⟩
  rw [lg_entry_eq]
  refine body p e s m below meth c (va_A W0 s.heap.size) _ C (name_of_methodNamed B.named B.method).1 ?_ s.heap [] _ hP hD va_S.rf (lv_entry av hlen)
  intro pc lv r u hp hz hd H locs ls hP1 hD1 hS1 hl1
  exact W.zret (v := r) hx hb hr hz (fun t ht hW => ⟨⟨r, u, rfl, hp, by rw [ht]; exact hP1, va_K.moved hW.alike hK, hD1⟩, hS1.F ht⟩) hS1.2.2 hd
theorem met_l {l : Launch} {y : MethodName} {wy wy' : List Cond} {rm : Room} {D : va_G} {cl : List vw_C} {tys : List (ClassId × FieldType)} {nw : List Cond} {cc : ByteArray} {maxL mc ms : Nat} {S : Type} {post : Int64 → S → Prop} {w1 : S → va_W} {W0 : va_W} {av : List Value} (hy : plainName y.cls = true) (hw : wy = Cond.code y cc maxL (some .long) :: wy') (hlen : (lg_sl av).length ≤ maxL)
    (body : ∀ (p : Program) (e : Env) (s : State) (m : MethodId) (below : List Frame) (meth : Method) (c : Code) (A : Nat → Prop) (Q : State → Prop), CX p s m av.toArray meth c D cl tys nw cc maxL wy y.cls A → meth.name = y.name →
      (∀ (pc : Nat) (lv : List (Nat × Value)) (r : Int64) (u : S), post r u → decode cc pc = .ok (.lreturn, 1) → G p l e rm s m av.toArray below meth c D cl maxL A mc ms Q (w1 u) pc lv [.long r]) →
      G p l e rm s m av.toArray below meth c D cl maxL A 0 0 Q W0 0 (lv_args 0 av) []) :
    ∀ sz, Met l y wy rm (va_Pc av (zPre D cl tys nw W0 sz)) (va_Ql post (zPost D cl tys W0 sz w1) (va_A W0 sz)) mc ms (va_A W0 sz) := by
  intro sz
  refine Met.ofW (cc := cc) (maxL := maxL) (ret := some .long) hy hw ?_
  intro p e s m args below meth c s₁ B hml hv
  obtain ⟨rfl, hsz, hP, hK, hD0, hN, hNo⟩ := hv
  have hx := B.exec
  have hb := B.bytes
  have hr := B.returns
  have hlocks := B.notSynchronized
  subst hsz
  have hD := hD0.self (sz := s.heap.size)
  have C : CX p s m av.toArray meth c D cl tys nw cc maxL wy y.cls (va_A W0 s.heap.size) := ⟨hx, hb, hml, findClass_of_methodNamed B.named, atoms_spec (ws := wy) B.pre, hK, fun q h => Or.inr h, hlocks, hN, hNo⟩
  rw [lg_entry_eq]
  refine body p e s m below meth c (va_A W0 s.heap.size) _ C (name_of_methodNamed B.named B.method).1 ?_ s.heap [] _ hP hD va_S.rf (lv_entry av hlen)
  intro pc lv r u hp hd H locs ls hP1 hD1 hS1 hl1
  exact W.lret (v := r) hx hb hr (fun t ht hW => ⟨⟨r, u, rfl, hp, by rw [ht]; exact hP1, va_K.moved hW.alike hK, hD1⟩, hS1.F ht⟩) hS1.2.2 hd
theorem met_v {l : Launch} {y : MethodName} {wy wy' : List Cond} {rm : Room} {D : va_G} {cl : List vw_C} {tys : List (ClassId × FieldType)} {nw : List Cond} {cc : ByteArray} {maxL mc ms : Nat} {S : Type} {post : S → Prop} {w1 : S → va_W} {W0 : va_W} {av : List Value} (hy : plainName y.cls = true) (hw : wy = Cond.code y cc maxL (none) :: wy') (hlen : (lg_sl av).length ≤ maxL)
    (body : ∀ (p : Program) (e : Env) (s : State) (m : MethodId) (below : List Frame) (meth : Method) (c : Code) (A : Nat → Prop) (Q : State → Prop), CX p s m av.toArray meth c D cl tys nw cc maxL wy y.cls A → meth.name = y.name →
      (∀ (pc : Nat) (lv : List (Nat × Value)) (u : S), post u → decode cc pc = .ok (.return_, 1) → G p l e rm s m av.toArray below meth c D cl maxL A mc ms Q (w1 u) pc lv []) →
      G p l e rm s m av.toArray below meth c D cl maxL A 0 0 Q W0 0 (lv_args 0 av) []) :
    ∀ sz, Met l y wy rm (va_Pc av (zPre D cl tys nw W0 sz)) (va_Qv post (zPost D cl tys W0 sz w1) (va_A W0 sz)) mc ms (va_A W0 sz) := by
  intro sz
  refine Met.ofW (cc := cc) (maxL := maxL) (ret := none) hy hw ?_
  intro p e s m args below meth c s₁ B hml hv
  obtain ⟨rfl, hsz, hP, hK, hD0, hN, hNo⟩ := hv
  have hx := B.exec
  have hb := B.bytes
  have hr := B.returns
  have hlocks := B.notSynchronized
  subst hsz
  have hD := hD0.self (sz := s.heap.size)
  have C : CX p s m av.toArray meth c D cl tys nw cc maxL wy y.cls (va_A W0 s.heap.size) := ⟨hx, hb, hml, findClass_of_methodNamed B.named, atoms_spec (ws := wy) B.pre, hK, fun q h => Or.inr h, hlocks, hN, hNo⟩
  rw [lg_entry_eq]
  refine body p e s m below meth c (va_A W0 s.heap.size) _ C (name_of_methodNamed B.named B.method).1 ?_ s.heap [] _ hP hD va_S.rf (lv_entry av hlen)
  intro pc lv u hp hd H locs ls hP1 hD1 hS1 hl1
  exact W.vret hx hb hr (fun t ht hW => ⟨⟨u, rfl, hp, by rw [ht]; exact hP1, va_K.moved hW.alike hK, hD1⟩, hS1.F ht⟩) hS1.2.2 hd
