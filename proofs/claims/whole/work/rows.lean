section
-- ===== PART A: goes FIRST, ahead of the names: the tables' words, and 'selects' of the private methods out of them =====
/-- a private method of a class that the tables say can be made, by its rows of tables_1 -/
def lw_okq (q : MethodName × Nat) : Prop := (q.1.cls ≠ "java/lang/invoke/MethodHandle" ∧ q.1.cls ≠ "java/lang/invoke/VarHandle") ∧ Cond.instantiable q.1.cls q.2 ∈ tables_1 ∧ Cond.privateMethod q.1 ∈ tables_1 ∧ Cond.instanceMethod q.1 ∈ tables_1
theorem lw_p0 : lw_okq (⟨"StateTables$Layers", "layBehind", "(I)Z"⟩, 10) := ⟨⟨by decide +kernel, by decide +kernel⟩, List.mem_of_getElem? (i := 78) (by decide +kernel), List.mem_of_getElem? (i := 277) (by decide +kernel), List.mem_of_getElem? (i := 278) (by decide +kernel)⟩
theorem lw_p1 : lw_okq (⟨"StateTables$Layers", "growTo", "(I)V"⟩, 10) := ⟨⟨by decide +kernel, by decide +kernel⟩, List.mem_of_getElem? (i := 78) (by decide +kernel), List.mem_of_getElem? (i := 288) (by decide +kernel), List.mem_of_getElem? (i := 289) (by decide +kernel)⟩
theorem lw_p2 : lw_okq (⟨"StateTables$Layers", "findKeysBehind", "(II)V"⟩, 10) := ⟨⟨by decide +kernel, by decide +kernel⟩, List.mem_of_getElem? (i := 78) (by decide +kernel), List.mem_of_getElem? (i := 317) (by decide +kernel), List.mem_of_getElem? (i := 318) (by decide +kernel)⟩
theorem lw_p3 : lw_okq (⟨"StateTables$Layers", "skipUnfollowed", "(II)V"⟩, 10) := ⟨⟨by decide +kernel, by decide +kernel⟩, List.mem_of_getElem? (i := 78) (by decide +kernel), List.mem_of_getElem? (i := 335) (by decide +kernel), List.mem_of_getElem? (i := 336) (by decide +kernel)⟩
theorem lw_p4 : lw_okq (⟨"StateTables$Layers", "choiceWithLeastKey", "(I)I"⟩, 10) := ⟨⟨by decide +kernel, by decide +kernel⟩, List.mem_of_getElem? (i := 78) (by decide +kernel), List.mem_of_getElem? (i := 343) (by decide +kernel), List.mem_of_getElem? (i := 344) (by decide +kernel)⟩
theorem lw_p5 : lw_okq (⟨"StateTables$Layers", "addNode", "(II)V"⟩, 10) := ⟨⟨by decide +kernel, by decide +kernel⟩, List.mem_of_getElem? (i := 78) (by decide +kernel), List.mem_of_getElem? (i := 347) (by decide +kernel), List.mem_of_getElem? (i := 348) (by decide +kernel)⟩
theorem lw_p6 : lw_okq (⟨"StateTables$Layers", "lookBackFrom", "(II)V"⟩, 10) := ⟨⟨by decide +kernel, by decide +kernel⟩, List.mem_of_getElem? (i := 78) (by decide +kernel), List.mem_of_getElem? (i := 359) (by decide +kernel), List.mem_of_getElem? (i := 360) (by decide +kernel)⟩
theorem lw_p7 : lw_okq (⟨"StateTables$FirstPlans", "lengthenAll", "(I)V"⟩, 8) := ⟨⟨by decide +kernel, by decide +kernel⟩, List.mem_of_getElem? (i := 124) (by decide +kernel), List.mem_of_getElem? (i := 367) (by decide +kernel), List.mem_of_getElem? (i := 368) (by decide +kernel)⟩
theorem lw_p8 : lw_okq (⟨"StateTables$FirstPlans", "lengthen", "(III)V"⟩, 8) := ⟨⟨by decide +kernel, by decide +kernel⟩, List.mem_of_getElem? (i := 124) (by decide +kernel), List.mem_of_getElem? (i := 371) (by decide +kernel), List.mem_of_getElem? (i := 372) (by decide +kernel)⟩
theorem lw_p9 : lw_okq (⟨"StateTables$FirstPlans", "keepIfAmongFirst", "(JI)V"⟩, 8) := ⟨⟨by decide +kernel, by decide +kernel⟩, List.mem_of_getElem? (i := 124) (by decide +kernel), List.mem_of_getElem? (i := 380) (by decide +kernel), List.mem_of_getElem? (i := 381) (by decide +kernel)⟩
theorem lw_p10 : lw_okq (⟨"StateTables$Layers", "isAsGood", "(II)Z"⟩, 10) := ⟨⟨by decide +kernel, by decide +kernel⟩, List.mem_of_getElem? (i := 78) (by decide +kernel), List.mem_of_getElem? (i := 449) (by decide +kernel), List.mem_of_getElem? (i := 450) (by decide +kernel)⟩
theorem lw_p11 : lw_okq (⟨"StateTables$Layers", "isAsGoodOf", "(III)Z"⟩, 10) := ⟨⟨by decide +kernel, by decide +kernel⟩, List.mem_of_getElem? (i := 78) (by decide +kernel), List.mem_of_getElem? (i := 453) (by decide +kernel), List.mem_of_getElem? (i := 454) (by decide +kernel)⟩
theorem lw_p12 : lw_okq (⟨"StateTables$NarrowLayers", "layBehind", "(I)V"⟩, 8) := ⟨⟨by decide +kernel, by decide +kernel⟩, List.mem_of_getElem? (i := 156) (by decide +kernel), List.mem_of_getElem? (i := 474) (by decide +kernel), List.mem_of_getElem? (i := 475) (by decide +kernel)⟩
theorem lw_p13 : lw_okq (⟨"StateTables$NarrowLayers", "follow", "(JII)V"⟩, 8) := ⟨⟨by decide +kernel, by decide +kernel⟩, List.mem_of_getElem? (i := 156) (by decide +kernel), List.mem_of_getElem? (i := 478) (by decide +kernel), List.mem_of_getElem? (i := 479) (by decide +kernel)⟩
theorem lw_p14 : lw_okq (⟨"StateTables$NarrowLayers", "uniteAlike", "()V"⟩, 8) := ⟨⟨by decide +kernel, by decide +kernel⟩, List.mem_of_getElem? (i := 156) (by decide +kernel), List.mem_of_getElem? (i := 503) (by decide +kernel), List.mem_of_getElem? (i := 504) (by decide +kernel)⟩
theorem lw_p15 : lw_okq (⟨"StateTables$NarrowLayers", "cutTo", "(IZ)V"⟩, 8) := ⟨⟨by decide +kernel, by decide +kernel⟩, List.mem_of_getElem? (i := 156) (by decide +kernel), List.mem_of_getElem? (i := 518) (by decide +kernel), List.mem_of_getElem? (i := 519) (by decide +kernel)⟩
def lw_privs_1 : List (MethodName × Nat) := [(⟨"StateTables$Layers", "layBehind", "(I)Z"⟩, 10), (⟨"StateTables$Layers", "growTo", "(I)V"⟩, 10), (⟨"StateTables$Layers", "findKeysBehind", "(II)V"⟩, 10), (⟨"StateTables$Layers", "skipUnfollowed", "(II)V"⟩, 10), (⟨"StateTables$Layers", "choiceWithLeastKey", "(I)I"⟩, 10), (⟨"StateTables$Layers", "addNode", "(II)V"⟩, 10), (⟨"StateTables$Layers", "lookBackFrom", "(II)V"⟩, 10), (⟨"StateTables$FirstPlans", "lengthenAll", "(I)V"⟩, 8), (⟨"StateTables$FirstPlans", "lengthen", "(III)V"⟩, 8), (⟨"StateTables$FirstPlans", "keepIfAmongFirst", "(JI)V"⟩, 8), (⟨"StateTables$Layers", "isAsGood", "(II)Z"⟩, 10), (⟨"StateTables$Layers", "isAsGoodOf", "(III)Z"⟩, 10), (⟨"StateTables$NarrowLayers", "layBehind", "(I)V"⟩, 8), (⟨"StateTables$NarrowLayers", "follow", "(JII)V"⟩, 8), (⟨"StateTables$NarrowLayers", "uniteAlike", "()V"⟩, 8), (⟨"StateTables$NarrowLayers", "cutTo", "(IZ)V"⟩, 8)]
theorem lw_r1 : ∀ q ∈ lw_privs_1, lw_okq q := List.forall_mem_cons.mpr ⟨lw_p0, List.forall_mem_cons.mpr ⟨lw_p1, List.forall_mem_cons.mpr ⟨lw_p2, List.forall_mem_cons.mpr ⟨lw_p3, List.forall_mem_cons.mpr ⟨lw_p4, List.forall_mem_cons.mpr ⟨lw_p5, List.forall_mem_cons.mpr ⟨lw_p6, List.forall_mem_cons.mpr ⟨lw_p7, List.forall_mem_cons.mpr ⟨lw_p8, List.forall_mem_cons.mpr ⟨lw_p9, List.forall_mem_cons.mpr ⟨lw_p10, List.forall_mem_cons.mpr ⟨lw_p11, List.forall_mem_cons.mpr ⟨lw_p12, List.forall_mem_cons.mpr ⟨lw_p13, List.forall_mem_cons.mpr ⟨lw_p14, List.forall_mem_cons.mpr ⟨lw_p15, fun _ h => absurd h List.not_mem_nil⟩⟩⟩⟩⟩⟩⟩⟩⟩⟩⟩⟩⟩⟩⟩⟩
theorem lw_p16 : lw_okq (⟨"StateTables$NarrowLayers", "uniteFrom", "(I)J"⟩, 8) := ⟨⟨by decide +kernel, by decide +kernel⟩, List.mem_of_getElem? (i := 156) (by decide +kernel), List.mem_of_getElem? (i := 522) (by decide +kernel), List.mem_of_getElem? (i := 523) (by decide +kernel)⟩
theorem lw_p17 : lw_okq (⟨"StateTables$NarrowLayers", "leastCostOfEnough", "()I"⟩, 8) := ⟨⟨by decide +kernel, by decide +kernel⟩, List.mem_of_getElem? (i := 156) (by decide +kernel), List.mem_of_getElem? (i := 526) (by decide +kernel), List.mem_of_getElem? (i := 527) (by decide +kernel)⟩
theorem lw_p18 : lw_okq (⟨"StateTablesModel", "noChoice", "(II)Z"⟩, 36) := ⟨⟨by decide +kernel, by decide +kernel⟩, List.mem_of_getElem? (i := 540) (by decide +kernel), List.mem_of_getElem? (i := 674) (by decide +kernel), List.mem_of_getElem? (i := 675) (by decide +kernel)⟩
theorem lw_p19 : lw_okq (⟨"StateTablesModel", "pair", "(III)I"⟩, 36) := ⟨⟨by decide +kernel, by decide +kernel⟩, List.mem_of_getElem? (i := 540) (by decide +kernel), List.mem_of_getElem? (i := 686) (by decide +kernel), List.mem_of_getElem? (i := 687) (by decide +kernel)⟩
theorem lw_p20 : lw_okq (⟨"StateTablesModel", "settle", "(I)Z"⟩, 36) := ⟨⟨by decide +kernel, by decide +kernel⟩, List.mem_of_getElem? (i := 540) (by decide +kernel), List.mem_of_getElem? (i := 698) (by decide +kernel), List.mem_of_getElem? (i := 699) (by decide +kernel)⟩
theorem lw_p21 : lw_okq (⟨"StateTablesModel", "next", "(II)I"⟩, 36) := ⟨⟨by decide +kernel, by decide +kernel⟩, List.mem_of_getElem? (i := 540) (by decide +kernel), List.mem_of_getElem? (i := 702) (by decide +kernel), List.mem_of_getElem? (i := 703) (by decide +kernel)⟩
theorem lw_p22 : lw_okq (⟨"StateTablesModel", "goBack", "()V"⟩, 36) := ⟨⟨by decide +kernel, by decide +kernel⟩, List.mem_of_getElem? (i := 540) (by decide +kernel), List.mem_of_getElem? (i := 716) (by decide +kernel), List.mem_of_getElem? (i := 717) (by decide +kernel)⟩
theorem lw_p23 : lw_okq (⟨"StateTablesModel", "findPlans", "()V"⟩, 36) := ⟨⟨by decide +kernel, by decide +kernel⟩, List.mem_of_getElem? (i := 540) (by decide +kernel), List.mem_of_getElem? (i := 720) (by decide +kernel), List.mem_of_getElem? (i := 721) (by decide +kernel)⟩
theorem lw_p24 : lw_okq (⟨"StateTablesModel", "begin", "(IIJ)V"⟩, 36) := ⟨⟨by decide +kernel, by decide +kernel⟩, List.mem_of_getElem? (i := 540) (by decide +kernel), List.mem_of_getElem? (i := 724) (by decide +kernel), List.mem_of_getElem? (i := 725) (by decide +kernel)⟩
theorem lw_p25 : lw_okq (⟨"StateTablesModel", "isAhead", "(II)Z"⟩, 36) := ⟨⟨by decide +kernel, by decide +kernel⟩, List.mem_of_getElem? (i := 540) (by decide +kernel), List.mem_of_getElem? (i := 728) (by decide +kernel), List.mem_of_getElem? (i := 729) (by decide +kernel)⟩
theorem lw_p26 : lw_okq (⟨"StateTablesModel", "noNode", "(II)Z"⟩, 36) := ⟨⟨by decide +kernel, by decide +kernel⟩, List.mem_of_getElem? (i := 540) (by decide +kernel), List.mem_of_getElem? (i := 759) (by decide +kernel), List.mem_of_getElem? (i := 760) (by decide +kernel)⟩
theorem lw_p27 : lw_okq (⟨"StateTablesModel", "dominates", "(II)Z"⟩, 36) := ⟨⟨by decide +kernel, by decide +kernel⟩, List.mem_of_getElem? (i := 540) (by decide +kernel), List.mem_of_getElem? (i := 772) (by decide +kernel), List.mem_of_getElem? (i := 773) (by decide +kernel)⟩
theorem lw_p28 : lw_okq (⟨"StateTablesModel", "mayFollow", "(III)Z"⟩, 36) := ⟨⟨by decide +kernel, by decide +kernel⟩, List.mem_of_getElem? (i := 540) (by decide +kernel), List.mem_of_getElem? (i := 784) (by decide +kernel), List.mem_of_getElem? (i := 785) (by decide +kernel)⟩
theorem lw_p29 : lw_okq (⟨"StateTablesModel", "follow", "(IIII)V"⟩, 36) := ⟨⟨by decide +kernel, by decide +kernel⟩, List.mem_of_getElem? (i := 540) (by decide +kernel), List.mem_of_getElem? (i := 788) (by decide +kernel), List.mem_of_getElem? (i := 789) (by decide +kernel)⟩
theorem lw_p30 : lw_okq (⟨"StateTablesModel", "isOne", "(II)Z"⟩, 36) := ⟨⟨by decide +kernel, by decide +kernel⟩, List.mem_of_getElem? (i := 540) (by decide +kernel), List.mem_of_getElem? (i := 792) (by decide +kernel), List.mem_of_getElem? (i := 793) (by decide +kernel)⟩
theorem lw_p31 : lw_okq (⟨"StateTablesModel", "move", "(II)V"⟩, 36) := ⟨⟨by decide +kernel, by decide +kernel⟩, List.mem_of_getElem? (i := 540) (by decide +kernel), List.mem_of_getElem? (i := 796) (by decide +kernel), List.mem_of_getElem? (i := 797) (by decide +kernel)⟩
def lw_privs_2 : List (MethodName × Nat) := [(⟨"StateTables$NarrowLayers", "uniteFrom", "(I)J"⟩, 8), (⟨"StateTables$NarrowLayers", "leastCostOfEnough", "()I"⟩, 8), (⟨"StateTablesModel", "noChoice", "(II)Z"⟩, 36), (⟨"StateTablesModel", "pair", "(III)I"⟩, 36), (⟨"StateTablesModel", "settle", "(I)Z"⟩, 36), (⟨"StateTablesModel", "next", "(II)I"⟩, 36), (⟨"StateTablesModel", "goBack", "()V"⟩, 36), (⟨"StateTablesModel", "findPlans", "()V"⟩, 36), (⟨"StateTablesModel", "begin", "(IIJ)V"⟩, 36), (⟨"StateTablesModel", "isAhead", "(II)Z"⟩, 36), (⟨"StateTablesModel", "noNode", "(II)Z"⟩, 36), (⟨"StateTablesModel", "dominates", "(II)Z"⟩, 36), (⟨"StateTablesModel", "mayFollow", "(III)Z"⟩, 36), (⟨"StateTablesModel", "follow", "(IIII)V"⟩, 36), (⟨"StateTablesModel", "isOne", "(II)Z"⟩, 36), (⟨"StateTablesModel", "move", "(II)V"⟩, 36)]
theorem lw_r2 : ∀ q ∈ lw_privs_2, lw_okq q := List.forall_mem_cons.mpr ⟨lw_p16, List.forall_mem_cons.mpr ⟨lw_p17, List.forall_mem_cons.mpr ⟨lw_p18, List.forall_mem_cons.mpr ⟨lw_p19, List.forall_mem_cons.mpr ⟨lw_p20, List.forall_mem_cons.mpr ⟨lw_p21, List.forall_mem_cons.mpr ⟨lw_p22, List.forall_mem_cons.mpr ⟨lw_p23, List.forall_mem_cons.mpr ⟨lw_p24, List.forall_mem_cons.mpr ⟨lw_p25, List.forall_mem_cons.mpr ⟨lw_p26, List.forall_mem_cons.mpr ⟨lw_p27, List.forall_mem_cons.mpr ⟨lw_p28, List.forall_mem_cons.mpr ⟨lw_p29, List.forall_mem_cons.mpr ⟨lw_p30, List.forall_mem_cons.mpr ⟨lw_p31, fun _ h => absurd h List.not_mem_nil⟩⟩⟩⟩⟩⟩⟩⟩⟩⟩⟩⟩⟩⟩⟩⟩
theorem lw_p32 : lw_okq (⟨"StateTablesModel", "sort", "()V"⟩, 36) := ⟨⟨by decide +kernel, by decide +kernel⟩, List.mem_of_getElem? (i := 540) (by decide +kernel), List.mem_of_getElem? (i := 800) (by decide +kernel), List.mem_of_getElem? (i := 801) (by decide +kernel)⟩
theorem lw_p33 : lw_okq (⟨"StateTablesModel", "order", "(II)I"⟩, 36) := ⟨⟨by decide +kernel, by decide +kernel⟩, List.mem_of_getElem? (i := 540) (by decide +kernel), List.mem_of_getElem? (i := 804) (by decide +kernel), List.mem_of_getElem? (i := 805) (by decide +kernel)⟩
theorem lw_p34 : lw_okq (⟨"StateTablesModel", "join", "(I)V"⟩, 36) := ⟨⟨by decide +kernel, by decide +kernel⟩, List.mem_of_getElem? (i := 540) (by decide +kernel), List.mem_of_getElem? (i := 808) (by decide +kernel), List.mem_of_getElem? (i := 809) (by decide +kernel)⟩
def lw_privs_3 : List (MethodName × Nat) := [(⟨"StateTablesModel", "sort", "()V"⟩, 36), (⟨"StateTablesModel", "order", "(II)I"⟩, 36), (⟨"StateTablesModel", "join", "(I)V"⟩, 36)]
theorem lw_r3 : ∀ q ∈ lw_privs_3, lw_okq q := List.forall_mem_cons.mpr ⟨lw_p32, List.forall_mem_cons.mpr ⟨lw_p33, List.forall_mem_cons.mpr ⟨lw_p34, fun _ h => absurd h List.not_mem_nil⟩⟩⟩
def lw_privs : List (MethodName × Nat) := lw_privs_1 ++ (lw_privs_2 ++ (lw_privs_3))
def lw_tbl : List Cond := k2_sels lw_privs ++ tables_1
theorem lw_privs_ok : ∀ q ∈ lw_privs, lw_okq q := by
  show ∀ q ∈ lw_privs_1 ++ (lw_privs_2 ++ (lw_privs_3)), lw_okq q
  exact List.forall_mem_append.mpr ⟨lw_r1, List.forall_mem_append.mpr ⟨lw_r2, lw_r3⟩⟩
end
section
/-! BASE: whole numbers behind int and long; a walk's goal over the symbolic world alone -/
def iI (z : Int) : Int32 := Int32.ofInt z
def lI (z : Int) : Int64 := Int64.ofInt z
abbrev rI (z : Int) : Prop := -2147483648 ≤ z ∧ z < 2147483648
abbrev rL (z : Int) : Prop := -9223372036854775808 ≤ z ∧ z < 9223372036854775808
theorem iI_toInt {z : Int} (h : rI z) : (iI z).toInt = z := Int32.toInt_ofInt_of_le (by omega) (by omega)
theorem lI_toInt {z : Int} (h : rL z) : (lI z).toInt = z := Int64.toInt_ofInt_of_le (by omega) (by omega)
theorem iI_of (x : Int32) : x = iI x.toInt := (Int32.ofInt_toInt x).symm
theorem iI_ex (x : Int32) : ∃ z : Int, rI z ∧ x = iI z := ⟨x.toInt, ⟨Int32.le_toInt x, Int32.toInt_lt x⟩, iI_of x⟩
theorem iI_add (a b : Int) : iI a + iI b = iI (a + b) := (Int32.ofInt_add a b).symm
theorem iI_sub (a b : Int) : iI a - iI b = iI (a - b) := (Int32.ofInt_sub a b).symm
theorem iI_mul (a b : Int) : iI a * iI b = iI (a * b) := (Int32.ofInt_mul a b).symm
theorem lI_add (a b : Int) : lI a + lI b = lI (a + b) := (Int64.ofInt_add a b).symm
theorem lI_sub (a b : Int) : lI a - lI b = lI (a - b) := (Int64.ofInt_sub a b).symm
theorem lI_mul (a b : Int) : lI a * lI b = lI (a * b) := (Int64.ofInt_mul a b).symm
theorem iI_lt {a b : Int} (ha : rI a) (hb : rI b) : iI a < iI b ↔ a < b := by
  rw [Int32.lt_iff_toInt_lt, iI_toInt ha, iI_toInt hb]
theorem iI_le {a b : Int} (ha : rI a) (hb : rI b) : iI a ≤ iI b ↔ a ≤ b := by
  rw [Int32.le_iff_toInt_le, iI_toInt ha, iI_toInt hb]
theorem iI_eq {a b : Int} (ha : rI a) (hb : rI b) : iI a = iI b ↔ a = b := by
  refine ⟨fun h => ?_, fun h => by rw [h]⟩
  have h1 := congrArg Int32.toInt h
  rwa [iI_toInt ha, iI_toInt hb] at h1
theorem lI_lt {a b : Int} (ha : rL a) (hb : rL b) : lI a < lI b ↔ a < b := by
  rw [Int64.lt_iff_toInt_lt, lI_toInt ha, lI_toInt hb]
theorem lI_le {a b : Int} (ha : rL a) (hb : rL b) : lI a ≤ lI b ↔ a ≤ b := by
  rw [Int64.le_iff_toInt_le, lI_toInt ha, lI_toInt hb]
theorem lI_eq {a b : Int} (ha : rL a) (hb : rL b) : lI a = lI b ↔ a = b := by
  refine ⟨fun h => ?_, fun h => by rw [h]⟩
  have h1 := congrArg Int64.toInt h
  rwa [lI_toInt ha, lI_toInt hb] at h1
theorem iI_0 : iI 0 = 0 := rfl
theorem iI_cl {a : Int} (h0 : 0 ≤ a) (h : a < 2147483648) : (iI a).toNatClampNeg = a.toNat := Int32.toNatClampNeg_ofInt_of_le (by omega) (by omega)
theorem iI_in {a : Int} {n : Nat} (h0 : 0 ≤ a) (h1 : a < n) (hn : (n : Int) ≤ 2147483647) : vp_in (iI a) n := by
  rw [vp_in_iff, iI_toInt (by constructor <;> omega)]
  exact ⟨h0, h1⟩
/-- a truth as a number -/
noncomputable def bI (P : Prop) : Int := @ite Int P (Classical.propDecidable P) 1 0
theorem bI_t {P : Prop} (h : P) : bI P = 1 := by unfold bI; exact if_pos h
theorem bI_f {P : Prop} (h : ¬ P) : bI P = 0 := by unfold bI; exact if_neg h
theorem bI_0 {P : Prop} : bI P = 0 ↔ ¬ P := by
  by_cases h : P
  · rw [bI_t h]; exact ⟨fun q => by omega, fun q => absurd h q⟩
  · rw [bI_f h]; exact ⟨fun _ => h, fun _ => rfl⟩
theorem bI_c (P : Prop) : bI P = 0 ∨ bI P = 1 := by
  by_cases h : P
  · exact Or.inr (bI_t h)
  · exact Or.inl (bI_f h)
theorem bI_iff {P P' : Prop} (h : P ↔ P') : bI P = bI P' := by
  by_cases q : P
  · rw [bI_t q, bI_t (h.mp q)]
  · rw [bI_f q, bI_f (fun z => q (h.mpr z))]
/-- arrays of whole numbers, as functions of whole numbers -/
def aI (n : Nat) (f : Int → Int) : vp_A := (n, .inl (fun j : Nat => iI (f (j : Int))))
def aL (n : Nat) (f : Int → Int) : vp_A := (n, .inr (.inl (fun j : Nat => lI (f (j : Int)))))
def uZ (f : Int → Int) (k x : Int) : Int → Int := fun j => if j = k then x else f j
theorem uZ_s {f : Int → Int} {k x : Int} : uZ f k x k = x := by unfold uZ; exact if_pos rfl
theorem uZ_n {f : Int → Int} {k x j : Int} (h : j ≠ k) : uZ f k x j = f j := by unfold uZ; exact if_neg h
theorem upd_iI {f : Int → Int} {i x : Int} (h0 : 0 ≤ i) (h1 : i < 2147483648) : upd (fun j : Nat => iI (f (j : Int))) (iI i).toNatClampNeg (iI x) = fun j : Nat => iI (uZ f i x (j : Int)) := by
  funext j
  rw [iI_cl h0 h1]
  unfold upd uZ
  by_cases h : j = i.toNat
  · rw [if_pos h, if_pos (by omega)]
  · rw [if_neg h, if_neg (by omega)]
theorem upd_lI {f : Int → Int} {i x : Int} (h0 : 0 ≤ i) (h1 : i < 2147483648) : vp_updL (fun j : Nat => lI (f (j : Int))) (iI i).toNatClampNeg (lI x) = fun j : Nat => lI (uZ f i x (j : Int)) := by
  funext j
  rw [iI_cl h0 h1]
  unfold vp_updL uZ
  by_cases h : j = i.toNat
  · rw [if_pos h, if_pos (by omega)]
  · rw [if_neg h, if_neg (by omega)]
theorem iI_sh : ∀ n : Nat, n < 32 → ((nI n &&& 31).toBitVec.smod 32).toNat = n := by decide +kernel
theorem iI_nat (n : Nat) : iI (n : Int) = nI n := Int32.ofInt_eq_ofNat
theorem iI_shr {a k : Int} (ha : rI a) (h0 : 0 ≤ k) (h1 : k < 32) : iI a >>> (iI k &&& 31) = iI (a / 2 ^ k.toNat) := by
  obtain ⟨n, rfl⟩ : ∃ n : Nat, k = (n : Int) := ⟨k.toNat, by omega⟩
  rw [iI_nat]
  apply Int32.toInt_inj.mp
  rw [pk_shr _ _ n (iI_sh n (by omega)), iI_toInt ha, Int.shiftRight_eq_div_pow]
  have hp : (0 : Int) < 2 ^ n := Int.pow_pos (by omega)
  have hd : a / ((2 ^ n : Nat) : Int) = a / 2 ^ n := by rw [Int.natCast_pow]; rfl
  have h2 : rI (a / 2 ^ n) := by
    constructor
    · apply Int.le_ediv_of_mul_le hp
      have : (1 : Int) ≤ 2 ^ n := by omega
      by_cases q : 0 ≤ a
      · have : (-2147483648 : Int) * 2 ^ n ≤ 0 := Int.mul_nonpos_of_nonpos_of_nonneg (by omega) (by omega)
        omega
      · have : (-2147483648 : Int) * 2 ^ n ≤ (-2147483648) * 1 := Int.mul_le_mul_of_nonpos_left (by omega) this
        omega
    · by_cases q : 0 ≤ a
      · exact Int.lt_of_le_of_lt (Int.ediv_le_self _ q) ha.2
      · have : a / 2 ^ n < 0 := Int.ediv_neg_of_neg_of_pos (by omega) hp
        omega
  rw [Int.toNat_natCast]
  rw [hd, iI_toInt h2]
theorem iI_bv (a : Int) : (iI a).toBitVec.toNat = (a % 4294967296).toNat := by
  show (BitVec.ofInt 32 a).toNat = _
  rw [BitVec.toNat_ofInt]
  rfl
theorem iI_mod {a b : Int} (h : a % 4294967296 = b % 4294967296) : iI a = iI b := by
  apply Int32.toBitVec_inj.mp
  apply BitVec.eq_of_toNat_eq
  rw [iI_bv, iI_bv, h]
theorem iI_shl {a k : Int} (h0 : 0 ≤ k) (h1 : k < 32) : iI a <<< (iI k &&& 31) = iI (a * 2 ^ k.toNat) := by
  obtain ⟨n, rfl⟩ : ∃ n : Nat, k = (n : Int) := ⟨k.toNat, by omega⟩
  rw [iI_nat, Int.toNat_natCast]
  apply Int32.toBitVec_inj.mp
  apply BitVec.eq_of_toNat_eq
  rw [pk_shl _ _ n (iI_sh n (by omega)), iI_bv, iI_bv]
  apply Int.ofNat.inj
  show (((a % 4294967296).toNat * 2 ^ n % 2 ^ 32 : Nat) : Int) = ((a * 2 ^ n % 4294967296).toNat : Int)
  rw [Int.natCast_emod, Int.natCast_mul, Int.natCast_pow, Int.toNat_of_nonneg (Int.emod_nonneg _ (by omega)), Int.toNat_of_nonneg (Int.emod_nonneg _ (by omega))]
  show a % 4294967296 * 2 ^ n % 4294967296 = a * 2 ^ n % 4294967296
  rw [Int.mul_emod, Int.emod_emod_of_dvd _ (Int.dvd_refl _), ← Int.mul_emod]
theorem iI_and {a : Int} (k : Nat) (hk : k ≤ 30) {z : Int} (hz : z = 2 ^ k - 1) : iI a &&& iI z = iI (a % 2 ^ k) := by
  have hp : ∀ k : Nat, k ≤ 30 → (iI ((2 : Int) ^ k - 1)).toBitVec.toNat = 2 ^ k - 1 := by decide +kernel
  subst hz
  rw [pk_and _ k (hp k hk), iI_bv, ← iI_nat]
  congr 1
  rw [Int.natCast_emod, Int.toNat_of_nonneg (Int.emod_nonneg _ (by omega)), Int.natCast_pow]
  apply Int.emod_emod_of_dvd
  refine ⟨2 ^ (32 - k), ?_⟩
  show (4294967296 : Int) = 2 ^ k * 2 ^ (32 - k)
  rw [← Int.pow_add, show k + (32 - k) = 32 by omega]
  rfl
theorem iI_or {a b : Int} (k : Nat) (q : Int) (ha : a = q * 2 ^ k) (h0 : 0 ≤ q) (hb0 : 0 ≤ b) (hb : b < 2 ^ k) (hs : a + b < 4294967296) : iI a ||| iI b = iI (a + b) := by
  obtain ⟨n, rfl⟩ : ∃ n : Nat, q = (n : Int) := ⟨q.toNat, by omega⟩
  obtain ⟨w, rfl⟩ : ∃ w : Nat, b = (w : Int) := ⟨b.toNat, by omega⟩
  have ha2 : a = ((n * 2 ^ k : Nat) : Int) := by rw [ha, Int.natCast_mul, Int.natCast_pow]; rfl
  have hw : w < 2 ^ k := by
    have : ((w : Nat) : Int) < ((2 ^ k : Nat) : Int) := by rw [Int.natCast_pow]; exact hb
    omega
  rw [ha2] at hs ⊢
  apply Int32.toBitVec_inj.mp
  apply BitVec.eq_of_toNat_eq
  rw [Int32.toBitVec_or, BitVec.toNat_or, iI_bv, iI_bv, iI_bv]
  rw [Int.emod_eq_of_lt (by omega) (by omega), Int.emod_eq_of_lt (by omega) (by omega), Int.emod_eq_of_lt (by omega) (by omega)]
  show (n * 2 ^ k) ||| w = ((n * 2 ^ k : Nat) + (w : Nat) : Nat)
  rw [Nat.mul_comm]
  exact (Nat.two_pow_add_eq_or_of_lt hw n).symm
theorem iI_andK {a z d : Int} (k : Nat) (hk : k ≤ 30) (hd : (2 : Int) ^ k = d) (hz : z = d - 1) : iI a &&& iI z = iI (a % d) := by
  rw [iI_and k hk (by rw [hd]; exact hz), hd]
theorem iI_orK {a b q d : Int} (k : Nat) (hk : (2 : Int) ^ k = d) (ha : a = q * d) (h0 : 0 ≤ q) (hb0 : 0 ≤ b) (hb : b < d) (hs : a + b < 4294967296) : iI a ||| iI b = iI (a + b) :=
  iI_or k q (by rw [hk]; exact ha) h0 hb0 (by rw [hk]; exact hb) hs
theorem x01 (t : Int) : iI (t % 2) ^^^ iI 1 = iI (1 - t % 2) := by
  rcases Int.emod_two_eq t with h | h <;> rw [h] <;> decide
theorem x00 (t : Int) : iI t ^^^ iI 0 = iI t := by
  rw [show iI 0 = 0 from rfl]; exact Int32.xor_zero
theorem xbit1_n : ∀ n : Nat, n < 64 → ∀ k : Nat, k < 6 → iI (n : Int) ^^^ iI ((1 - (n : Int) / 2 ^ k % 2) * 2 ^ k) = iI ((n : Int) + (1 - (n : Int) / 2 ^ k % 2) * 2 ^ k) := by decide +kernel
theorem xbit0_n : ∀ n : Nat, n < 64 → ∀ k : Nat, k < 6 → iI (n : Int) ^^^ iI ((n : Int) / 2 ^ k % 2 * 2 ^ k) = iI ((n : Int) + (0 - (n : Int) / 2 ^ k % 2) * 2 ^ k) := by decide +kernel
theorem xbit1 {m x : Int} (h0 : 0 ≤ m) (h1 : m < 64) (h2 : 0 ≤ x) (h3 : x < 6) : iI m ^^^ iI ((1 - m / 2 ^ x.toNat % 2) * 2 ^ x.toNat) = iI (m + (1 - m / 2 ^ x.toNat % 2) * 2 ^ x.toNat) := by
  obtain ⟨n, rfl⟩ : ∃ n : Nat, m = (n : Int) := ⟨m.toNat, by omega⟩
  exact xbit1_n n (by omega) x.toNat (by omega)
theorem xbit0 {m x : Int} (h0 : 0 ≤ m) (h1 : m < 64) (h2 : 0 ≤ x) (h3 : x < 6) : iI m ^^^ iI (m / 2 ^ x.toNat % 2 * 2 ^ x.toNat) = iI (m + (0 - m / 2 ^ x.toNat % 2) * 2 ^ x.toNat) := by
  obtain ⟨n, rfl⟩ : ∃ n : Nat, m = (n : Int) := ⟨m.toNat, by omega⟩
  exact xbit0_n n (by omega) x.toNat (by omega)
theorem z_nat (z : Int) : ∃ n : Nat, z < (n : Int) := ⟨(z + 1).toNat, by omega⟩
theorem z_bI (P : Prop) : narrow .boolean (.int (iI (bI P))) = .int (iI (bI P)) := by
  rcases bI_c P with h | h <;> rw [h] <;> decide
/-- the walk's goal -/
def G (p : Program) (l : Launch) (e : Env) (R : Room) (s : State) (m : MethodId) (args : Array Value) (below : List Frame) (meth : Method) (c : Code) (D : va_G) (cl : List vw_C) (nL : Nat) (A : Nat → Prop) (cells slots : Nat) (Q : State → Prop) (ws : va_W) (pc : Nat) (lv : List (Nat × Value)) (st : List Value) : Prop :=
  ∀ (H : Heap) (locs : List Loc) (ls : Array Slot), va_P D cl ws H → va_D A ws → va_S A s.heap H locs → lv_has ls nL lv → W p l e R s m args below meth c H locs cells slots Q (F0 m pc ls st)
def NWok (nw : List Cond) : Prop := ∀ w ∈ nw, w.onTables = true ∧ ∀ (s U : State), s.WarmedH U.vm → va_Nw w s → va_Nw w U
theorem NWok.nil : NWok [] := fun w h => absurd h List.not_mem_nil
theorem NWok.consM {nw : List Cond} {a : String} {i : Nat} {x : MethodName} {h : String} (k : NWok nw) : NWok (.methodLinkNest a i x h :: nw) := fun w q => by
  rcases List.mem_cons.mp q with q | q
  · subst q; exact ⟨rfl, fun _ _ hW hZ => va_Nw.warmM hW hZ⟩
  · exact k w q
theorem NWok.consF {nw : List Cond} {a : String} {i : Nat} {b n d h : String} (k : NWok nw) : NWok (.fieldLinkNest a i b n d h :: nw) := fun w q => by
  rcases List.mem_cons.mp q with q | q
  · subst q; exact ⟨rfl, fun _ _ hW hZ => va_Nw.warmF hW hZ⟩
  · exact k w q
def CX (p : Program) (s : State) (m : MethodId) (args : Array Value) (meth : Method) (c : Code) (D : va_G) (cl : List vw_C) (tys : List (ClassId × FieldType)) (nw : List Cond) (cc : ByteArray) (nL : Nat) (Ts : List Cond) (own : String) (A : Nat → Prop) : Prop :=
  p.tables.exec = Jvm.exec ∧ c.code = cc ∧ c.maxLocals = nL ∧ s.vm.findClass own = some m.cls ∧ (∀ w ∈ Ts, w.before args s = true) ∧ va_K D cl tys s ∧ (∀ q, s.heap.size ≤ q → A q) ∧ meth.locks = false ∧ (∀ w ∈ nw, va_Nw w s) ∧ NWok nw
def zPre (D : va_G) (cl : List vw_C) (tys : List (ClassId × FieldType)) (nw : List Cond) (W0 : va_W) (sz : Nat) : State → Prop := fun U => U.heap.size = sz ∧ va_P D cl W0 U.heap ∧ va_K D cl tys U ∧ va_D (fun _ => True) W0 ∧ (∀ w ∈ nw, va_Nw w U) ∧ NWok nw
def zPost {S : Type} (D : va_G) (cl : List vw_C) (tys : List (ClassId × FieldType)) (W0 : va_W) (sz : Nat) (w1 : S → va_W) : S → State → Prop := fun u t => va_P D cl (w1 u) t.heap ∧ va_K D cl tys t ∧ va_D (va_A W0 sz) (w1 u)
section ROWS
variable {p : Program} {l : Launch} {e : Env} {R : Room} {s : State} {m : MethodId} {args : Array Value} {below : List Frame} {meth : Method} {c : Code} {D : va_G} {cl : List vw_C} {tys : List (ClassId × FieldType)} {nw : List Cond} {cc : ByteArray} {nL : Nat} {Ts : List Cond} {own : String} {A : Nat → Prop} {cells slots : Nat} {Q : State → Prop} {ws ws' : va_W} {pc : Nat} {lv lv' : List (Nat × Value)} {st : List Value}
theorem g_ws (h : ws = ws') (k : G p l e R s m args below meth c D cl nL A cells slots Q ws' pc lv st) : G p l e R s m args below meth c D cl nL A cells slots Q ws pc lv st := h ▸ k
theorem g_st {st' : List Value} (h : st = st') (k : G p l e R s m args below meth c D cl nL A cells slots Q ws pc lv st') : G p l e R s m args below meth c D cl nL A cells slots Q ws pc lv st := h ▸ k
theorem g_pc {pc' : Nat} (h : pc = pc') (k : G p l e R s m args below meth c D cl nL A cells slots Q ws pc' lv st) : G p l e R s m args below meth c D cl nL A cells slots Q ws pc lv st := h ▸ k
theorem g_lv (ks : List Nat) (h : lv_pick lv ks = lv') (k : G p l e R s m args below meth c D cl nL A cells slots Q ws pc lv' st) : G p l e R s m args below meth c D cl nL A cells slots Q ws pc lv st :=
  fun H locs ls hP hD hS hl => k H locs ls hP hD hS (lv_sub hl ks h)
theorem g_sub (is : List Nat) (hn : va_nd is = true) (hs : is.map (fun i => ws[i]?) = ws'.map some) (k : G p l e R s m args below meth c D cl nL A cells slots Q ws' pc lv st) : G p l e R s m args below meth c D cl nL A cells slots Q ws pc lv st :=
  fun H locs ls hP hD hS hl => k H locs ls (hP.sub is (by
    have h1 : is.filterMap (fun i => ws[i]?) = (is.map (fun i => ws[i]?)).filterMap id := by rw [List.filterMap_map]; rfl
    rw [h1, hs, List.filterMap_map]
    exact List.filterMap_some)) (hD.sub is hn hs) hS hl
theorem g_wide {k n : Nat} (h1 : cells ≤ k) (h2 : slots ≤ n) (kk : G p l e R s m args below meth c D cl nL A k n Q ws pc lv st) : G p l e R s m args below meth c D cl nL A cells slots Q ws pc lv st :=
  fun H locs ls hP hD hS hl => W.widen h1 h2 (kk H locs ls hP hD hS hl)
theorem g_iconst (C : CX p s m args meth c D cl tys nw cc nL Ts own A) {n : Int} (hd : decode cc pc = .ok (.iconst n, 1)) (k : G p l e R s m args below meth c D cl nL A cells slots Q ws (pc + 1) lv (.int (iI n) :: st)) : G p l e R s m args below meth c D cl nL A cells slots Q ws pc lv st :=
  fun H locs ls hP hD hS hl => lv_iconst C.1 C.2.1 hd rfl (k H locs ls hP hD hS hl)
theorem g_bipush (C : CX p s m args meth c D cl tys nw cc nL Ts own A) {n : Int} (hd : decode cc pc = .ok (.bipush n, 2)) (hv : (Int8.ofInt n).toInt32 = iI n) (k : G p l e R s m args below meth c D cl nL A cells slots Q ws (pc + 2) lv (.int (iI n) :: st)) : G p l e R s m args below meth c D cl nL A cells slots Q ws pc lv st :=
  fun H locs ls hP hD hS hl => lv_bipush C.1 C.2.1 hd hv (k H locs ls hP hD hS hl)
theorem g_sipush (C : CX p s m args meth c D cl tys nw cc nL Ts own A) {n : Int} (hd : decode cc pc = .ok (.sipush n, 3)) (hv : (Int16.ofInt n).toInt32 = iI n) (k : G p l e R s m args below meth c D cl nL A cells slots Q ws (pc + 3) lv (.int (iI n) :: st)) : G p l e R s m args below meth c D cl nL A cells slots Q ws pc lv st :=
  fun H locs ls hP hD hS hl => lv_sipush C.1 C.2.1 hd hv (k H locs ls hP hD hS hl)
theorem g_ldc (C : CX p s m args meth c D cl tys nw cc nL Ts own A) {index : Nat} {v : Int32} {z : Int} (hc : Jvm.Cond.constant own index v ∈ Ts) (hv : v = iI z) (hd : decode cc pc = .ok (.ldc index, 2)) (k : G p l e R s m args below meth c D cl nL A cells slots Q ws (pc + 2) lv (.int (iI z) :: st)) : G p l e R s m args below meth c D cl nL A cells slots Q ws pc lv st :=
  fun H locs ls hP hD hS hl => by subst hv; exact lv_ldc C.1 C.2.1 C.2.2.2.1 (C.2.2.2.2.1 _ hc) hd (k H locs ls hP hD hS hl)
theorem g_ldc2 (C : CX p s m args meth c D cl tys nw cc nL Ts own A) {index : Nat} {v : Int64} {z : Int} (hc : Jvm.Cond.constantLong own index v ∈ Ts) (hv : v = lI z) (hd : decode cc pc = .ok (.ldc2_w index, 3)) (k : G p l e R s m args below meth c D cl nL A cells slots Q ws (pc + 3) lv (.long (lI z) :: st)) : G p l e R s m args below meth c D cl nL A cells slots Q ws pc lv st :=
  fun H locs ls hP hD hS hl => by subst hv; exact lv_ldc2 C.1 C.2.1 C.2.2.2.1 (C.2.2.2.2.1 _ hc) hd (k H locs ls hP hD hS hl)
theorem g_lconst (C : CX p s m args meth c D cl tys nw cc nL Ts own A) {n : Fin 2} {z : Int} (hd : decode cc pc = .ok (.lconst n, 1)) (hv : Int64.ofNat (n : Nat) = lI z) (k : G p l e R s m args below meth c D cl nL A cells slots Q ws (pc + 1) lv (.long (lI z) :: st)) : G p l e R s m args below meth c D cl nL A cells slots Q ws pc lv st :=
  fun H locs ls hP hD hS hl => lv_lconst C.1 C.2.1 hd hv (k H locs ls hP hD hS hl)
theorem g_iload_n (C : CX p s m args meth c D cl tys nw cc nL Ts own A) {k : Fin 4} {x : Int32} (q : Nat) (hd : decode cc pc = .ok (.iload_n k, 1)) (hq : lv[q]? = some ((k : Nat), .int x)) (kk : G p l e R s m args below meth c D cl nL A cells slots Q ws (pc + 1) lv (.int x :: st)) : G p l e R s m args below meth c D cl nL A cells slots Q ws pc lv st :=
  fun H locs ls hP hD hS hl => lv_iload_n C.1 C.2.1 hd rfl (lv_at hl q hq) (kk H locs ls hP hD hS hl)
theorem g_iload (C : CX p s m args meth c D cl tys nw cc nL Ts own A) {i : Nat} {x : Int32} (q : Nat) (hd : decode cc pc = .ok (.iload i, 2)) (hq : lv[q]? = some (i, .int x)) (kk : G p l e R s m args below meth c D cl nL A cells slots Q ws (pc + 2) lv (.int x :: st)) : G p l e R s m args below meth c D cl nL A cells slots Q ws pc lv st :=
  fun H locs ls hP hD hS hl => lv_iload C.1 C.2.1 hd (lv_at hl q hq) (kk H locs ls hP hD hS hl)
theorem g_lload_n (C : CX p s m args meth c D cl tys nw cc nL Ts own A) {k : Fin 4} {x : Int64} (q : Nat) (hd : decode cc pc = .ok (.lload_n k, 1)) (hq : lv[q]? = some ((k : Nat), .long x)) (kk : G p l e R s m args below meth c D cl nL A cells slots Q ws (pc + 1) lv (.long x :: st)) : G p l e R s m args below meth c D cl nL A cells slots Q ws pc lv st :=
  fun H locs ls hP hD hS hl => lv_lload_n C.1 C.2.1 hd rfl (lv_at hl q hq) (kk H locs ls hP hD hS hl)
theorem g_lload (C : CX p s m args meth c D cl tys nw cc nL Ts own A) {i : Nat} {x : Int64} (q : Nat) (hd : decode cc pc = .ok (.lload i, 2)) (hq : lv[q]? = some (i, .long x)) (kk : G p l e R s m args below meth c D cl nL A cells slots Q ws (pc + 2) lv (.long x :: st)) : G p l e R s m args below meth c D cl nL A cells slots Q ws pc lv st :=
  fun H locs ls hP hD hS hl => lv_lload C.1 C.2.1 hd (lv_at hl q hq) (kk H locs ls hP hD hS hl)
theorem g_aload_n (C : CX p s m args meth c D cl tys nw cc nL Ts own A) {k : Fin 4} {x : Nat} (q : Nat) (hd : decode cc pc = .ok (.aload_n k, 1)) (hq : lv[q]? = some ((k : Nat), .ref x)) (kk : G p l e R s m args below meth c D cl nL A cells slots Q ws (pc + 1) lv (.ref x :: st)) : G p l e R s m args below meth c D cl nL A cells slots Q ws pc lv st :=
  fun H locs ls hP hD hS hl => lv_aload_n C.1 C.2.1 hd rfl (lv_at hl q hq) (kk H locs ls hP hD hS hl)
theorem g_aload (C : CX p s m args meth c D cl tys nw cc nL Ts own A) {i : Nat} {x : Nat} (q : Nat) (hd : decode cc pc = .ok (.aload i, 2)) (hq : lv[q]? = some (i, .ref x)) (kk : G p l e R s m args below meth c D cl nL A cells slots Q ws (pc + 2) lv (.ref x :: st)) : G p l e R s m args below meth c D cl nL A cells slots Q ws pc lv st :=
  fun H locs ls hP hD hS hl => lv_aload C.1 C.2.1 hd (lv_at hl q hq) (kk H locs ls hP hD hS hl)
theorem g_istore_n (C : CX p s m args meth c D cl tys nw cc nL Ts own A) {k : Fin 4} {x : Int32} (hd : decode cc pc = .ok (.istore_n k, 1)) (hn : (k : Nat) < nL) (hv : ((k : Nat), Value.int x) :: lv.filter (fun q => !(q.1 == (k : Nat)) && !(q.1 + 1 == (k : Nat) && q.2.category == 2)) = lv') (kk : G p l e R s m args below meth c D cl nL A cells slots Q ws (pc + 1) lv' st) : G p l e R s m args below meth c D cl nL A cells slots Q ws pc lv (.int x :: st) :=
  fun H locs ls hP hD hS hl => lv_istore_n C.1 C.2.1 hd rfl hl hn hv (fun ls' hl' => kk H locs ls' hP hD hS hl')
theorem g_istore (C : CX p s m args meth c D cl tys nw cc nL Ts own A) {i : Nat} {x : Int32} (hd : decode cc pc = .ok (.istore i, 2)) (hn : i < nL) (hv : (i, Value.int x) :: lv.filter (fun q => !(q.1 == i) && !(q.1 + 1 == i && q.2.category == 2)) = lv') (kk : G p l e R s m args below meth c D cl nL A cells slots Q ws (pc + 2) lv' st) : G p l e R s m args below meth c D cl nL A cells slots Q ws pc lv (.int x :: st) :=
  fun H locs ls hP hD hS hl => lv_istore C.1 C.2.1 hd hl hn hv (fun ls' hl' => kk H locs ls' hP hD hS hl')
theorem g_lstore_n (C : CX p s m args meth c D cl tys nw cc nL Ts own A) {k : Fin 4} {x : Int64} (hd : decode cc pc = .ok (.lstore_n k, 1)) (hn : (k : Nat) + 1 < nL) (hv : ((k : Nat), Value.long x) :: lv.filter (fun q => !(q.1 == (k : Nat)) && (!(q.1 == (k : Nat) + 1) && !(q.1 + 1 == (k : Nat) && q.2.category == 2))) = lv') (kk : G p l e R s m args below meth c D cl nL A cells slots Q ws (pc + 1) lv' st) : G p l e R s m args below meth c D cl nL A cells slots Q ws pc lv (.long x :: st) :=
  fun H locs ls hP hD hS hl => lv_lstore_n C.1 C.2.1 hd rfl hl hn hv (fun ls' hl' => kk H locs ls' hP hD hS hl')
theorem g_lstore (C : CX p s m args meth c D cl tys nw cc nL Ts own A) {i : Nat} {x : Int64} (hd : decode cc pc = .ok (.lstore i, 2)) (hn : i + 1 < nL) (hv : (i, Value.long x) :: lv.filter (fun q => !(q.1 == i) && (!(q.1 == i + 1) && !(q.1 + 1 == i && q.2.category == 2))) = lv') (kk : G p l e R s m args below meth c D cl nL A cells slots Q ws (pc + 2) lv' st) : G p l e R s m args below meth c D cl nL A cells slots Q ws pc lv (.long x :: st) :=
  fun H locs ls hP hD hS hl => lv_lstore C.1 C.2.1 hd hl hn hv (fun ls' hl' => kk H locs ls' hP hD hS hl')
theorem g_astore_n (C : CX p s m args meth c D cl tys nw cc nL Ts own A) {k : Fin 4} {x : Nat} (hd : decode cc pc = .ok (.astore_n k, 1)) (hn : (k : Nat) < nL) (hv : ((k : Nat), Value.ref x) :: lv.filter (fun q => !(q.1 == (k : Nat)) && !(q.1 + 1 == (k : Nat) && q.2.category == 2)) = lv') (kk : G p l e R s m args below meth c D cl nL A cells slots Q ws (pc + 1) lv' st) : G p l e R s m args below meth c D cl nL A cells slots Q ws pc lv (.ref x :: st) :=
  fun H locs ls hP hD hS hl => lv_astore_n C.1 C.2.1 hd rfl hl hn hv (fun ls' hl' => kk H locs ls' hP hD hS hl')
theorem g_astore (C : CX p s m args meth c D cl tys nw cc nL Ts own A) {i : Nat} {x : Nat} (hd : decode cc pc = .ok (.astore i, 2)) (hn : i < nL) (hv : (i, Value.ref x) :: lv.filter (fun q => !(q.1 == i) && !(q.1 + 1 == i && q.2.category == 2)) = lv') (kk : G p l e R s m args below meth c D cl nL A cells slots Q ws (pc + 2) lv' st) : G p l e R s m args below meth c D cl nL A cells slots Q ws pc lv (.ref x :: st) :=
  fun H locs ls hP hD hS hl => lv_astore C.1 C.2.1 hd hl hn hv (fun ls' hl' => kk H locs ls' hP hD hS hl')
theorem g_iinc (C : CX p s m args meth c D cl tys nw cc nL Ts own A) {i : Nat} {n x : Int} (q : Nat) (hd : decode cc pc = .ok (.iinc i n, 3)) (hq : lv[q]? = some (i, .int (iI x))) (hn : i < nL) (hv : (i, Value.int (iI (x + n))) :: lv.filter (fun q => !(q.1 == i) && !(q.1 + 1 == i && q.2.category == 2)) = lv') (kk : G p l e R s m args below meth c D cl nL A cells slots Q ws (pc + 3) lv' st) : G p l e R s m args below meth c D cl nL A cells slots Q ws pc lv st :=
  fun H locs ls hP hD hS hl => lv_iinc C.1 C.2.1 hd hl hq (iI_add x n) hn hv (fun ls' hl' => kk H locs ls' hP hD hS hl')
theorem g_iadd (C : CX p s m args meth c D cl tys nw cc nL Ts own A) {x y : Int} (hd : decode cc pc = .ok (.iadd, 1)) (k : G p l e R s m args below meth c D cl nL A cells slots Q ws (pc + 1) lv (.int (iI (x + y)) :: st)) : G p l e R s m args below meth c D cl nL A cells slots Q ws pc lv (.int (iI y) :: .int (iI x) :: st) :=
  fun H locs ls hP hD hS hl => lv_iadd C.1 C.2.1 hd (by rw [iI_add]; exact k H locs ls hP hD hS hl)
theorem g_isub (C : CX p s m args meth c D cl tys nw cc nL Ts own A) {x y : Int} (hd : decode cc pc = .ok (.isub, 1)) (k : G p l e R s m args below meth c D cl nL A cells slots Q ws (pc + 1) lv (.int (iI (x - y)) :: st)) : G p l e R s m args below meth c D cl nL A cells slots Q ws pc lv (.int (iI y) :: .int (iI x) :: st) :=
  fun H locs ls hP hD hS hl => lv_isub C.1 C.2.1 hd (by rw [iI_sub]; exact k H locs ls hP hD hS hl)
theorem g_imul (C : CX p s m args meth c D cl tys nw cc nL Ts own A) {x y : Int} (hd : decode cc pc = .ok (.imul, 1)) (k : G p l e R s m args below meth c D cl nL A cells slots Q ws (pc + 1) lv (.int (iI (x * y)) :: st)) : G p l e R s m args below meth c D cl nL A cells slots Q ws pc lv (.int (iI y) :: .int (iI x) :: st) :=
  fun H locs ls hP hD hS hl => lv_imul C.1 C.2.1 hd (by rw [iI_mul]; exact k H locs ls hP hD hS hl)
theorem g_iand (C : CX p s m args meth c D cl tys nw cc nL Ts own A) {x y : Int32} {z : Int} (hd : decode cc pc = .ok (.iand, 1)) (hz : x &&& y = iI z) (k : G p l e R s m args below meth c D cl nL A cells slots Q ws (pc + 1) lv (.int (iI z) :: st)) : G p l e R s m args below meth c D cl nL A cells slots Q ws pc lv (.int y :: .int x :: st) :=
  fun H locs ls hP hD hS hl => lv_iand C.1 C.2.1 hd (by rw [hz]; exact k H locs ls hP hD hS hl)
theorem g_ior (C : CX p s m args meth c D cl tys nw cc nL Ts own A) {x y : Int32} {z : Int} (hd : decode cc pc = .ok (.ior, 1)) (hz : x ||| y = iI z) (k : G p l e R s m args below meth c D cl nL A cells slots Q ws (pc + 1) lv (.int (iI z) :: st)) : G p l e R s m args below meth c D cl nL A cells slots Q ws pc lv (.int y :: .int x :: st) :=
  fun H locs ls hP hD hS hl => lv_ior C.1 C.2.1 hd (by rw [hz]; exact k H locs ls hP hD hS hl)
theorem g_ixor (C : CX p s m args meth c D cl tys nw cc nL Ts own A) {x y : Int32} {z : Int} (hd : decode cc pc = .ok (.ixor, 1)) (hz : x ^^^ y = iI z) (k : G p l e R s m args below meth c D cl nL A cells slots Q ws (pc + 1) lv (.int (iI z) :: st)) : G p l e R s m args below meth c D cl nL A cells slots Q ws pc lv (.int y :: .int x :: st) :=
  fun H locs ls hP hD hS hl => lv_ixor C.1 C.2.1 hd (by rw [hz]; exact k H locs ls hP hD hS hl)
theorem g_ishl (C : CX p s m args meth c D cl tys nw cc nL Ts own A) {x k d : Int} (hd : decode cc pc = .ok (.ishl, 1)) (h0 : 0 ≤ k) (h1 : k < 32) (h2 : (2 : Int) ^ k.toNat = d) (kk : G p l e R s m args below meth c D cl nL A cells slots Q ws (pc + 1) lv (.int (iI (x * d)) :: st)) : G p l e R s m args below meth c D cl nL A cells slots Q ws pc lv (.int (iI k) :: .int (iI x) :: st) :=
  fun H locs ls hP hD hS hl => lv_ishl C.1 C.2.1 hd (by rw [iI_shl h0 h1, h2]; exact kk H locs ls hP hD hS hl)
theorem g_ishr (C : CX p s m args meth c D cl tys nw cc nL Ts own A) {x k d : Int} (hd : decode cc pc = .ok (.ishr, 1)) (hx : rI x) (h0 : 0 ≤ k) (h1 : k < 32) (h2 : (2 : Int) ^ k.toNat = d) (kk : G p l e R s m args below meth c D cl nL A cells slots Q ws (pc + 1) lv (.int (iI (x / d)) :: st)) : G p l e R s m args below meth c D cl nL A cells slots Q ws pc lv (.int (iI k) :: .int (iI x) :: st) :=
  fun H locs ls hP hD hS hl => lv_ishr C.1 C.2.1 hd (by rw [iI_shr hx h0 h1, h2]; exact kk H locs ls hP hD hS hl)
theorem g_dup (C : CX p s m args meth c D cl tys nw cc nL Ts own A) {va : Value} (hd : decode cc pc = .ok (.dup, 1)) (hva : va.category = 1) (k : G p l e R s m args below meth c D cl nL A cells slots Q ws (pc + 1) lv (va :: va :: st)) : G p l e R s m args below meth c D cl nL A cells slots Q ws pc lv (va :: st) :=
  fun H locs ls hP hD hS hl => lv_dup C.1 C.2.1 hd hva (k H locs ls hP hD hS hl)
theorem g_pop (C : CX p s m args meth c D cl tys nw cc nL Ts own A) {va : Value} (hd : decode cc pc = .ok (.pop, 1)) (hva : va.category = 1) (k : G p l e R s m args below meth c D cl nL A cells slots Q ws (pc + 1) lv st) : G p l e R s m args below meth c D cl nL A cells slots Q ws pc lv (va :: st) :=
  fun H locs ls hP hD hS hl => lv_pop C.1 C.2.1 hd hva (k H locs ls hP hD hS hl)
theorem g_dup2 (C : CX p s m args meth c D cl tys nw cc nL Ts own A) {va vb : Value} (hd : decode cc pc = .ok (.dup2, 1)) (hva : va.category = 1) (hvb : vb.category = 1) (k : G p l e R s m args below meth c D cl nL A cells slots Q ws (pc + 1) lv (va :: vb :: va :: vb :: st)) : G p l e R s m args below meth c D cl nL A cells slots Q ws pc lv (va :: vb :: st) :=
  fun H locs ls hP hD hS hl => lv_dup2_11 C.1 C.2.1 hd hva hvb (k H locs ls hP hD hS hl)
theorem g_goto (C : CX p s m args meth c D cl tys nw cc nL Ts own A) {off : Int} {tgt : Nat} (hd : decode cc pc = .ok (.goto off, 3)) (ht : (pc : Int) + off = (tgt : Int)) (k : G p l e R s m args below meth c D cl nL A cells slots Q ws tgt lv st) : G p l e R s m args below meth c D cl nL A cells slots Q ws pc lv st :=
  fun H locs ls hP hD hS hl => lv_goto C.1 C.2.1 hd ht (k H locs ls hP hD hS hl)
theorem g_icmp_lt (C : CX p s m args meth c D cl tys nw cc nL Ts own A) {x y off : Int} {tgt : Nat} (hd : decode cc pc = .ok (.if_icmp .lt off, 3)) (ht : (pc : Int) + off = (tgt : Int)) (hx : rI x) (hy : rI y) (kt : x < y → G p l e R s m args below meth c D cl nL A cells slots Q ws tgt lv st) (kf : y ≤ x → G p l e R s m args below meth c D cl nL A cells slots Q ws (pc + 3) lv st) : G p l e R s m args below meth c D cl nL A cells slots Q ws pc lv (.int (iI y) :: .int (iI x) :: st) :=
  fun H locs ls hP hD hS hl => lv_icmp_lt C.1 C.2.1 hd ht (fun h => kt ((iI_lt hx hy).mp h) H locs ls hP hD hS hl) (fun h => kf (Int.not_lt.mp fun z => h ((iI_lt hx hy).mpr z)) H locs ls hP hD hS hl)
theorem g_icmp_ge (C : CX p s m args meth c D cl tys nw cc nL Ts own A) {x y off : Int} {tgt : Nat} (hd : decode cc pc = .ok (.if_icmp .ge off, 3)) (ht : (pc : Int) + off = (tgt : Int)) (hx : rI x) (hy : rI y) (kt : y ≤ x → G p l e R s m args below meth c D cl nL A cells slots Q ws tgt lv st) (kf : x < y → G p l e R s m args below meth c D cl nL A cells slots Q ws (pc + 3) lv st) : G p l e R s m args below meth c D cl nL A cells slots Q ws pc lv (.int (iI y) :: .int (iI x) :: st) :=
  fun H locs ls hP hD hS hl => lv_icmp_ge C.1 C.2.1 hd ht (fun h => kt ((iI_le hy hx).mp h) H locs ls hP hD hS hl) (fun h => kf (Int.not_le.mp fun z => h ((iI_le hy hx).mpr z)) H locs ls hP hD hS hl)
theorem g_icmp_gt (C : CX p s m args meth c D cl tys nw cc nL Ts own A) {x y off : Int} {tgt : Nat} (hd : decode cc pc = .ok (.if_icmp .gt off, 3)) (ht : (pc : Int) + off = (tgt : Int)) (hx : rI x) (hy : rI y) (kt : y < x → G p l e R s m args below meth c D cl nL A cells slots Q ws tgt lv st) (kf : x ≤ y → G p l e R s m args below meth c D cl nL A cells slots Q ws (pc + 3) lv st) : G p l e R s m args below meth c D cl nL A cells slots Q ws pc lv (.int (iI y) :: .int (iI x) :: st) :=
  fun H locs ls hP hD hS hl => lv_icmp_gt C.1 C.2.1 hd ht (fun h => kt ((iI_lt hy hx).mp h) H locs ls hP hD hS hl) (fun h => kf (Int.not_lt.mp fun z => h ((iI_lt hy hx).mpr z)) H locs ls hP hD hS hl)
theorem g_icmp_le (C : CX p s m args meth c D cl tys nw cc nL Ts own A) {x y off : Int} {tgt : Nat} (hd : decode cc pc = .ok (.if_icmp .le off, 3)) (ht : (pc : Int) + off = (tgt : Int)) (hx : rI x) (hy : rI y) (kt : x ≤ y → G p l e R s m args below meth c D cl nL A cells slots Q ws tgt lv st) (kf : y < x → G p l e R s m args below meth c D cl nL A cells slots Q ws (pc + 3) lv st) : G p l e R s m args below meth c D cl nL A cells slots Q ws pc lv (.int (iI y) :: .int (iI x) :: st) :=
  fun H locs ls hP hD hS hl => lv_icmp_le C.1 C.2.1 hd ht (fun h => kt ((iI_le hx hy).mp h) H locs ls hP hD hS hl) (fun h => kf (Int.not_le.mp fun z => h ((iI_le hx hy).mpr z)) H locs ls hP hD hS hl)
theorem g_icmp_eq (C : CX p s m args meth c D cl tys nw cc nL Ts own A) {x y off : Int} {tgt : Nat} (hd : decode cc pc = .ok (.if_icmp .eq off, 3)) (ht : (pc : Int) + off = (tgt : Int)) (hx : rI x) (hy : rI y) (kt : x = y → G p l e R s m args below meth c D cl nL A cells slots Q ws tgt lv st) (kf : ¬ x = y → G p l e R s m args below meth c D cl nL A cells slots Q ws (pc + 3) lv st) : G p l e R s m args below meth c D cl nL A cells slots Q ws pc lv (.int (iI y) :: .int (iI x) :: st) :=
  fun H locs ls hP hD hS hl => lv_icmp_eq C.1 C.2.1 hd ht (fun h => kt ((iI_eq hx hy).mp h) H locs ls hP hD hS hl) (fun h => kf (fun z => h ((iI_eq hx hy).mpr z)) H locs ls hP hD hS hl)
theorem g_icmp_ne (C : CX p s m args meth c D cl tys nw cc nL Ts own A) {x y off : Int} {tgt : Nat} (hd : decode cc pc = .ok (.if_icmp .ne off, 3)) (ht : (pc : Int) + off = (tgt : Int)) (hx : rI x) (hy : rI y) (kt : ¬ x = y → G p l e R s m args below meth c D cl nL A cells slots Q ws tgt lv st) (kf : x = y → G p l e R s m args below meth c D cl nL A cells slots Q ws (pc + 3) lv st) : G p l e R s m args below meth c D cl nL A cells slots Q ws pc lv (.int (iI y) :: .int (iI x) :: st) :=
  fun H locs ls hP hD hS hl => lv_icmp_ne C.1 C.2.1 hd ht (fun h => kt (fun z => h ((iI_eq hx hy).mpr z)) H locs ls hP hD hS hl) (fun h => kf ((iI_eq hx hy).mp h) H locs ls hP hD hS hl)
theorem g_if_lt (C : CX p s m args meth c D cl tys nw cc nL Ts own A) {x off : Int} {tgt : Nat} (hd : decode cc pc = .ok (.ifCond .lt off, 3)) (ht : (pc : Int) + off = (tgt : Int)) (hx : rI x) (kt : x < 0 → G p l e R s m args below meth c D cl nL A cells slots Q ws tgt lv st) (kf : 0 ≤ x → G p l e R s m args below meth c D cl nL A cells slots Q ws (pc + 3) lv st) : G p l e R s m args below meth c D cl nL A cells slots Q ws pc lv (.int (iI x) :: st) :=
  fun H locs ls hP hD hS hl => lv_if_lt C.1 C.2.1 hd ht (fun h => kt ((iI_lt hx (b := 0) (by decide)).mp h) H locs ls hP hD hS hl) (fun h => kf (Int.not_lt.mp fun z => h ((iI_lt hx (b := 0) (by decide)).mpr z)) H locs ls hP hD hS hl)
theorem g_if_ge (C : CX p s m args meth c D cl tys nw cc nL Ts own A) {x off : Int} {tgt : Nat} (hd : decode cc pc = .ok (.ifCond .ge off, 3)) (ht : (pc : Int) + off = (tgt : Int)) (hx : rI x) (kt : 0 ≤ x → G p l e R s m args below meth c D cl nL A cells slots Q ws tgt lv st) (kf : x < 0 → G p l e R s m args below meth c D cl nL A cells slots Q ws (pc + 3) lv st) : G p l e R s m args below meth c D cl nL A cells slots Q ws pc lv (.int (iI x) :: st) :=
  fun H locs ls hP hD hS hl => lv_if_ge C.1 C.2.1 hd ht (fun h => kt ((iI_le (a := 0) (by decide) hx).mp h) H locs ls hP hD hS hl) (fun h => kf (Int.not_le.mp fun z => h ((iI_le (a := 0) (by decide) hx).mpr z)) H locs ls hP hD hS hl)
theorem g_if_gt (C : CX p s m args meth c D cl tys nw cc nL Ts own A) {x off : Int} {tgt : Nat} (hd : decode cc pc = .ok (.ifCond .gt off, 3)) (ht : (pc : Int) + off = (tgt : Int)) (hx : rI x) (kt : 0 < x → G p l e R s m args below meth c D cl nL A cells slots Q ws tgt lv st) (kf : x ≤ 0 → G p l e R s m args below meth c D cl nL A cells slots Q ws (pc + 3) lv st) : G p l e R s m args below meth c D cl nL A cells slots Q ws pc lv (.int (iI x) :: st) :=
  fun H locs ls hP hD hS hl => lv_if_gt C.1 C.2.1 hd ht (fun h => kt ((iI_lt (a := 0) (by decide) hx).mp h) H locs ls hP hD hS hl) (fun h => kf (Int.not_lt.mp fun z => h ((iI_lt (a := 0) (by decide) hx).mpr z)) H locs ls hP hD hS hl)
theorem g_if_le (C : CX p s m args meth c D cl tys nw cc nL Ts own A) {x off : Int} {tgt : Nat} (hd : decode cc pc = .ok (.ifCond .le off, 3)) (ht : (pc : Int) + off = (tgt : Int)) (hx : rI x) (kt : x ≤ 0 → G p l e R s m args below meth c D cl nL A cells slots Q ws tgt lv st) (kf : 0 < x → G p l e R s m args below meth c D cl nL A cells slots Q ws (pc + 3) lv st) : G p l e R s m args below meth c D cl nL A cells slots Q ws pc lv (.int (iI x) :: st) :=
  fun H locs ls hP hD hS hl => lv_if_le C.1 C.2.1 hd ht (fun h => kt ((iI_le hx (b := 0) (by decide)).mp h) H locs ls hP hD hS hl) (fun h => kf (Int.not_le.mp fun z => h ((iI_le hx (b := 0) (by decide)).mpr z)) H locs ls hP hD hS hl)
theorem g_if_eq (C : CX p s m args meth c D cl tys nw cc nL Ts own A) {x off : Int} {tgt : Nat} (hd : decode cc pc = .ok (.ifCond .eq off, 3)) (ht : (pc : Int) + off = (tgt : Int)) (hx : rI x) (kt : x = 0 → G p l e R s m args below meth c D cl nL A cells slots Q ws tgt lv st) (kf : ¬ x = 0 → G p l e R s m args below meth c D cl nL A cells slots Q ws (pc + 3) lv st) : G p l e R s m args below meth c D cl nL A cells slots Q ws pc lv (.int (iI x) :: st) :=
  fun H locs ls hP hD hS hl => lv_if_eq C.1 C.2.1 hd ht (fun h => kt ((iI_eq hx (b := 0) (by decide)).mp h) H locs ls hP hD hS hl) (fun h => kf (fun z => h ((iI_eq hx (b := 0) (by decide)).mpr z)) H locs ls hP hD hS hl)
theorem g_if_ne (C : CX p s m args meth c D cl tys nw cc nL Ts own A) {x off : Int} {tgt : Nat} (hd : decode cc pc = .ok (.ifCond .ne off, 3)) (ht : (pc : Int) + off = (tgt : Int)) (hx : rI x) (kt : ¬ x = 0 → G p l e R s m args below meth c D cl nL A cells slots Q ws tgt lv st) (kf : x = 0 → G p l e R s m args below meth c D cl nL A cells slots Q ws (pc + 3) lv st) : G p l e R s m args below meth c D cl nL A cells slots Q ws pc lv (.int (iI x) :: st) :=
  fun H locs ls hP hD hS hl => lv_if_ne C.1 C.2.1 hd ht (fun h => kt (fun z => h ((iI_eq hx (b := 0) (by decide)).mpr z)) H locs ls hP hD hS hl) (fun h => kf ((iI_eq hx (b := 0) (by decide)).mp h) H locs ls hP hD hS hl)
theorem bI_r (P : Prop) : rI (bI P) := by
  rcases bI_c P with h | h <;> rw [h] <;> decide
theorem g_ifeq_b (C : CX p s m args meth c D cl tys nw cc nL Ts own A) {P : Prop} {off : Int} {tgt : Nat} (hd : decode cc pc = .ok (.ifCond .eq off, 3)) (ht : (pc : Int) + off = (tgt : Int)) (kt : ¬ P → G p l e R s m args below meth c D cl nL A cells slots Q ws tgt lv st) (kf : P → G p l e R s m args below meth c D cl nL A cells slots Q ws (pc + 3) lv st) : G p l e R s m args below meth c D cl nL A cells slots Q ws pc lv (.int (iI (bI P)) :: st) :=
  g_if_eq C hd ht (bI_r P) (fun h => kt (bI_0.mp h)) (fun h => kf (Classical.byContradiction fun z => h (bI_0.mpr z)))
theorem g_ifne_b (C : CX p s m args meth c D cl tys nw cc nL Ts own A) {P : Prop} {off : Int} {tgt : Nat} (hd : decode cc pc = .ok (.ifCond .ne off, 3)) (ht : (pc : Int) + off = (tgt : Int)) (kt : P → G p l e R s m args below meth c D cl nL A cells slots Q ws tgt lv st) (kf : ¬ P → G p l e R s m args below meth c D cl nL A cells slots Q ws (pc + 3) lv st) : G p l e R s m args below meth c D cl nL A cells slots Q ws pc lv (.int (iI (bI P)) :: st) :=
  g_if_ne C hd ht (bI_r P) (fun h => kt (Classical.byContradiction fun z => h (bI_0.mpr z))) (fun h => kf (bI_0.mp h))
theorem cx_ts (C : CX p s m args meth c D cl tys nw cc nL Ts own A) {w : Cond} (h : w ∈ Ts) : w.before args s = true := C.2.2.2.2.1 w h
theorem cx_k (C : CX p s m args meth c D cl tys nw cc nL Ts own A) : va_K D cl tys s := C.2.2.2.2.2.1
theorem cx_a (C : CX p s m args meth c D cl tys nw cc nL Ts own A) : ∀ q, s.heap.size ≤ q → A q := C.2.2.2.2.2.2.1
theorem cx_fix (C : CX p s m args meth c D cl tys nw cc nL Ts own A) : CallFix p m c cc nL s args Ts own := ⟨C.1, C.2.1, C.2.2.1, C.2.2.2.1, C.2.2.2.2.1⟩
theorem cx_nw (C : CX p s m args meth c D cl tys nw cc nL Ts own A) {w : Cond} (h : w ∈ nw) : w.before args s = true := va_Nw.use (C.2.2.2.2.2.2.2.2.2 w h).1 (C.2.2.2.2.2.2.2.2.1 w h)
theorem g_i2l (C : CX p s m args meth c D cl tys nw cc nL Ts own A) {x : Int} (hd : decode cc pc = .ok (.i2l, 1)) (hx : rI x) (k : G p l e R s m args below meth c D cl nL A cells slots Q ws (pc + 1) lv (.long (lI x) :: st)) : G p l e R s m args below meth c D cl nL A cells slots Q ws pc lv (.int (iI x) :: st) :=
  fun H locs ls hP hD hS hl => lv_i2l C.1 C.2.1 hd (by
    apply Int64.toInt_inj.mp
    rw [Int32.toInt_toInt64, iI_toInt hx, lI_toInt (by constructor <;> omega)]) (k H locs ls hP hD hS hl)
theorem g_l2i (C : CX p s m args meth c D cl tys nw cc nL Ts own A) {x : Int} (hd : decode cc pc = .ok (.l2i, 1)) (k : G p l e R s m args below meth c D cl nL A cells slots Q ws (pc + 1) lv (.int (iI x) :: st)) : G p l e R s m args below meth c D cl nL A cells slots Q ws pc lv (.long (lI x) :: st) :=
  fun H locs ls hP hD hS hl => lv_l2i C.1 C.2.1 hd (Int64.toInt32_ofInt) (k H locs ls hP hD hS hl)
theorem g_ladd (C : CX p s m args meth c D cl tys nw cc nL Ts own A) {x y : Int} (hd : decode cc pc = .ok (.ladd, 1)) (k : G p l e R s m args below meth c D cl nL A cells slots Q ws (pc + 1) lv (.long (lI (x + y)) :: st)) : G p l e R s m args below meth c D cl nL A cells slots Q ws pc lv (.long (lI y) :: .long (lI x) :: st) :=
  fun H locs ls hP hD hS hl => lv_ladd C.1 C.2.1 hd (by rw [lI_add]; exact k H locs ls hP hD hS hl)
theorem g_lsub (C : CX p s m args meth c D cl tys nw cc nL Ts own A) {x y : Int} (hd : decode cc pc = .ok (.lsub, 1)) (k : G p l e R s m args below meth c D cl nL A cells slots Q ws (pc + 1) lv (.long (lI (x - y)) :: st)) : G p l e R s m args below meth c D cl nL A cells slots Q ws pc lv (.long (lI y) :: .long (lI x) :: st) :=
  fun H locs ls hP hD hS hl => lv_lsub C.1 C.2.1 hd (by rw [lI_sub]; exact k H locs ls hP hD hS hl)
theorem g_land (C : CX p s m args meth c D cl tys nw cc nL Ts own A) {x y : Int64} {z : Int} (hd : decode cc pc = .ok (.land, 1)) (hz : x &&& y = lI z) (k : G p l e R s m args below meth c D cl nL A cells slots Q ws (pc + 1) lv (.long (lI z) :: st)) : G p l e R s m args below meth c D cl nL A cells slots Q ws pc lv (.long y :: .long x :: st) :=
  fun H locs ls hP hD hS hl => lv_land C.1 C.2.1 hd (by rw [hz]; exact k H locs ls hP hD hS hl)
theorem g_lor (C : CX p s m args meth c D cl tys nw cc nL Ts own A) {x y : Int64} {z : Int} (hd : decode cc pc = .ok (.lor, 1)) (hz : x ||| y = lI z) (k : G p l e R s m args below meth c D cl nL A cells slots Q ws (pc + 1) lv (.long (lI z) :: st)) : G p l e R s m args below meth c D cl nL A cells slots Q ws pc lv (.long y :: .long x :: st) :=
  fun H locs ls hP hD hS hl => lv_lor C.1 C.2.1 hd (by rw [hz]; exact k H locs ls hP hD hS hl)
theorem g_lshl (C : CX p s m args meth c D cl tys nw cc nL Ts own A) {x : Int64} {y : Int32} {z : Int} (hd : decode cc pc = .ok (.lshl, 1)) (hz : x <<< (y.toInt64 &&& 63) = lI z) (k : G p l e R s m args below meth c D cl nL A cells slots Q ws (pc + 1) lv (.long (lI z) :: st)) : G p l e R s m args below meth c D cl nL A cells slots Q ws pc lv (.int y :: .long x :: st) :=
  fun H locs ls hP hD hS hl => lv_lshl C.1 C.2.1 hd hz (k H locs ls hP hD hS hl)
theorem g_lshr (C : CX p s m args meth c D cl tys nw cc nL Ts own A) {x : Int64} {y : Int32} {z : Int} (hd : decode cc pc = .ok (.lshr, 1)) (hz : x >>> (y.toInt64 &&& 63) = lI z) (k : G p l e R s m args below meth c D cl nL A cells slots Q ws (pc + 1) lv (.long (lI z) :: st)) : G p l e R s m args below meth c D cl nL A cells slots Q ws pc lv (.int y :: .long x :: st) :=
  fun H locs ls hP hD hS hl => lv_lshr C.1 C.2.1 hd hz (k H locs ls hP hD hS hl)
/-- lcmp, and the branch behind it -/
theorem g_lcmp_lt (C : CX p s m args meth c D cl tys nw cc nL Ts own A) {x y off : Int} {tgt : Nat} (hd0 : decode cc pc = .ok (.lcmp, 1)) (hd : decode cc (pc + 1) = .ok (.ifCond .lt off, 3)) (ht : ((pc + 1 : Nat) : Int) + off = (tgt : Int)) (hx : rL x) (hy : rL y) (kt : x < y → G p l e R s m args below meth c D cl nL A cells slots Q ws tgt lv st) (kf : y ≤ x → G p l e R s m args below meth c D cl nL A cells slots Q ws (pc + 1 + 3) lv st) : G p l e R s m args below meth c D cl nL A cells slots Q ws pc lv (.long (lI y) :: .long (lI x) :: st) :=
  fun H locs ls hP hD hS hl => W.lcmp C.1 C.2.1 hd0 (lv_if_lt C.1 C.2.1 hd ht (fun h => kt ((lI_lt hx hy).mp ((lg_cmp_lt _ _).mp h)) H locs ls hP hD hS hl) (fun h => kf (Int.not_lt.mp fun z => h ((lg_cmp_lt _ _).mpr ((lI_lt hx hy).mpr z))) H locs ls hP hD hS hl))
theorem g_lcmp_ge (C : CX p s m args meth c D cl tys nw cc nL Ts own A) {x y off : Int} {tgt : Nat} (hd0 : decode cc pc = .ok (.lcmp, 1)) (hd : decode cc (pc + 1) = .ok (.ifCond .ge off, 3)) (ht : ((pc + 1 : Nat) : Int) + off = (tgt : Int)) (hx : rL x) (hy : rL y) (kt : y ≤ x → G p l e R s m args below meth c D cl nL A cells slots Q ws tgt lv st) (kf : x < y → G p l e R s m args below meth c D cl nL A cells slots Q ws (pc + 1 + 3) lv st) : G p l e R s m args below meth c D cl nL A cells slots Q ws pc lv (.long (lI y) :: .long (lI x) :: st) :=
  fun H locs ls hP hD hS hl => W.lcmp C.1 C.2.1 hd0 (lv_if_ge C.1 C.2.1 hd ht (fun h => kt ((lI_le hy hx).mp ((lg_cmp_ge _ _).mp h)) H locs ls hP hD hS hl) (fun h => kf (Int.not_le.mp fun z => h ((lg_cmp_ge _ _).mpr ((lI_le hy hx).mpr z))) H locs ls hP hD hS hl))
theorem g_lcmp_gt (C : CX p s m args meth c D cl tys nw cc nL Ts own A) {x y off : Int} {tgt : Nat} (hd0 : decode cc pc = .ok (.lcmp, 1)) (hd : decode cc (pc + 1) = .ok (.ifCond .gt off, 3)) (ht : ((pc + 1 : Nat) : Int) + off = (tgt : Int)) (hx : rL x) (hy : rL y) (kt : y < x → G p l e R s m args below meth c D cl nL A cells slots Q ws tgt lv st) (kf : x ≤ y → G p l e R s m args below meth c D cl nL A cells slots Q ws (pc + 1 + 3) lv st) : G p l e R s m args below meth c D cl nL A cells slots Q ws pc lv (.long (lI y) :: .long (lI x) :: st) :=
  fun H locs ls hP hD hS hl => W.lcmp C.1 C.2.1 hd0 (lv_if_gt C.1 C.2.1 hd ht (fun h => kt ((lI_lt hy hx).mp ((lg_cmp_gt _ _).mp h)) H locs ls hP hD hS hl) (fun h => kf (Int.not_lt.mp fun z => h ((lg_cmp_gt _ _).mpr ((lI_lt hy hx).mpr z))) H locs ls hP hD hS hl))
theorem g_lcmp_le (C : CX p s m args meth c D cl tys nw cc nL Ts own A) {x y off : Int} {tgt : Nat} (hd0 : decode cc pc = .ok (.lcmp, 1)) (hd : decode cc (pc + 1) = .ok (.ifCond .le off, 3)) (ht : ((pc + 1 : Nat) : Int) + off = (tgt : Int)) (hx : rL x) (hy : rL y) (kt : x ≤ y → G p l e R s m args below meth c D cl nL A cells slots Q ws tgt lv st) (kf : y < x → G p l e R s m args below meth c D cl nL A cells slots Q ws (pc + 1 + 3) lv st) : G p l e R s m args below meth c D cl nL A cells slots Q ws pc lv (.long (lI y) :: .long (lI x) :: st) :=
  fun H locs ls hP hD hS hl => W.lcmp C.1 C.2.1 hd0 (lv_if_le C.1 C.2.1 hd ht (fun h => kt ((lI_le hx hy).mp ((lg_cmp_le _ _).mp h)) H locs ls hP hD hS hl) (fun h => kf (Int.not_le.mp fun z => h ((lg_cmp_le _ _).mpr ((lI_le hx hy).mpr z))) H locs ls hP hD hS hl))
theorem g_lcmp_eq (C : CX p s m args meth c D cl tys nw cc nL Ts own A) {x y off : Int} {tgt : Nat} (hd0 : decode cc pc = .ok (.lcmp, 1)) (hd : decode cc (pc + 1) = .ok (.ifCond .eq off, 3)) (ht : ((pc + 1 : Nat) : Int) + off = (tgt : Int)) (hx : rL x) (hy : rL y) (kt : x = y → G p l e R s m args below meth c D cl nL A cells slots Q ws tgt lv st) (kf : ¬ x = y → G p l e R s m args below meth c D cl nL A cells slots Q ws (pc + 1 + 3) lv st) : G p l e R s m args below meth c D cl nL A cells slots Q ws pc lv (.long (lI y) :: .long (lI x) :: st) :=
  fun H locs ls hP hD hS hl => W.lcmp C.1 C.2.1 hd0 (lv_if_eq C.1 C.2.1 hd ht (fun h => kt ((lI_eq hx hy).mp ((lg_cmp_eq _ _).mp h)) H locs ls hP hD hS hl) (fun h => kf (fun z => h ((lg_cmp_eq _ _).mpr ((lI_eq hx hy).mpr z))) H locs ls hP hD hS hl))
theorem g_lcmp_ne (C : CX p s m args meth c D cl tys nw cc nL Ts own A) {x y off : Int} {tgt : Nat} (hd0 : decode cc pc = .ok (.lcmp, 1)) (hd : decode cc (pc + 1) = .ok (.ifCond .ne off, 3)) (ht : ((pc + 1 : Nat) : Int) + off = (tgt : Int)) (hx : rL x) (hy : rL y) (kt : ¬ x = y → G p l e R s m args below meth c D cl nL A cells slots Q ws tgt lv st) (kf : x = y → G p l e R s m args below meth c D cl nL A cells slots Q ws (pc + 1 + 3) lv st) : G p l e R s m args below meth c D cl nL A cells slots Q ws pc lv (.long (lI y) :: .long (lI x) :: st) :=
  fun H locs ls hP hD hS hl => W.lcmp C.1 C.2.1 hd0 (lv_if_ne C.1 C.2.1 hd ht (fun h => kt (fun z => h ((lg_cmp_eq _ _).mpr ((lI_eq hx hy).mpr z))) H locs ls hP hD hS hl) (fun h => kf ((lI_eq hx hy).mp ((lg_cmp_eq _ _).mp h)) H locs ls hP hD hS hl))
theorem g_get (C : CX p s m args meth c D cl tys nw cc nL Ts own A) {ref Cn : String} {T : u_T} {N ci index a : Nat} {fs : List Value} {v : Value} (hin : ∀ w ∈ u_ws Cn T N, w ∈ Ts) (q0 : Nat) (he : ws[q0]? = some (a, .inr (ci, fs))) (hc : cl[ci]? = some (Cn, T, N)) (k : Nat) (hk : k < N) (hlink : Cond.fieldLink own index ref (T k).2.1 (T k).2.2.1 ∈ Ts) (hsame : (T k).1 = ref) (hv : fs[k]? = some v) (hd : decode cc pc = .ok (.getfield index, 3)) (kk : G p l e R s m args below meth c D cl nL A cells slots Q ws (pc + 3) lv (v :: st)) : G p l e R s m args below meth c D cl nL A cells slots Q ws pc lv (.ref a :: st) :=
  fun H locs ls hP hD hS hl => va_get C.1 C.2.1 C.2.2.2.2.1 hin C.2.2.2.1 (cx_k C) hP q0 he hc k hk (cx_ts C hlink) (fun x h => hsame ▸ h) hv hd (kk H locs ls hP hD hS hl)
theorem g_getN (C : CX p s m args meth c D cl tys nw cc nL Ts own A) {ref Cn host : String} {T : u_T} {N ci index a : Nat} {fs : List Value} {v : Value} (hin : ∀ w ∈ u_ws Cn T N, w ∈ Ts) (q0 : Nat) (he : ws[q0]? = some (a, .inr (ci, fs))) (hc : cl[ci]? = some (Cn, T, N)) (k : Nat) (hk : k < N) (hlink : Cond.fieldLinkNest own index ref (T k).2.1 (T k).2.2.1 host ∈ nw) (hsame : (T k).1 = ref) (hv : fs[k]? = some v) (hd : decode cc pc = .ok (.getfield index, 3)) (kk : G p l e R s m args below meth c D cl nL A cells slots Q ws (pc + 3) lv (v :: st)) : G p l e R s m args below meth c D cl nL A cells slots Q ws pc lv (.ref a :: st) :=
  fun H locs ls hP hD hS hl => va_getN C.1 C.2.1 C.2.2.2.2.1 hin C.2.2.2.1 (cx_k C) hP q0 he hc k hk (cx_nw C hlink) (fun x h => hsame ▸ h) hv hd (kk H locs ls hP hD hS hl)
theorem g_put (C : CX p s m args meth c D cl tys nw cc nL Ts own A) {ref Cn : String} {T : u_T} {N ci index a : Nat} {fs : List Value} {v : Value} (hin : ∀ w ∈ u_ws Cn T N, w ∈ Ts) (ty0 : Nat → FieldType) (hty : ∀ k, k < N → parseFieldDescriptor (T k).2.2.1 = some (ty0 k)) (hnm : ∀ a, a < N → ∀ b, b < N → a ≠ b → (T a).2.1 ≠ (T b).2.1) (q0 : Nat) (he : ws[q0]? = some (a, .inr (ci, fs))) (hc : cl[ci]? = some (Cn, T, N)) (k : Nat) (hk : k < N) (hlink : Cond.fieldLink own index ref (T k).2.1 (T k).2.2.1 ∈ Ts) (hsame : (T k).1 = ref) (hfin : (T k).2.2.2 = false) (hn : narrow (ty0 k) v = v) (hfit : fits (ty0 k) v = true) (hlen : k < fs.length) (hd : decode cc pc = .ok (.putfield index, 3)) (hw : ws.set q0 (a, .inr (ci, fs.set k v)) = ws') (kk : G p l e R s m args below meth c D cl nL A cells slots Q ws' (pc + 3) lv st) : G p l e R s m args below meth c D cl nL A cells slots Q ws pc lv (v :: .ref a :: st) :=
  fun H locs ls hP hD hS hl => va_put C.1 C.2.1 C.2.2.2.2.1 hin ty0 hty hnm C.2.2.2.1 (cx_k C) hP hD hS q0 he hc k hk (cx_ts C hlink) (fun x h => hsame ▸ h) hfin (hty k hk) hn hfit hlen hd (fun H1 locs1 hP1 hD1 hS1 => kk H1 locs1 ls (hw ▸ hP1) (hw ▸ hD1) hS1 hl)
theorem g_putF (C : CX p s m args meth c D cl tys nw cc nL Ts own A) {ref Cn : String} {T : u_T} {N ci index a : Nat} {fs : List Value} {v : Value} (hin : ∀ w ∈ u_ws Cn T N, w ∈ Ts) (ty0 : Nat → FieldType) (hty : ∀ k, k < N → parseFieldDescriptor (T k).2.2.1 = some (ty0 k)) (hnm : ∀ a, a < N → ∀ b, b < N → a ≠ b → (T a).2.1 ≠ (T b).2.1) (q0 : Nat) (he : ws[q0]? = some (a, .inr (ci, fs))) (hc : cl[ci]? = some (Cn, T, N)) (k : Nat) (hk : k < N) (hlink : Cond.fieldLink own index ref (T k).2.1 (T k).2.2.1 ∈ Ts) (hsame : (T k).1 = ref) (hfin : (T k).2.2.2 = true) (hin2 : meth.name = "<init>") (hdecl : (T k).1 = own) (hn : narrow (ty0 k) v = v) (hfit : fits (ty0 k) v = true) (hlen : k < fs.length) (hd : decode cc pc = .ok (.putfield index, 3)) (hw : ws.set q0 (a, .inr (ci, fs.set k v)) = ws') (kk : G p l e R s m args below meth c D cl nL A cells slots Q ws' (pc + 3) lv st) : G p l e R s m args below meth c D cl nL A cells slots Q ws pc lv (v :: .ref a :: st) :=
  fun H locs ls hP hD hS hl => va_putF C.1 C.2.1 C.2.2.2.2.1 hin ty0 hty hnm C.2.2.2.1 (cx_k C) hP hD hS q0 he hc k hk (cx_ts C hlink) (fun x h => hsame ▸ h) hfin hin2 hdecl (hty k hk) hn hfit hlen hd (fun H1 locs1 hP1 hD1 hS1 => kk H1 locs1 ls (hw ▸ hP1) (hw ▸ hD1) hS1 hl)
theorem g_iald (C : CX p s m args meth c D cl tys nw cc nL Ts own A) {a n : Nat} {cA : ClassId} {f : Int → Int} {i : Int} (q0 t0 : Nat) (ha : ws[q0]? = some (a, .inl (cA, aI n f))) (ht : tys[t0]? = some (cA, .int)) (h0 : 0 ≤ i) (h1 : i < n) (hn : (n : Int) ≤ 2147483647) (hd : decode cc pc = .ok (.iaload, 1)) (kk : G p l e R s m args below meth c D cl nL A cells slots Q ws (pc + 1) lv (.int (iI (f i)) :: st)) : G p l e R s m args below meth c D cl nL A cells slots Q ws pc lv (.int (iI i) :: .ref a :: st) :=
  fun H locs ls hP hD hS hl => va_iald (n := n) (f := fun j : Nat => iI (f (j : Int))) C.1 C.2.1 (cx_k C) hP q0 t0 ha ht (iI_in h0 h1 hn) hd (by
    have ee : ((iI i).toNatClampNeg : Int) = i := by rw [iI_cl h0 (by omega)]; omega
    show W p l e _ s m args below meth c H locs cells slots Q (F0 m (pc + 1) ls (.int (iI (f ((iI i).toNatClampNeg : Int))) :: st))
    rw [ee]
    exact kk H locs ls hP hD hS hl)
theorem g_lald (C : CX p s m args meth c D cl tys nw cc nL Ts own A) {a n : Nat} {cA : ClassId} {f : Int → Int} {i : Int} (q0 t0 : Nat) (ha : ws[q0]? = some (a, .inl (cA, aL n f))) (ht : tys[t0]? = some (cA, .long)) (h0 : 0 ≤ i) (h1 : i < n) (hn : (n : Int) ≤ 2147483647) (hd : decode cc pc = .ok (.laload, 1)) (kk : G p l e R s m args below meth c D cl nL A cells slots Q ws (pc + 1) lv (.long (lI (f i)) :: st)) : G p l e R s m args below meth c D cl nL A cells slots Q ws pc lv (.int (iI i) :: .ref a :: st) :=
  fun H locs ls hP hD hS hl => va_lald (n := n) (f := fun j : Nat => lI (f (j : Int))) C.1 C.2.1 (cx_k C) hP q0 t0 ha ht (iI_in h0 h1 hn) hd (by
    have ee : ((iI i).toNatClampNeg : Int) = i := by rw [iI_cl h0 (by omega)]; omega
    show W p l e _ s m args below meth c H locs cells slots Q (F0 m (pc + 1) ls (.long (lI (f ((iI i).toNatClampNeg : Int))) :: st))
    rw [ee]
    exact kk H locs ls hP hD hS hl)
theorem g_iast (C : CX p s m args meth c D cl tys nw cc nL Ts own A) {a n : Nat} {cA : ClassId} {f : Int → Int} {i x : Int} (q0 t0 : Nat) (ha : ws[q0]? = some (a, .inl (cA, aI n f))) (ht : tys[t0]? = some (cA, .int)) (h0 : 0 ≤ i) (h1 : i < n) (hn : (n : Int) ≤ 2147483647) (hd : decode cc pc = .ok (.iastore, 1)) (hw : ws.set q0 (a, .inl (cA, aI n (uZ f i x))) = ws') (kk : G p l e R s m args below meth c D cl nL A cells slots Q ws' (pc + 1) lv st) : G p l e R s m args below meth c D cl nL A cells slots Q ws pc lv (.int (iI x) :: .int (iI i) :: .ref a :: st) :=
  fun H locs ls hP hD hS hl => va_iast (n := n) (f := fun j : Nat => iI (f (j : Int))) C.1 C.2.1 (cx_k C) hP hD hS q0 t0 ha ht (iI_in h0 h1 hn) hd (by
    rw [upd_iI h0 (by omega)]
    intro H1 locs1 hP1 hD1 hS1
    exact kk H1 locs1 ls (hw ▸ hP1) (hw ▸ hD1) hS1 hl)
theorem g_last (C : CX p s m args meth c D cl tys nw cc nL Ts own A) {a n : Nat} {cA : ClassId} {f : Int → Int} {i x : Int} (q0 t0 : Nat) (ha : ws[q0]? = some (a, .inl (cA, aL n f))) (ht : tys[t0]? = some (cA, .long)) (h0 : 0 ≤ i) (h1 : i < n) (hn : (n : Int) ≤ 2147483647) (hd : decode cc pc = .ok (.lastore, 1)) (hw : ws.set q0 (a, .inl (cA, aL n (uZ f i x))) = ws') (kk : G p l e R s m args below meth c D cl nL A cells slots Q ws' (pc + 1) lv st) : G p l e R s m args below meth c D cl nL A cells slots Q ws pc lv (.long (lI x) :: .int (iI i) :: .ref a :: st) :=
  fun H locs ls hP hD hS hl => va_last (n := n) (f := fun j : Nat => lI (f (j : Int))) C.1 C.2.1 (cx_k C) hP hD hS q0 t0 ha ht (iI_in h0 h1 hn) hd (by
    rw [upd_lI h0 (by omega)]
    intro H1 locs1 hP1 hD1 hS1
    exact kk H1 locs1 ls (hw ▸ hP1) (hw ▸ hD1) hS1 hl)
theorem g_alenI (C : CX p s m args meth c D cl tys nw cc nL Ts own A) {a n : Nat} {cA : ClassId} {f : Int → Int} (q0 t0 : Nat) (ha : ws[q0]? = some (a, .inl (cA, aI n f))) (ht : tys[t0]? = some (cA, .int)) (hd : decode cc pc = .ok (.arraylength, 1)) (kk : G p l e R s m args below meth c D cl nL A cells slots Q ws (pc + 1) lv (.int (iI (n : Int)) :: st)) : G p l e R s m args below meth c D cl nL A cells slots Q ws pc lv (.ref a :: st) :=
  fun H locs ls hP hD hS hl => va_alen (x := aI n f) C.1 C.2.1 (cx_k C) hP q0 t0 ha ht (iI_nat n).symm hd (kk H locs ls hP hD hS hl)
theorem g_alenL (C : CX p s m args meth c D cl tys nw cc nL Ts own A) {a n : Nat} {cA : ClassId} {f : Int → Int} (q0 t0 : Nat) (ha : ws[q0]? = some (a, .inl (cA, aL n f))) (ht : tys[t0]? = some (cA, .long)) (hd : decode cc pc = .ok (.arraylength, 1)) (kk : G p l e R s m args below meth c D cl nL A cells slots Q ws (pc + 1) lv (.int (iI (n : Int)) :: st)) : G p l e R s m args below meth c D cl nL A cells slots Q ws pc lv (.ref a :: st) :=
  fun H locs ls hP hD hS hl => va_alen (x := aL n f) C.1 C.2.1 (cx_k C) hP q0 t0 ha ht (iI_nat n).symm hd (kk H locs ls hP hD hS hl)
theorem z_cA {t0 : Nat} {cA cI : ClassId} {ty : FieldType} (hp : ∀ C, ty ≠ .object C) (hK : va_K D cl tys s) (ht : tys[t0]? = some (cI, ty)) (h2 : va_K D cl (tys ++ [(cA, ty)]) s) : cA = cI := by
  have e1 := (hK.2 t0 _ ht).2
  have e2 := (h2.2 tys.length (cA, ty) (by simp)).2
  cases ty <;> first | exact absurd rfl (hp _) | exact Option.some.inj (e2.symm.trans e1)
theorem g_newI (C : CX p s m args meth c D cl tys nw cc nL Ts own A) {n : Int} {N : Nat} {cI : ClassId} (t0 : Nat) (ht : tys[t0]? = some (cI, .int)) (harr : Cond.arrayClass .int ∈ Ts) (hn : n = (N : Int)) (hN : N ≤ 100000000) (hcells : cells + 1 ≤ R.cells) (hslots : slots + N ≤ R.slots) (hd : decode cc pc = .ok (.newarray .int, 2)) (kk : ∀ q : Nat, G p l e R s m args below meth c D cl nL A (cells + 1) (slots + N) Q (ws ++ [(q, .inl (cI, aI N (fun _ => 0)))]) (pc + 2) lv (.ref q :: st)) : G p l e R s m args below meth c D cl nL A cells slots Q ws pc lv (.int (iI n) :: st) :=
  fun H locs ls hP hD hS hl => va_newa (atype := .int) (ty := .int) (N' := N) (a0 := aI N (fun _ => 0)) C.1 C.2.1 (cx_ts C harr) rfl (cx_k C) hP hD hS (cx_a C) (fun cA => rfl) (by
    subst hn
    rw [show (0 : Int32) = iI 0 from rfl, iI_lt (by constructor <;> omega) (by decide)]
    omega) (by subst hn; rw [iI_cl (by omega) (by omega)]; omega) (by show N * 4 ≤ _; omega) hcells hslots hd (fun q cA H1 hK1 hP1 hD1 hS1 => by
    obtain rfl := z_cA (fun _ q => by cases q) (cx_k C) ht hK1
    exact kk q H1 locs ls hP1 hD1 hS1 hl)
theorem g_newL (C : CX p s m args meth c D cl tys nw cc nL Ts own A) {n : Int} {N : Nat} {cI : ClassId} (t0 : Nat) (ht : tys[t0]? = some (cI, .long)) (harr : Cond.arrayClass .long ∈ Ts) (hn : n = (N : Int)) (hN : N ≤ 10000000) (hcells : cells + 1 ≤ R.cells) (hslots : slots + N ≤ R.slots) (hd : decode cc pc = .ok (.newarray .long, 2)) (kk : ∀ q : Nat, G p l e R s m args below meth c D cl nL A (cells + 1) (slots + N) Q (ws ++ [(q, .inl (cI, aL N (fun _ => 0)))]) (pc + 2) lv (.ref q :: st)) : G p l e R s m args below meth c D cl nL A cells slots Q ws pc lv (.int (iI n) :: st) :=
  fun H locs ls hP hD hS hl => va_newa (atype := .long) (ty := .long) (N' := N) (a0 := aL N (fun _ => 0)) C.1 C.2.1 (cx_ts C harr) rfl (cx_k C) hP hD hS (cx_a C) (fun cA => rfl) (by
    subst hn
    rw [show (0 : Int32) = iI 0 from rfl, iI_lt (by constructor <;> omega) (by decide)]
    omega) (by subst hn; rw [iI_cl (by omega) (by omega)]; omega) (by show N * 8 ≤ _; omega) hcells hslots hd (fun q cA H1 hK1 hP1 hD1 hS1 => by
    obtain rfl := z_cA (fun _ q => by cases q) (cx_k C) ht hK1
    exact kk q H1 locs ls hP1 hD1 hS1 hl)
theorem g_zald (C : CX p s m args meth c D cl tys nw cc nL Ts own A) {a n : Nat} {cA : ClassId} {f : Int → Int} {i : Int} (q0 t0 : Nat) (ha : ws[q0]? = some (a, .inl (cA, aI n f))) (ht : tys[t0]? = some (cA, .boolean)) (h0 : 0 ≤ i) (h1 : i < n) (hn : (n : Int) ≤ 2147483647) (hd : decode cc pc = .ok (.baload, 1)) (kk : G p l e R s m args below meth c D cl nL A cells slots Q ws (pc + 1) lv (.int (iI (f i)) :: st)) : G p l e R s m args below meth c D cl nL A cells slots Q ws pc lv (.int (iI i) :: .ref a :: st) :=
  fun H locs ls hP hD hS hl => va_zald (n := n) (f := fun j : Nat => iI (f (j : Int))) C.1 C.2.1 (cx_k C) hP q0 t0 ha ht (iI_in h0 h1 hn) hd (by
    have ee : ((iI i).toNatClampNeg : Int) = i := by rw [iI_cl h0 (by omega)]; omega
    show W p l e _ s m args below meth c H locs cells slots Q (F0 m (pc + 1) ls (.int (iI (f ((iI i).toNatClampNeg : Int))) :: st))
    rw [ee]
    exact kk H locs ls hP hD hS hl)
theorem z_nar {x : Int} (h : x = 0 ∨ x = 1) : vp_nar .boolean (iI x) = iI x := by
  rcases h with h | h <;> rw [h] <;> decide
theorem g_zast (C : CX p s m args meth c D cl tys nw cc nL Ts own A) {a n : Nat} {cA : ClassId} {f : Int → Int} {i x : Int} (q0 t0 : Nat) (ha : ws[q0]? = some (a, .inl (cA, aI n f))) (ht : tys[t0]? = some (cA, .boolean)) (hx : x = 0 ∨ x = 1) (h0 : 0 ≤ i) (h1 : i < n) (hn : (n : Int) ≤ 2147483647) (hd : decode cc pc = .ok (.bastore, 1)) (hw : ws.set q0 (a, .inl (cA, aI n (uZ f i x))) = ws') (kk : G p l e R s m args below meth c D cl nL A cells slots Q ws' (pc + 1) lv st) : G p l e R s m args below meth c D cl nL A cells slots Q ws pc lv (.int (iI x) :: .int (iI i) :: .ref a :: st) :=
  fun H locs ls hP hD hS hl => va_zast (n := n) (f := fun j : Nat => iI (f (j : Int))) C.1 C.2.1 (cx_k C) hP hD hS q0 t0 ha ht (iI_in h0 h1 hn) hd (by
    rw [z_nar hx, upd_iI h0 (by omega)]
    intro H1 locs1 hP1 hD1 hS1
    exact kk H1 locs1 ls (hw ▸ hP1) (hw ▸ hD1) hS1 hl)
theorem g_newZ (C : CX p s m args meth c D cl tys nw cc nL Ts own A) {n : Int} {N : Nat} {cI : ClassId} (t0 : Nat) (ht : tys[t0]? = some (cI, .boolean)) (harr : Cond.arrayClass .boolean ∈ Ts) (hn : n = (N : Int)) (hN : N ≤ 100000000) (hcells : cells + 1 ≤ R.cells) (hslots : slots + N ≤ R.slots) (hd : decode cc pc = .ok (.newarray .boolean, 2)) (kk : ∀ q : Nat, G p l e R s m args below meth c D cl nL A (cells + 1) (slots + N) Q (ws ++ [(q, .inl (cI, aI N (fun _ => 0)))]) (pc + 2) lv (.ref q :: st)) : G p l e R s m args below meth c D cl nL A cells slots Q ws pc lv (.int (iI n) :: st) :=
  fun H locs ls hP hD hS hl => va_newa (atype := .boolean) (ty := .boolean) (N' := N) (a0 := aI N (fun _ => 0)) C.1 C.2.1 (cx_ts C harr) rfl (cx_k C) hP hD hS (cx_a C) (fun cA => rfl) (by
    subst hn
    rw [show (0 : Int32) = iI 0 from rfl, iI_lt (by constructor <;> omega) (by decide)]
    omega) (by subst hn; rw [iI_cl (by omega) (by omega)]; omega) (by show N * 1 ≤ _; omega) hcells hslots hd (fun q cA H1 hK1 hP1 hD1 hS1 => by
    obtain rfl := z_cA (fun _ q => by cases q) (cx_k C) ht hK1
    exact kk q H1 locs ls hP1 hD1 hS1 hl)
theorem g_new (C : CX p s m args meth c D cl tys nw cc nL Ts own A) {Cn : String} {T : u_T} {N ci index : Nat} {fs : List Value} (hin : ∀ w ∈ u_ws Cn T N, w ∈ Ts) (ty : Nat → FieldType) (hty : ∀ k, k < N → parseFieldDescriptor (T k).2.2.1 = some (ty k)) (hcl : Cond.classLink own index Cn ∈ Ts) (hinst : Cond.instantiable Cn N ∈ Ts) (hini : Cond.initialized Cn ∈ Ts) (hc : cl[ci]? = some (Cn, T, N)) (hfs : ∀ j, j < N → defaultValue (ty j) = vp_V fs j) (hcells : cells + 1 ≤ R.cells) (hslots : slots + N ≤ R.slots) (hd : decode cc pc = .ok (.new index, 3)) (kk : ∀ q : Nat, G p l e R s m args below meth c D cl nL A (cells + 1) (slots + N) Q (ws ++ [(q, .inr (ci, fs))]) (pc + 3) lv (.ref q :: st)) : G p l e R s m args below meth c D cl nL A cells slots Q ws pc lv st :=
  fun H locs ls hP hD hS hl => va_new C.1 C.2.1 C.2.2.2.2.1 hin ty hty C.2.2.2.1 (cx_ts C hcl) (cx_ts C hinst) (cx_ts C hini) (cx_k C) hP hD hS (cx_a C) hc hfs hcells hslots hd (fun q H1 hP1 hD1 hS1 => kk q H1 locs ls hP1 hD1 hS1 hl)
theorem g_objInit (C : CX p s m args meth c D cl tys nw cc nL Ts own A) {idx a : Nat} (hlink : Cond.methodLink own idx Lib.objectInit ∈ Ts) (hinst : Cond.instanceMethod Lib.objectInit ∈ Ts) (hcode : Cond.code Lib.objectInit ⟨#[0xb1]⟩ 1 none ∈ Ts) (hd : decode cc pc = .ok (.invokespecial idx, 3)) (hframes : 1 ≤ R.frames) (hlocals : (st.map fun v => v.category).sum + 12 ≤ R.locals) (kk : G p l e R s m args below meth c D cl nL A cells slots Q ws (pc + 3) lv st) : G p l e R s m args below meth c D cl nL A cells slots Q ws pc lv (.ref a :: st) :=
  fun H locs ls hP hD hS hl => W.objInit C.1 C.2.1 C.2.2.2.1 (cx_ts C hlink) (cx_ts C hinst) (cx_ts C hcode) (g := F0 m pc ls (.ref a :: st)) rfl (by rw [C.2.2.1]; exact hl.1) rfl hd hframes (by show 2 * 0 + _ + 12 ≤ _; omega) (kk H locs ls hP hD hS hl)
theorem g_max (C : CX p s m args meth c D cl tys nw cc nL Ts own A) {x y : Int} {index : Nat} (hx : rI x) (hy : rI y) (hlink : Cond.methodLink own index Lib.Math.max.name ∈ Ts) (hstat : Cond.static Lib.Math.max.name ∈ Ts) (hini : Cond.initialized "java/lang/Math" ∈ Ts) (hcode : Cond.code Lib.Math.max.name Lib.Math.max.code 2 (some .int) ∈ Ts) (hframes : 1 ≤ R.frames) (hlocals : (st.map fun v => v.category).sum + 13 ≤ R.locals) (hcs : cells ≤ R.cells) (hss : slots ≤ R.slots) (hd : decode cc pc = .ok (.invokestatic index, 3)) (kk : G p l e R s m args below meth c D cl nL A cells slots Q ws (pc + 3) lv (.int (iI (max x y)) :: st)) : G p l e R s m args below meth c D cl nL A cells slots Q ws pc lv (.int (iI y) :: .int (iI x) :: st) :=
  fun H locs ls hP hD hS hl => va_mmax C.1 C.2.1 (by rw [C.2.2.1]; exact hl.1.symm) C.2.2.2.1 (cx_ts C hlink) (cx_ts C hstat) (cx_ts C hini) (cx_ts C hcode) hframes hlocals hcs hss hd (by
    have ee : (if iI x < iI y then iI y else iI x) = iI (max x y) := by
      by_cases h : x < y
      · rw [if_pos ((iI_lt hx hy).mpr h), Int.max_eq_right (by omega)]
      · rw [if_neg (fun z => h ((iI_lt hx hy).mp z)), Int.max_eq_left (by omega)]
    rw [ee]
    exact kk H locs ls hP hD hS hl)
theorem g_min (C : CX p s m args meth c D cl tys nw cc nL Ts own A) {x y : Int} {index : Nat} (hx : rI x) (hy : rI y) (hlink : Cond.methodLink own index Lib.Math.min.name ∈ Ts) (hstat : Cond.static Lib.Math.min.name ∈ Ts) (hini : Cond.initialized "java/lang/Math" ∈ Ts) (hcode : Cond.code Lib.Math.min.name Lib.Math.min.code 2 (some .int) ∈ Ts) (hframes : 1 ≤ R.frames) (hlocals : (st.map fun v => v.category).sum + 13 ≤ R.locals) (hcs : cells ≤ R.cells) (hss : slots ≤ R.slots) (hd : decode cc pc = .ok (.invokestatic index, 3)) (kk : G p l e R s m args below meth c D cl nL A cells slots Q ws (pc + 3) lv (.int (iI (min x y)) :: st)) : G p l e R s m args below meth c D cl nL A cells slots Q ws pc lv (.int (iI y) :: .int (iI x) :: st) :=
  fun H locs ls hP hD hS hl => va_mmin C.1 C.2.1 (by rw [C.2.2.1]; exact hl.1.symm) C.2.2.2.1 (cx_ts C hlink) (cx_ts C hstat) (cx_ts C hini) (cx_ts C hcode) hframes hlocals hcs hss hd (by
    have ee : (if iI y < iI x then iI y else iI x) = iI (min x y) := by
      by_cases h : y < x
      · rw [if_pos ((iI_lt hy hx).mpr h), Int.min_eq_right (by omega)]
      · rw [if_neg (fun z => h ((iI_lt hy hx).mp z)), Int.min_eq_left (by omega)]
    rw [ee]
    exact kk H locs ls hP hD hS hl)
end ROWS
end
section
/-! CALLS AND CONTRACTS over the symbolic world -/
theorem z_fm {ws wc : va_W} {is : List Nat} (h : is.map (fun i => ws[i]?) = wc.map some) : is.filterMap (fun i => ws[i]?) = wc := by
  have h1 : is.filterMap (fun i => ws[i]?) = (is.map (fun i => ws[i]?)).filterMap id := by rw [List.filterMap_map]; rfl
  rw [h1, h, List.filterMap_map]
  exact List.filterMap_some
section CALLS
variable {p : Program} {l : Launch} {e : Env} {R : Room} {s : State} {m : MethodId} {args : Array Value} {below : List Frame} {meth : Method} {c : Code} {D : va_G} {cl : List vw_C} {tys : List (ClassId × FieldType)} {nw : List Cond} {cc : ByteArray} {nL : Nat} {Ts : List Cond} {own : String} {A : Nat → Prop} {cells slots : Nat} {Q : State → Prop} {ws ws' : va_W} {pc : Nat} {lv lv' : List (Nat × Value)} {st rest : List Value}
variable {y : MethodName} {bytes : ByteArray} {maxL mc ms n index ci N b : Nat} {ret : Option FieldType} {wy wy' : List Cond} {rm : Room} {Qc : Nat → Array Value → State → Outcome → State → Prop} {Cn host : String} {T : u_T} {fs As : List Value} {wc wr : va_W} {a : Array Value}
theorem z_blind {av : List Value} {W0 : va_W} {sz : Nat} : FrameBlind (va_Pc av (zPre D cl tys nw W0 sz)) := fun a U g mk q => by
  obtain ⟨q0, q1, qP, qK, qD, qN, qo⟩ := q
  exact ⟨q0, q1, qP, va_K.moved (u := U) (U := U.calling g mk a) (Vm.Alike.refl U.vm) qK, qD, fun w h => va_Nw.of (qo w h).1 (va_tabs (qo w h).1 (A := #[]) (A' := #[]) (rfl : U.vm = (U.calling g mk a).vm) (qN w h)), qo⟩
theorem z_pre (C : CX p s m args meth c D cl tys nw cc nL Ts own A) {av : List Value} {H : Heap} (hP : va_P D cl wc H) (hD : va_D (fun _ => True) wc) : ∀ U : State, U.heap = H → s.WarmedH U.vm → va_Pc av (zPre D cl tys nw wc H.size) av.toArray U := fun U hU hW =>
  ⟨rfl, by rw [hU], by rw [hU]; exact hP, va_K.moved hW.alike (cx_k C), hD, fun w h => (C.2.2.2.2.2.2.2.2.2 w h).2 s U hW (C.2.2.2.2.2.2.2.2.1 w h), C.2.2.2.2.2.2.2.2.2⟩
/-- a call runs, from any heap that holds its world -/
def zRun (p : Program) (l : Launch) (e : Env) (R : Room) (s : State) (m : MethodId) (args : Array Value) (below : List Frame) (meth : Method) (c : Code) (D : va_G) (cl : List vw_C) (nL cells slots mc ms pc : Nat) (st rest : List Value) (wc : va_W) (Qa : Nat → State → Outcome → State → Prop) : Prop :=
  ∀ (H : Heap) (locs : List Loc) (ls : Array Slot), va_P D cl wc H → va_D (fun _ => True) wc → ls.size = nL → va_Run p l e R s m args below meth c H locs cells slots mc ms (F0 m pc ls st) rest (Qa H.size) (va_A wc H.size)
theorem z_runV (C : CX p s m args meth c D cl tys nw cc nL Ts own A) (hM : ∀ sz, Met l y wy rm (va_Pc (.ref b :: As) (zPre D cl tys nw wc sz)) (Qc sz) mc ms (va_A wc sz)) (cw : CallW R s args own Cn index y bytes maxL ret wy rm mc ms n) (q0 : Nat) (he : wc[q0]? = some (b, .inr (ci, fs))) (hc : cl[ci]? = some (Cn, T, N)) (hn : As.length = n) (hst : st = As.reverse ++ .ref b :: rest) (hW : (rest.map fun v => v.category).sum ≤ 8) (hd : decode cc pc = .ok (.invokevirtual index, 3)) (hf : cells + mc ≤ R.cells ∧ slots + ms ≤ R.slots) :
    zRun p l e R s m args below meth c D cl nL cells slots mc ms pc st rest wc (fun sz => Qc sz (Value.ref b :: As).toArray) := fun H locs ls hP hD hl =>
  va_runV (As := As) (rest := rest) (cx_fix C) (hM H.size) cw ⟨z_blind, va_recv (cx_k C) hP hc he, z_pre C hP hD⟩ rfl hn hl hst (lv_room hW) hd hf
theorem z_runVN (C : CX p s m args meth c D cl tys nw cc nL Ts own A) (hM : ∀ sz, Met l y wy rm (va_Pc (.ref b :: As) (zPre D cl tys nw wc sz)) (Qc sz) mc ms (va_A wc sz)) (cw : va_CN R s args own index y host bytes maxL ret wy rm mc ms n ∧ (Cond.instanceMethod y).before args s = true ∧ (Cond.selects Cn y y).before args s = true) (q0 : Nat) (he : wc[q0]? = some (b, .inr (ci, fs))) (hc : cl[ci]? = some (Cn, T, N)) (hn : As.length = n) (hst : st = As.reverse ++ .ref b :: rest) (hW : (rest.map fun v => v.category).sum ≤ 8) (hd : decode cc pc = .ok (.invokevirtual index, 3)) (hf : cells + mc ≤ R.cells ∧ slots + ms ≤ R.slots) :
    zRun p l e R s m args below meth c D cl nL cells slots mc ms pc st rest wc (fun sz => Qc sz (Value.ref b :: As).toArray) := fun H locs ls hP hD hl =>
  va_runVN (As := As) (rest := rest) (cx_fix C) (hM H.size) cw ⟨z_blind, va_recv (cx_k C) hP hc he, z_pre C hP hD⟩ rfl hn hl hst (lv_room hW) hd hf
theorem z_runS (C : CX p s m args meth c D cl tys nw cc nL Ts own A) (hM : ∀ sz, Met l y wy rm (va_Pc As (zPre D cl tys nw wc sz)) (Qc sz) mc ms (va_A wc sz)) (cw : CallB R s args own index y bytes maxL ret wy rm mc ms n ∧ (Cond.static y).before args s = true) (hn : As.length = n) (hst : st = As.reverse ++ rest) (hW : (rest.map fun v => v.category).sum ≤ 8) (hd : decode cc pc = .ok (.invokestatic index, 3)) (hf : cells + mc ≤ R.cells ∧ slots + ms ≤ R.slots) :
    zRun p l e R s m args below meth c D cl nL cells slots mc ms pc st rest wc (fun sz => Qc sz As.toArray) := fun H locs ls hP hD hl =>
  va_runS (As := As) (rest := rest) (cx_fix C) (hM H.size) cw ⟨z_blind, z_pre C hP hD⟩ rfl hn hl hst (lv_room hW) hd hf
theorem z_runSN (C : CX p s m args meth c D cl tys nw cc nL Ts own A) (hM : ∀ sz, Met l y wy rm (va_Pc As (zPre D cl tys nw wc sz)) (Qc sz) mc ms (va_A wc sz)) (cw : va_CN R s args own index y host bytes maxL ret wy rm mc ms n ∧ (Cond.static y).before args s = true ∧ True) (hn : As.length = n) (hst : st = As.reverse ++ rest) (hW : (rest.map fun v => v.category).sum ≤ 8) (hd : decode cc pc = .ok (.invokestatic index, 3)) (hf : cells + mc ≤ R.cells ∧ slots + ms ≤ R.slots) :
    zRun p l e R s m args below meth c D cl nL cells slots mc ms pc st rest wc (fun sz => Qc sz As.toArray) := fun H locs ls hP hD hl =>
  va_runSN (As := As) (rest := rest) (cx_fix C) (hM H.size) cw ⟨z_blind, z_pre C hP hD⟩ rfl hn hl hst (lv_room hW) hd hf
theorem z_runI (C : CX p s m args meth c D cl tys nw cc nL Ts own A) (hM : ∀ sz, Met l y wy rm (va_Pc (.ref b :: As) (zPre D cl tys nw wc sz)) (Qc sz) mc ms (va_A wc sz)) (cw : CallB R s args own index y bytes maxL none wy rm mc ms n ∧ y.name = "<init>" ∧ (Cond.instanceMethod y).before args s = true) (hn : As.length = n) (hst : st = As.reverse ++ .ref b :: rest) (hW : (rest.map fun v => v.category).sum ≤ 8) (hd : decode cc pc = .ok (.invokespecial index, 3)) (hf : cells + mc ≤ R.cells ∧ slots + ms ≤ R.slots) :
    zRun p l e R s m args below meth c D cl nL cells slots mc ms pc st rest wc (fun sz => Qc sz (Value.ref b :: As).toArray) := fun H locs ls hP hD hl =>
  va_runI (As := As) (rest := rest) (cx_fix C) (hM H.size) cw ⟨z_blind, z_pre C hP hD⟩ rfl hn hl hst (lv_room hW) hd hf
theorem z_runIN (C : CX p s m args meth c D cl tys nw cc nL Ts own A) (hM : ∀ sz, Met l y wy rm (va_Pc (.ref b :: As) (zPre D cl tys nw wc sz)) (Qc sz) mc ms (va_A wc sz)) (cw : va_CN R s args own index y host bytes maxL none wy rm mc ms n ∧ y.name = "<init>" ∧ (Cond.instanceMethod y).before args s = true) (hn : As.length = n) (hst : st = As.reverse ++ .ref b :: rest) (hW : (rest.map fun v => v.category).sum ≤ 8) (hd : decode cc pc = .ok (.invokespecial index, 3)) (hf : cells + mc ≤ R.cells ∧ slots + ms ≤ R.slots) :
    zRun p l e R s m args below meth c D cl nL cells slots mc ms pc st rest wc (fun sz => Qc sz (Value.ref b :: As).toArray) := fun H locs ls hP hD hl =>
  va_runIN (As := As) (rest := rest) (cx_fix C) (hM H.size) cw ⟨z_blind, z_pre C hP hD⟩ rfl hn hl hst (lv_room hW) hd hf
theorem g_call_i {S : Type} {post : Int32 → S → Prop} {w1 : S → va_W} (C : CX p s m args meth c D cl tys nw cc nL Ts own A) (run : zRun p l e R s m args below meth c D cl nL cells slots mc ms pc st rest wc (fun sz => va_Qi post (zPost D cl tys wc sz w1) (va_A wc sz) a)) (isC isR : List Nat) (hC : isC.map (fun i => ws[i]?) = wc.map some) (hR : isR.map (fun i => ws[i]?) = wr.map some) (hnC : va_nd isC = true) (hnR : va_nd isR = true) (hdis : ∀ i ∈ isR, i ∉ isC)
    (kk : ∀ (r : Int32) (u : S), post r u → G p l e R s m args below meth c D cl nL A (cells + mc) (slots + ms) Q (wr ++ w1 u) (pc + 3) lv (.int r :: rest)) : G p l e R s m args below meth c D cl nL A cells slots Q ws pc lv st := by
  intro H locs ls hP hD hS hl
  have hPc := hP.sub (ws' := wc) isC (z_fm hC)
  have hDc := hD.sub (ws' := wc) isC hnC hC
  have hFc := va_free (wc := wc) hD hS (cx_a C) isC hC
  refine va_calli (run H locs ls hPc (hDc.weaken (fun _ _ _ _ => trivial)) hl.1) hS (fun q _ h => hFc q h) hFc (fun r u t H1 locs1 ht hvm hw hB hz1 hk1 hS1 => ?_)
  obtain ⟨hP1, hK1, hD1⟩ := hB
  rw [ht] at hP1
  obtain ⟨hP2, hD2⟩ := va_join (wr := wr) (w1 := w1 u) hP hD isC isR hC hR hnR hdis hk1 hFc hP1 hD1
  exact kk r u hw H1 locs1 ls hP2 hD2 hS1 hl
theorem g_call_l {S : Type} {post : Int64 → S → Prop} {w1 : S → va_W} (C : CX p s m args meth c D cl tys nw cc nL Ts own A) (run : zRun p l e R s m args below meth c D cl nL cells slots mc ms pc st rest wc (fun sz => va_Ql post (zPost D cl tys wc sz w1) (va_A wc sz) a)) (isC isR : List Nat) (hC : isC.map (fun i => ws[i]?) = wc.map some) (hR : isR.map (fun i => ws[i]?) = wr.map some) (hnC : va_nd isC = true) (hnR : va_nd isR = true) (hdis : ∀ i ∈ isR, i ∉ isC)
    (kk : ∀ (r : Int64) (u : S), post r u → G p l e R s m args below meth c D cl nL A (cells + mc) (slots + ms) Q (wr ++ w1 u) (pc + 3) lv (.long r :: rest)) : G p l e R s m args below meth c D cl nL A cells slots Q ws pc lv st := by
  intro H locs ls hP hD hS hl
  have hPc := hP.sub (ws' := wc) isC (z_fm hC)
  have hDc := hD.sub (ws' := wc) isC hnC hC
  have hFc := va_free (wc := wc) hD hS (cx_a C) isC hC
  refine va_calll (run H locs ls hPc (hDc.weaken (fun _ _ _ _ => trivial)) hl.1) hS (fun q _ h => hFc q h) hFc (fun r u t H1 locs1 ht hvm hw hB hz1 hk1 hS1 => ?_)
  obtain ⟨hP1, hK1, hD1⟩ := hB
  rw [ht] at hP1
  obtain ⟨hP2, hD2⟩ := va_join (wr := wr) (w1 := w1 u) hP hD isC isR hC hR hnR hdis hk1 hFc hP1 hD1
  exact kk r u hw H1 locs1 ls hP2 hD2 hS1 hl
theorem g_call_v {S : Type} {post : S → Prop} {w1 : S → va_W} (C : CX p s m args meth c D cl tys nw cc nL Ts own A) (run : zRun p l e R s m args below meth c D cl nL cells slots mc ms pc st rest wc (fun sz => va_Qv post (zPost D cl tys wc sz w1) (va_A wc sz) a)) (isC isR : List Nat) (hC : isC.map (fun i => ws[i]?) = wc.map some) (hR : isR.map (fun i => ws[i]?) = wr.map some) (hnC : va_nd isC = true) (hnR : va_nd isR = true) (hdis : ∀ i ∈ isR, i ∉ isC)
    (kk : ∀ (u : S), post u → G p l e R s m args below meth c D cl nL A (cells + mc) (slots + ms) Q (wr ++ w1 u) (pc + 3) lv rest) : G p l e R s m args below meth c D cl nL A cells slots Q ws pc lv st := by
  intro H locs ls hP hD hS hl
  have hPc := hP.sub (ws' := wc) isC (z_fm hC)
  have hDc := hD.sub (ws' := wc) isC hnC hC
  have hFc := va_free (wc := wc) hD hS (cx_a C) isC hC
  refine va_callv (run H locs ls hPc (hDc.weaken (fun _ _ _ _ => trivial)) hl.1) hS (fun q _ h => hFc q h) hFc (fun u t H1 locs1 ht hvm hw hB hz1 hk1 hS1 => ?_)
  obtain ⟨hP1, hK1, hD1⟩ := hB
  rw [ht] at hP1
  obtain ⟨hP2, hD2⟩ := va_join (wr := wr) (w1 := w1 u) hP hD isC isR hC hR hnR hdis hk1 hFc hP1 hD1
  exact kk u hw H1 locs1 ls hP2 hD2 hS1 hl
theorem g_call_r {S : Type} {post : S → Prop} {w1 : S → Nat → va_W} (C : CX p s m args meth c D cl tys nw cc nL Ts own A) (run : zRun p l e R s m args below meth c D cl nL cells slots mc ms pc st rest wc (fun sz => va_Qr post (fun u r => zPost D cl tys wc sz (fun u : S => w1 u r) u) (va_A wc sz) a)) (isC isR : List Nat) (hC : isC.map (fun i => ws[i]?) = wc.map some) (hR : isR.map (fun i => ws[i]?) = wr.map some) (hnC : va_nd isC = true) (hnR : va_nd isR = true) (hdis : ∀ i ∈ isR, i ∉ isC)
    (kk : ∀ (u : S) (r : Nat), post u → G p l e R s m args below meth c D cl nL A (cells + mc) (slots + ms) Q (wr ++ w1 u r) (pc + 3) lv (.ref r :: rest)) : G p l e R s m args below meth c D cl nL A cells slots Q ws pc lv st := by
  intro H locs ls hP hD hS hl
  have hPc := hP.sub (ws' := wc) isC (z_fm hC)
  have hDc := hD.sub (ws' := wc) isC hnC hC
  have hFc := va_free (wc := wc) hD hS (cx_a C) isC hC
  refine va_callr (run H locs ls hPc (hDc.weaken (fun _ _ _ _ => trivial)) hl.1) hS (fun q _ h => hFc q h) hFc (fun u r t H1 locs1 ht hvm hw hB hz1 hk1 hS1 => ?_)
  obtain ⟨hP1, hK1, hD1⟩ := hB
  rw [ht] at hP1
  obtain ⟨hP2, hD2⟩ := va_join (wr := wr) (w1 := w1 u r) hP hD isC isR hC hR hnR hdis hk1 hFc hP1 hD1
  exact kk u r hw H1 locs1 ls hP2 hD2 hS1 hl
theorem g_V_i {S : Type} {post : Int32 → S → Prop} {w1 : S → va_W} (C : CX p s m args meth c D cl tys nw cc nL Ts own A) (hM : ∀ sz, Met l y wy rm (va_Pc (.ref b :: As) (zPre D cl tys nw wc sz)) (va_Qi post (zPost D cl tys wc sz w1) (va_A wc sz)) mc ms (va_A wc sz)) (cw : CallW R s args own Cn index y bytes maxL ret wy rm mc ms n) (q0 : Nat) (he : wc[q0]? = some (b, .inr (ci, fs))) (hc : cl[ci]? = some (Cn, T, N)) (hn : As.length = n) (hst : st = As.reverse ++ .ref b :: rest) (hW : (rest.map fun v => v.category).sum ≤ 8) (hd : decode cc pc = .ok (.invokevirtual index, 3)) (hf : cells + mc ≤ R.cells ∧ slots + ms ≤ R.slots) (isC isR : List Nat) (hC : isC.map (fun i => ws[i]?) = wc.map some) (hR : isR.map (fun i => ws[i]?) = wr.map some) (hnC : va_nd isC = true) (hnR : va_nd isR = true) (hdis : ∀ i ∈ isR, i ∉ isC)
    (kk : ∀ (r : Int32) (u : S), post r u → G p l e R s m args below meth c D cl nL A (cells + mc) (slots + ms) Q (wr ++ w1 u) (pc + 3) lv (.int r :: rest)) : G p l e R s m args below meth c D cl nL A cells slots Q ws pc lv st :=
  g_call_i C (z_runV (Qc := fun sz => va_Qi post (zPost D cl tys wc sz w1) (va_A wc sz)) C hM cw q0 he hc hn hst hW hd hf) isC isR hC hR hnC hnR hdis kk
theorem g_V_l {S : Type} {post : Int64 → S → Prop} {w1 : S → va_W} (C : CX p s m args meth c D cl tys nw cc nL Ts own A) (hM : ∀ sz, Met l y wy rm (va_Pc (.ref b :: As) (zPre D cl tys nw wc sz)) (va_Ql post (zPost D cl tys wc sz w1) (va_A wc sz)) mc ms (va_A wc sz)) (cw : CallW R s args own Cn index y bytes maxL ret wy rm mc ms n) (q0 : Nat) (he : wc[q0]? = some (b, .inr (ci, fs))) (hc : cl[ci]? = some (Cn, T, N)) (hn : As.length = n) (hst : st = As.reverse ++ .ref b :: rest) (hW : (rest.map fun v => v.category).sum ≤ 8) (hd : decode cc pc = .ok (.invokevirtual index, 3)) (hf : cells + mc ≤ R.cells ∧ slots + ms ≤ R.slots) (isC isR : List Nat) (hC : isC.map (fun i => ws[i]?) = wc.map some) (hR : isR.map (fun i => ws[i]?) = wr.map some) (hnC : va_nd isC = true) (hnR : va_nd isR = true) (hdis : ∀ i ∈ isR, i ∉ isC)
    (kk : ∀ (r : Int64) (u : S), post r u → G p l e R s m args below meth c D cl nL A (cells + mc) (slots + ms) Q (wr ++ w1 u) (pc + 3) lv (.long r :: rest)) : G p l e R s m args below meth c D cl nL A cells slots Q ws pc lv st :=
  g_call_l C (z_runV (Qc := fun sz => va_Ql post (zPost D cl tys wc sz w1) (va_A wc sz)) C hM cw q0 he hc hn hst hW hd hf) isC isR hC hR hnC hnR hdis kk
theorem g_V_v {S : Type} {post : S → Prop} {w1 : S → va_W} (C : CX p s m args meth c D cl tys nw cc nL Ts own A) (hM : ∀ sz, Met l y wy rm (va_Pc (.ref b :: As) (zPre D cl tys nw wc sz)) (va_Qv post (zPost D cl tys wc sz w1) (va_A wc sz)) mc ms (va_A wc sz)) (cw : CallW R s args own Cn index y bytes maxL ret wy rm mc ms n) (q0 : Nat) (he : wc[q0]? = some (b, .inr (ci, fs))) (hc : cl[ci]? = some (Cn, T, N)) (hn : As.length = n) (hst : st = As.reverse ++ .ref b :: rest) (hW : (rest.map fun v => v.category).sum ≤ 8) (hd : decode cc pc = .ok (.invokevirtual index, 3)) (hf : cells + mc ≤ R.cells ∧ slots + ms ≤ R.slots) (isC isR : List Nat) (hC : isC.map (fun i => ws[i]?) = wc.map some) (hR : isR.map (fun i => ws[i]?) = wr.map some) (hnC : va_nd isC = true) (hnR : va_nd isR = true) (hdis : ∀ i ∈ isR, i ∉ isC)
    (kk : ∀ (u : S), post u → G p l e R s m args below meth c D cl nL A (cells + mc) (slots + ms) Q (wr ++ w1 u) (pc + 3) lv rest) : G p l e R s m args below meth c D cl nL A cells slots Q ws pc lv st :=
  g_call_v C (z_runV (Qc := fun sz => va_Qv post (zPost D cl tys wc sz w1) (va_A wc sz)) C hM cw q0 he hc hn hst hW hd hf) isC isR hC hR hnC hnR hdis kk
theorem g_VN_i {S : Type} {post : Int32 → S → Prop} {w1 : S → va_W} (C : CX p s m args meth c D cl tys nw cc nL Ts own A) (hM : ∀ sz, Met l y wy rm (va_Pc (.ref b :: As) (zPre D cl tys nw wc sz)) (va_Qi post (zPost D cl tys wc sz w1) (va_A wc sz)) mc ms (va_A wc sz)) (cw : va_CN R s args own index y host bytes maxL ret wy rm mc ms n ∧ (Cond.instanceMethod y).before args s = true ∧ (Cond.selects Cn y y).before args s = true) (q0 : Nat) (he : wc[q0]? = some (b, .inr (ci, fs))) (hc : cl[ci]? = some (Cn, T, N)) (hn : As.length = n) (hst : st = As.reverse ++ .ref b :: rest) (hW : (rest.map fun v => v.category).sum ≤ 8) (hd : decode cc pc = .ok (.invokevirtual index, 3)) (hf : cells + mc ≤ R.cells ∧ slots + ms ≤ R.slots) (isC isR : List Nat) (hC : isC.map (fun i => ws[i]?) = wc.map some) (hR : isR.map (fun i => ws[i]?) = wr.map some) (hnC : va_nd isC = true) (hnR : va_nd isR = true) (hdis : ∀ i ∈ isR, i ∉ isC)
    (kk : ∀ (r : Int32) (u : S), post r u → G p l e R s m args below meth c D cl nL A (cells + mc) (slots + ms) Q (wr ++ w1 u) (pc + 3) lv (.int r :: rest)) : G p l e R s m args below meth c D cl nL A cells slots Q ws pc lv st :=
  g_call_i C (z_runVN (Qc := fun sz => va_Qi post (zPost D cl tys wc sz w1) (va_A wc sz)) C hM cw q0 he hc hn hst hW hd hf) isC isR hC hR hnC hnR hdis kk
theorem g_VN_v {S : Type} {post : S → Prop} {w1 : S → va_W} (C : CX p s m args meth c D cl tys nw cc nL Ts own A) (hM : ∀ sz, Met l y wy rm (va_Pc (.ref b :: As) (zPre D cl tys nw wc sz)) (va_Qv post (zPost D cl tys wc sz w1) (va_A wc sz)) mc ms (va_A wc sz)) (cw : va_CN R s args own index y host bytes maxL ret wy rm mc ms n ∧ (Cond.instanceMethod y).before args s = true ∧ (Cond.selects Cn y y).before args s = true) (q0 : Nat) (he : wc[q0]? = some (b, .inr (ci, fs))) (hc : cl[ci]? = some (Cn, T, N)) (hn : As.length = n) (hst : st = As.reverse ++ .ref b :: rest) (hW : (rest.map fun v => v.category).sum ≤ 8) (hd : decode cc pc = .ok (.invokevirtual index, 3)) (hf : cells + mc ≤ R.cells ∧ slots + ms ≤ R.slots) (isC isR : List Nat) (hC : isC.map (fun i => ws[i]?) = wc.map some) (hR : isR.map (fun i => ws[i]?) = wr.map some) (hnC : va_nd isC = true) (hnR : va_nd isR = true) (hdis : ∀ i ∈ isR, i ∉ isC)
    (kk : ∀ (u : S), post u → G p l e R s m args below meth c D cl nL A (cells + mc) (slots + ms) Q (wr ++ w1 u) (pc + 3) lv rest) : G p l e R s m args below meth c D cl nL A cells slots Q ws pc lv st :=
  g_call_v C (z_runVN (Qc := fun sz => va_Qv post (zPost D cl tys wc sz w1) (va_A wc sz)) C hM cw q0 he hc hn hst hW hd hf) isC isR hC hR hnC hnR hdis kk
theorem g_S_i {S : Type} {post : Int32 → S → Prop} {w1 : S → va_W} (C : CX p s m args meth c D cl tys nw cc nL Ts own A) (hM : ∀ sz, Met l y wy rm (va_Pc (As) (zPre D cl tys nw wc sz)) (va_Qi post (zPost D cl tys wc sz w1) (va_A wc sz)) mc ms (va_A wc sz)) (cw : CallB R s args own index y bytes maxL ret wy rm mc ms n ∧ (Cond.static y).before args s = true) (hn : As.length = n) (hst : st = As.reverse ++ rest) (hW : (rest.map fun v => v.category).sum ≤ 8) (hd : decode cc pc = .ok (.invokestatic index, 3)) (hf : cells + mc ≤ R.cells ∧ slots + ms ≤ R.slots) (isC isR : List Nat) (hC : isC.map (fun i => ws[i]?) = wc.map some) (hR : isR.map (fun i => ws[i]?) = wr.map some) (hnC : va_nd isC = true) (hnR : va_nd isR = true) (hdis : ∀ i ∈ isR, i ∉ isC)
    (kk : ∀ (r : Int32) (u : S), post r u → G p l e R s m args below meth c D cl nL A (cells + mc) (slots + ms) Q (wr ++ w1 u) (pc + 3) lv (.int r :: rest)) : G p l e R s m args below meth c D cl nL A cells slots Q ws pc lv st :=
  g_call_i C (z_runS (Qc := fun sz => va_Qi post (zPost D cl tys wc sz w1) (va_A wc sz)) C hM cw hn hst hW hd hf) isC isR hC hR hnC hnR hdis kk
theorem g_S_l {S : Type} {post : Int64 → S → Prop} {w1 : S → va_W} (C : CX p s m args meth c D cl tys nw cc nL Ts own A) (hM : ∀ sz, Met l y wy rm (va_Pc (As) (zPre D cl tys nw wc sz)) (va_Ql post (zPost D cl tys wc sz w1) (va_A wc sz)) mc ms (va_A wc sz)) (cw : CallB R s args own index y bytes maxL ret wy rm mc ms n ∧ (Cond.static y).before args s = true) (hn : As.length = n) (hst : st = As.reverse ++ rest) (hW : (rest.map fun v => v.category).sum ≤ 8) (hd : decode cc pc = .ok (.invokestatic index, 3)) (hf : cells + mc ≤ R.cells ∧ slots + ms ≤ R.slots) (isC isR : List Nat) (hC : isC.map (fun i => ws[i]?) = wc.map some) (hR : isR.map (fun i => ws[i]?) = wr.map some) (hnC : va_nd isC = true) (hnR : va_nd isR = true) (hdis : ∀ i ∈ isR, i ∉ isC)
    (kk : ∀ (r : Int64) (u : S), post r u → G p l e R s m args below meth c D cl nL A (cells + mc) (slots + ms) Q (wr ++ w1 u) (pc + 3) lv (.long r :: rest)) : G p l e R s m args below meth c D cl nL A cells slots Q ws pc lv st :=
  g_call_l C (z_runS (Qc := fun sz => va_Ql post (zPost D cl tys wc sz w1) (va_A wc sz)) C hM cw hn hst hW hd hf) isC isR hC hR hnC hnR hdis kk
theorem g_S_v {S : Type} {post : S → Prop} {w1 : S → va_W} (C : CX p s m args meth c D cl tys nw cc nL Ts own A) (hM : ∀ sz, Met l y wy rm (va_Pc (As) (zPre D cl tys nw wc sz)) (va_Qv post (zPost D cl tys wc sz w1) (va_A wc sz)) mc ms (va_A wc sz)) (cw : CallB R s args own index y bytes maxL ret wy rm mc ms n ∧ (Cond.static y).before args s = true) (hn : As.length = n) (hst : st = As.reverse ++ rest) (hW : (rest.map fun v => v.category).sum ≤ 8) (hd : decode cc pc = .ok (.invokestatic index, 3)) (hf : cells + mc ≤ R.cells ∧ slots + ms ≤ R.slots) (isC isR : List Nat) (hC : isC.map (fun i => ws[i]?) = wc.map some) (hR : isR.map (fun i => ws[i]?) = wr.map some) (hnC : va_nd isC = true) (hnR : va_nd isR = true) (hdis : ∀ i ∈ isR, i ∉ isC)
    (kk : ∀ (u : S), post u → G p l e R s m args below meth c D cl nL A (cells + mc) (slots + ms) Q (wr ++ w1 u) (pc + 3) lv rest) : G p l e R s m args below meth c D cl nL A cells slots Q ws pc lv st :=
  g_call_v C (z_runS (Qc := fun sz => va_Qv post (zPost D cl tys wc sz w1) (va_A wc sz)) C hM cw hn hst hW hd hf) isC isR hC hR hnC hnR hdis kk
theorem g_S_r {S : Type} {post : S → Prop} {w1 : S → Nat → va_W} (C : CX p s m args meth c D cl tys nw cc nL Ts own A) (hM : ∀ sz, Met l y wy rm (va_Pc (As) (zPre D cl tys nw wc sz)) (va_Qr post (fun u r => zPost D cl tys wc sz (fun u : S => w1 u r) u) (va_A wc sz)) mc ms (va_A wc sz)) (cw : CallB R s args own index y bytes maxL ret wy rm mc ms n ∧ (Cond.static y).before args s = true) (hn : As.length = n) (hst : st = As.reverse ++ rest) (hW : (rest.map fun v => v.category).sum ≤ 8) (hd : decode cc pc = .ok (.invokestatic index, 3)) (hf : cells + mc ≤ R.cells ∧ slots + ms ≤ R.slots) (isC isR : List Nat) (hC : isC.map (fun i => ws[i]?) = wc.map some) (hR : isR.map (fun i => ws[i]?) = wr.map some) (hnC : va_nd isC = true) (hnR : va_nd isR = true) (hdis : ∀ i ∈ isR, i ∉ isC)
    (kk : ∀ (u : S) (r : Nat), post u → G p l e R s m args below meth c D cl nL A (cells + mc) (slots + ms) Q (wr ++ w1 u r) (pc + 3) lv (.ref r :: rest)) : G p l e R s m args below meth c D cl nL A cells slots Q ws pc lv st :=
  g_call_r C (z_runS (Qc := fun sz => va_Qr post (fun u r => zPost D cl tys wc sz (fun u : S => w1 u r) u) (va_A wc sz)) C hM cw hn hst hW hd hf) isC isR hC hR hnC hnR hdis kk
theorem g_SN_i {S : Type} {post : Int32 → S → Prop} {w1 : S → va_W} (C : CX p s m args meth c D cl tys nw cc nL Ts own A) (hM : ∀ sz, Met l y wy rm (va_Pc (As) (zPre D cl tys nw wc sz)) (va_Qi post (zPost D cl tys wc sz w1) (va_A wc sz)) mc ms (va_A wc sz)) (cw : va_CN R s args own index y host bytes maxL ret wy rm mc ms n ∧ (Cond.static y).before args s = true ∧ True) (hn : As.length = n) (hst : st = As.reverse ++ rest) (hW : (rest.map fun v => v.category).sum ≤ 8) (hd : decode cc pc = .ok (.invokestatic index, 3)) (hf : cells + mc ≤ R.cells ∧ slots + ms ≤ R.slots) (isC isR : List Nat) (hC : isC.map (fun i => ws[i]?) = wc.map some) (hR : isR.map (fun i => ws[i]?) = wr.map some) (hnC : va_nd isC = true) (hnR : va_nd isR = true) (hdis : ∀ i ∈ isR, i ∉ isC)
    (kk : ∀ (r : Int32) (u : S), post r u → G p l e R s m args below meth c D cl nL A (cells + mc) (slots + ms) Q (wr ++ w1 u) (pc + 3) lv (.int r :: rest)) : G p l e R s m args below meth c D cl nL A cells slots Q ws pc lv st :=
  g_call_i C (z_runSN (Qc := fun sz => va_Qi post (zPost D cl tys wc sz w1) (va_A wc sz)) C hM cw hn hst hW hd hf) isC isR hC hR hnC hnR hdis kk
theorem g_SN_l {S : Type} {post : Int64 → S → Prop} {w1 : S → va_W} (C : CX p s m args meth c D cl tys nw cc nL Ts own A) (hM : ∀ sz, Met l y wy rm (va_Pc (As) (zPre D cl tys nw wc sz)) (va_Ql post (zPost D cl tys wc sz w1) (va_A wc sz)) mc ms (va_A wc sz)) (cw : va_CN R s args own index y host bytes maxL ret wy rm mc ms n ∧ (Cond.static y).before args s = true ∧ True) (hn : As.length = n) (hst : st = As.reverse ++ rest) (hW : (rest.map fun v => v.category).sum ≤ 8) (hd : decode cc pc = .ok (.invokestatic index, 3)) (hf : cells + mc ≤ R.cells ∧ slots + ms ≤ R.slots) (isC isR : List Nat) (hC : isC.map (fun i => ws[i]?) = wc.map some) (hR : isR.map (fun i => ws[i]?) = wr.map some) (hnC : va_nd isC = true) (hnR : va_nd isR = true) (hdis : ∀ i ∈ isR, i ∉ isC)
    (kk : ∀ (r : Int64) (u : S), post r u → G p l e R s m args below meth c D cl nL A (cells + mc) (slots + ms) Q (wr ++ w1 u) (pc + 3) lv (.long r :: rest)) : G p l e R s m args below meth c D cl nL A cells slots Q ws pc lv st :=
  g_call_l C (z_runSN (Qc := fun sz => va_Ql post (zPost D cl tys wc sz w1) (va_A wc sz)) C hM cw hn hst hW hd hf) isC isR hC hR hnC hnR hdis kk
theorem g_SN_v {S : Type} {post : S → Prop} {w1 : S → va_W} (C : CX p s m args meth c D cl tys nw cc nL Ts own A) (hM : ∀ sz, Met l y wy rm (va_Pc (As) (zPre D cl tys nw wc sz)) (va_Qv post (zPost D cl tys wc sz w1) (va_A wc sz)) mc ms (va_A wc sz)) (cw : va_CN R s args own index y host bytes maxL ret wy rm mc ms n ∧ (Cond.static y).before args s = true ∧ True) (hn : As.length = n) (hst : st = As.reverse ++ rest) (hW : (rest.map fun v => v.category).sum ≤ 8) (hd : decode cc pc = .ok (.invokestatic index, 3)) (hf : cells + mc ≤ R.cells ∧ slots + ms ≤ R.slots) (isC isR : List Nat) (hC : isC.map (fun i => ws[i]?) = wc.map some) (hR : isR.map (fun i => ws[i]?) = wr.map some) (hnC : va_nd isC = true) (hnR : va_nd isR = true) (hdis : ∀ i ∈ isR, i ∉ isC)
    (kk : ∀ (u : S), post u → G p l e R s m args below meth c D cl nL A (cells + mc) (slots + ms) Q (wr ++ w1 u) (pc + 3) lv rest) : G p l e R s m args below meth c D cl nL A cells slots Q ws pc lv st :=
  g_call_v C (z_runSN (Qc := fun sz => va_Qv post (zPost D cl tys wc sz w1) (va_A wc sz)) C hM cw hn hst hW hd hf) isC isR hC hR hnC hnR hdis kk
theorem g_I_v {S : Type} {post : S → Prop} {w1 : S → va_W} (C : CX p s m args meth c D cl tys nw cc nL Ts own A) (hM : ∀ sz, Met l y wy rm (va_Pc (.ref b :: As) (zPre D cl tys nw wc sz)) (va_Qv post (zPost D cl tys wc sz w1) (va_A wc sz)) mc ms (va_A wc sz)) (cw : CallB R s args own index y bytes maxL none wy rm mc ms n ∧ y.name = "<init>" ∧ (Cond.instanceMethod y).before args s = true) (hn : As.length = n) (hst : st = As.reverse ++ .ref b :: rest) (hW : (rest.map fun v => v.category).sum ≤ 8) (hd : decode cc pc = .ok (.invokespecial index, 3)) (hf : cells + mc ≤ R.cells ∧ slots + ms ≤ R.slots) (isC isR : List Nat) (hC : isC.map (fun i => ws[i]?) = wc.map some) (hR : isR.map (fun i => ws[i]?) = wr.map some) (hnC : va_nd isC = true) (hnR : va_nd isR = true) (hdis : ∀ i ∈ isR, i ∉ isC)
    (kk : ∀ (u : S), post u → G p l e R s m args below meth c D cl nL A (cells + mc) (slots + ms) Q (wr ++ w1 u) (pc + 3) lv rest) : G p l e R s m args below meth c D cl nL A cells slots Q ws pc lv st :=
  g_call_v C (z_runI (Qc := fun sz => va_Qv post (zPost D cl tys wc sz w1) (va_A wc sz)) C hM cw hn hst hW hd hf) isC isR hC hR hnC hnR hdis kk
theorem g_IN_v {S : Type} {post : S → Prop} {w1 : S → va_W} (C : CX p s m args meth c D cl tys nw cc nL Ts own A) (hM : ∀ sz, Met l y wy rm (va_Pc (.ref b :: As) (zPre D cl tys nw wc sz)) (va_Qv post (zPost D cl tys wc sz w1) (va_A wc sz)) mc ms (va_A wc sz)) (cw : va_CN R s args own index y host bytes maxL none wy rm mc ms n ∧ y.name = "<init>" ∧ (Cond.instanceMethod y).before args s = true) (hn : As.length = n) (hst : st = As.reverse ++ .ref b :: rest) (hW : (rest.map fun v => v.category).sum ≤ 8) (hd : decode cc pc = .ok (.invokespecial index, 3)) (hf : cells + mc ≤ R.cells ∧ slots + ms ≤ R.slots) (isC isR : List Nat) (hC : isC.map (fun i => ws[i]?) = wc.map some) (hR : isR.map (fun i => ws[i]?) = wr.map some) (hnC : va_nd isC = true) (hnR : va_nd isR = true) (hdis : ∀ i ∈ isR, i ∉ isC)
    (kk : ∀ (u : S), post u → G p l e R s m args below meth c D cl nL A (cells + mc) (slots + ms) Q (wr ++ w1 u) (pc + 3) lv rest) : G p l e R s m args below meth c D cl nL A cells slots Q ws pc lv st :=
  g_call_v C (z_runIN (Qc := fun sz => va_Qv post (zPost D cl tys wc sz w1) (va_A wc sz)) C hM cw hn hst hW hd hf) isC isR hC hR hnC hnR hdis kk
end CALLS
theorem met_i {l : Launch} {y : MethodName} {wy wy' : List Cond} {rm : Room} {D : va_G} {cl : List vw_C} {tys : List (ClassId × FieldType)} {nw : List Cond} {cc : ByteArray} {maxL mc ms : Nat} {S : Type} {post : Int32 → S → Prop} {w1 : S → va_W} {W0 : va_W} {av : List Value} (hy : plainName y.cls = true) (hw : wy = Cond.code y cc maxL (some .int) :: wy') (hlen : (lg_sl av).length ≤ maxL)
    (body : ∀ (p : Program) (e : Env) (s : State) (m : MethodId) (below : List Frame) (meth : Method) (c : Code) (A : Nat → Prop) (Q : State → Prop), CX p s m av.toArray meth c D cl tys nw cc maxL wy y.cls A → meth.name = y.name →
      (∀ (pc : Nat) (lv : List (Nat × Value)) (r : Int32) (u : S), post r u → decode cc pc = .ok (.ireturn, 1) → G p l e rm s m av.toArray below meth c D cl maxL A mc ms Q (w1 u) pc lv [.int r]) →
      G p l e rm s m av.toArray below meth c D cl maxL A 0 0 Q W0 0 (lv_args 0 av) []) :
    ∀ sz, Met l y wy rm (va_Pc av (zPre D cl tys nw W0 sz)) (va_Qi post (zPost D cl tys W0 sz w1) (va_A W0 sz)) mc ms (va_A W0 sz) := by
  intro sz
  refine Met.ofW (cc := cc) (maxL := maxL) (ret := some .int) hy hw ?_
  intro p e s m args below meth c s₁ B hml hv
  obtain ⟨rfl, hsz, hP, hK, hD0, hN, hNo⟩ := hv
  have hx := B.exec
  have hb := B.bytes
  have hr := B.returns
  have hlocks := B.notSynchronized
  subst hsz
  have hD := hD0.self (sz := s.heap.size)
  have C : CX p s m av.toArray meth c D cl tys nw cc maxL wy y.cls (va_A W0 s.heap.size) := ⟨hx, hb, hml, findClass_of_methodNamed B.named, atoms_spec (ws := wy) B.pre, hK, fun q h => Or.inr h, hlocks, hN, hNo⟩
  rw [lg_entry_eq]
  refine body p e s m below meth c (va_A W0 s.heap.size) _ C (name_of_methodNamed B.named B.method).1 ?_ s.heap [] _ hP hD va_S.rf (lv_entry av hlen)
  intro pc lv r u hp hd H locs ls hP1 hD1 hS1 hl1
  exact W.iret (v := r) hx hb hr (fun t ht hW => ⟨⟨r, u, rfl, hp, by rw [ht]; exact hP1, va_K.moved hW.alike hK, hD1⟩, hS1.F ht⟩) hS1.2.2 hd
theorem met_z {l : Launch} {y : MethodName} {wy wy' : List Cond} {rm : Room} {D : va_G} {cl : List vw_C} {tys : List (ClassId × FieldType)} {nw : List Cond} {cc : ByteArray} {maxL mc ms : Nat} {S : Type} {post : Int32 → S → Prop} {w1 : S → va_W} {W0 : va_W} {av : List Value} (hy : plainName y.cls = true) (hw : wy = Cond.code y cc maxL (some .boolean) :: wy') (hlen : (lg_sl av).length ≤ maxL)
    (body : ∀ (p : Program) (e : Env) (s : State) (m : MethodId) (below : List Frame) (meth : Method) (c : Code) (A : Nat → Prop) (Q : State → Prop), CX p s m av.toArray meth c D cl tys nw cc maxL wy y.cls A → meth.name = y.name →
      (∀ (pc : Nat) (lv : List (Nat × Value)) (r : Int32) (u : S), post r u → narrow .boolean (.int r) = .int r → decode cc pc = .ok (.ireturn, 1) → G p l e rm s m av.toArray below meth c D cl maxL A mc ms Q (w1 u) pc lv [.int r]) →
      G p l e rm s m av.toArray below meth c D cl maxL A 0 0 Q W0 0 (lv_args 0 av) []) :
    ∀ sz, Met l y wy rm (va_Pc av (zPre D cl tys nw W0 sz)) (va_Qi post (zPost D cl tys W0 sz w1) (va_A W0 sz)) mc ms (va_A W0 sz) := by
  intro sz
  refine Met.ofW (cc := cc) (maxL := maxL) (ret := some .boolean) hy hw ?_
  intro p e s m args below meth c s₁ B hml hv
  obtain ⟨rfl, hsz, hP, hK, hD0, hN, hNo⟩ := hv
  have hx := B.exec
  have hb := B.bytes
  have hr := B.returns
  have hlocks := B.notSynchronized
  subst hsz
  have hD := hD0.self (sz := s.heap.size)
  have C : CX p s m av.toArray meth c D cl tys nw cc maxL wy y.cls (va_A W0 s.heap.size) := ⟨hx, hb, hml, findClass_of_methodNamed B.named, atoms_spec (ws := wy) B.pre, hK, fun q h => Or.inr h, hlocks, hN, hNo⟩
  rw [lg_entry_eq]
  refine body p e s m below meth c (va_A W0 s.heap.size) _ C (name_of_methodNamed B.named B.method).1 ?_ s.heap [] _ hP hD va_S.rf (lv_entry av hlen)
  intro pc lv r u hp hz hd H locs ls hP1 hD1 hS1 hl1
  exact W.zret (v := r) hx hb hr hz (fun t ht hW => ⟨⟨r, u, rfl, hp, by rw [ht]; exact hP1, va_K.moved hW.alike hK, hD1⟩, hS1.F ht⟩) hS1.2.2 hd
theorem met_l {l : Launch} {y : MethodName} {wy wy' : List Cond} {rm : Room} {D : va_G} {cl : List vw_C} {tys : List (ClassId × FieldType)} {nw : List Cond} {cc : ByteArray} {maxL mc ms : Nat} {S : Type} {post : Int64 → S → Prop} {w1 : S → va_W} {W0 : va_W} {av : List Value} (hy : plainName y.cls = true) (hw : wy = Cond.code y cc maxL (some .long) :: wy') (hlen : (lg_sl av).length ≤ maxL)
    (body : ∀ (p : Program) (e : Env) (s : State) (m : MethodId) (below : List Frame) (meth : Method) (c : Code) (A : Nat → Prop) (Q : State → Prop), CX p s m av.toArray meth c D cl tys nw cc maxL wy y.cls A → meth.name = y.name →
      (∀ (pc : Nat) (lv : List (Nat × Value)) (r : Int64) (u : S), post r u → decode cc pc = .ok (.lreturn, 1) → G p l e rm s m av.toArray below meth c D cl maxL A mc ms Q (w1 u) pc lv [.long r]) →
      G p l e rm s m av.toArray below meth c D cl maxL A 0 0 Q W0 0 (lv_args 0 av) []) :
    ∀ sz, Met l y wy rm (va_Pc av (zPre D cl tys nw W0 sz)) (va_Ql post (zPost D cl tys W0 sz w1) (va_A W0 sz)) mc ms (va_A W0 sz) := by
  intro sz
  refine Met.ofW (cc := cc) (maxL := maxL) (ret := some .long) hy hw ?_
  intro p e s m args below meth c s₁ B hml hv
  obtain ⟨rfl, hsz, hP, hK, hD0, hN, hNo⟩ := hv
  have hx := B.exec
  have hb := B.bytes
  have hr := B.returns
  have hlocks := B.notSynchronized
  subst hsz
  have hD := hD0.self (sz := s.heap.size)
  have C : CX p s m av.toArray meth c D cl tys nw cc maxL wy y.cls (va_A W0 s.heap.size) := ⟨hx, hb, hml, findClass_of_methodNamed B.named, atoms_spec (ws := wy) B.pre, hK, fun q h => Or.inr h, hlocks, hN, hNo⟩
  rw [lg_entry_eq]
  refine body p e s m below meth c (va_A W0 s.heap.size) _ C (name_of_methodNamed B.named B.method).1 ?_ s.heap [] _ hP hD va_S.rf (lv_entry av hlen)
  intro pc lv r u hp hd H locs ls hP1 hD1 hS1 hl1
  exact W.lret (v := r) hx hb hr (fun t ht hW => ⟨⟨r, u, rfl, hp, by rw [ht]; exact hP1, va_K.moved hW.alike hK, hD1⟩, hS1.F ht⟩) hS1.2.2 hd
theorem met_v {l : Launch} {y : MethodName} {wy wy' : List Cond} {rm : Room} {D : va_G} {cl : List vw_C} {tys : List (ClassId × FieldType)} {nw : List Cond} {cc : ByteArray} {maxL mc ms : Nat} {S : Type} {post : S → Prop} {w1 : S → va_W} {W0 : va_W} {av : List Value} (hy : plainName y.cls = true) (hw : wy = Cond.code y cc maxL (none) :: wy') (hlen : (lg_sl av).length ≤ maxL)
    (body : ∀ (p : Program) (e : Env) (s : State) (m : MethodId) (below : List Frame) (meth : Method) (c : Code) (A : Nat → Prop) (Q : State → Prop), CX p s m av.toArray meth c D cl tys nw cc maxL wy y.cls A → meth.name = y.name →
      (∀ (pc : Nat) (lv : List (Nat × Value)) (u : S), post u → decode cc pc = .ok (.return_, 1) → G p l e rm s m av.toArray below meth c D cl maxL A mc ms Q (w1 u) pc lv []) →
      G p l e rm s m av.toArray below meth c D cl maxL A 0 0 Q W0 0 (lv_args 0 av) []) :
    ∀ sz, Met l y wy rm (va_Pc av (zPre D cl tys nw W0 sz)) (va_Qv post (zPost D cl tys W0 sz w1) (va_A W0 sz)) mc ms (va_A W0 sz) := by
  intro sz
  refine Met.ofW (cc := cc) (maxL := maxL) (ret := none) hy hw ?_
  intro p e s m args below meth c s₁ B hml hv
  obtain ⟨rfl, hsz, hP, hK, hD0, hN, hNo⟩ := hv
  have hx := B.exec
  have hb := B.bytes
  have hr := B.returns
  have hlocks := B.notSynchronized
  subst hsz
  have hD := hD0.self (sz := s.heap.size)
  have C : CX p s m av.toArray meth c D cl tys nw cc maxL wy y.cls (va_A W0 s.heap.size) := ⟨hx, hb, hml, findClass_of_methodNamed B.named, atoms_spec (ws := wy) B.pre, hK, fun q h => Or.inr h, hlocks, hN, hNo⟩
  rw [lg_entry_eq]
  refine body p e s m below meth c (va_A W0 s.heap.size) _ C (name_of_methodNamed B.named B.method).1 ?_ s.heap [] _ hP hD va_S.rf (lv_entry av hlen)
  intro pc lv u hp hd H locs ls hP1 hD1 hS1 hl1
  exact W.vret hx hb hr (fun t ht hW => ⟨⟨u, rfl, hp, by rw [ht]; exact hP1, va_K.moved hW.alike hK, hD1⟩, hS1.F ht⟩) hS1.2.2 hd
end
section
/-! WORDS: one list for all methods, the tables' good words -/
def stGW : List Cond := lw_tbl.filter goodWord
theorem st_t0 {w : Cond} (h : w ∈ k2_sels lw_privs) (g : goodWord w = true) : w ∈ stGW := List.mem_filter.mpr ⟨List.mem_append_left _ h, g⟩
theorem st_t1 {w : Cond} (h : w ∈ tables_1_1) (g : goodWord w = true) : w ∈ stGW := List.mem_filter.mpr ⟨List.mem_append_right _ (List.mem_append_left _ h), g⟩
theorem st_t2 {w : Cond} (h : w ∈ tables_1_2) (g : goodWord w = true) : w ∈ stGW := List.mem_filter.mpr ⟨List.mem_append_right _ (List.mem_append_right _ (List.mem_append_left _ h)), g⟩
theorem st_t3 {w : Cond} (h : w ∈ tables_1_3) (g : goodWord w = true) : w ∈ stGW := List.mem_filter.mpr ⟨List.mem_append_right _ (List.mem_append_right _ (List.mem_append_right _ (List.mem_append_left _ h))), g⟩
theorem st_t4 {w : Cond} (h : w ∈ tables_1_4) (g : goodWord w = true) : w ∈ stGW := List.mem_filter.mpr ⟨List.mem_append_right _ (List.mem_append_right _ (List.mem_append_right _ (List.mem_append_right _ h))), g⟩
theorem st_all {ws : List Cond} (h : ∀ w ∈ ws, w ∈ lw_tbl ∧ goodWord w = true) : ∀ w ∈ ws, w ∈ stGW := fun w q => List.mem_filter.mpr (h w q)
theorem st_sub {ws : List Cond} {c0 : Cond} (h : ∀ w ∈ ws, w ∈ stGW) : ∀ w ∈ ws, w ∈ c0 :: stGW := fun w q => List.mem_cons_of_mem _ (h w q)
theorem st_good1 {c0 c1 : Cond} (h : c1 ∈ stGW) : GoodIn (c0 :: stGW) (c1 :: stGW) := fun w hw => by
  have h1 : w ∈ stGW := by
    rcases List.mem_cons.mp hw with q | q
    · subst q; exact h
    · exact q
  exact ⟨List.mem_cons_of_mem _ h1, good_of_word (List.mem_filter.mp h1).2⟩
section WORDS
variable {p : Program} {R : Room} {s : State} {m : MethodId} {args : Array Value} {meth : Method} {c : Code} {D : va_G} {cl : List vw_C} {tys : List (ClassId × FieldType)} {nw : List Cond} {cc : ByteArray} {nL : Nat} {c0 : Cond} {own : String} {A : Nat → Prop} {y : MethodName} {bytes : ByteArray} {maxL n index : Nat} {ret : Option FieldType} {rm : Room} {Cn host : String}
theorem st_cb (C : CX p s m args meth c D cl tys nw cc nL (c0 :: stGW) own A) (hc : Cond.code y bytes maxL ret ∈ stGW) (hl : Cond.methodLink own index y ∈ stGW) (hini : Cond.initialized y.cls ∈ stGW) (hd : y.cls ≠ "java/lang/invoke/MethodHandle" ∧ y.cls ≠ "java/lang/invoke/VarHandle" ∧ (parseMethodDescriptor y.desc).map (fun d => d.parameters.length) = some n) (hR : rm.frames + 1 ≤ R.frames ∧ 8 + (maxL + 11) + rm.locals ≤ R.locals) : CallB R s args own index y bytes maxL ret (Cond.code y bytes maxL ret :: stGW) rm rm.cells rm.slots n :=
  callB_of n C.2.2.2.2.1 (st_good1 hc) rfl rfl rfl (cx_ts C (List.mem_cons_of_mem _ hini)) (cx_ts C (List.mem_cons_of_mem _ hl)) hd hR
theorem st_cV (C : CX p s m args meth c D cl tys nw cc nL (c0 :: stGW) own A) (hc : Cond.code y bytes maxL ret ∈ stGW) (hl : Cond.methodLink own index y ∈ stGW) (hini : Cond.initialized y.cls ∈ stGW) (hi : Cond.instanceMethod y ∈ stGW) (hs : Cond.selects Cn y y ∈ stGW) (hd : y.cls ≠ "java/lang/invoke/MethodHandle" ∧ y.cls ≠ "java/lang/invoke/VarHandle" ∧ (parseMethodDescriptor y.desc).map (fun d => d.parameters.length) = some n) (hR : rm.frames + 1 ≤ R.frames ∧ 8 + (maxL + 11) + rm.locals ≤ R.locals) : CallW R s args own Cn index y bytes maxL ret (Cond.code y bytes maxL ret :: stGW) rm rm.cells rm.slots n :=
  ⟨st_cb C hc hl hini hd hR, cx_ts C (List.mem_cons_of_mem _ hi), cx_ts C (List.mem_cons_of_mem _ hs)⟩
theorem st_cS (C : CX p s m args meth c D cl tys nw cc nL (c0 :: stGW) own A) (hc : Cond.code y bytes maxL ret ∈ stGW) (hl : Cond.methodLink own index y ∈ stGW) (hini : Cond.initialized y.cls ∈ stGW) (hs : Cond.static y ∈ stGW) (hd : y.cls ≠ "java/lang/invoke/MethodHandle" ∧ y.cls ≠ "java/lang/invoke/VarHandle" ∧ (parseMethodDescriptor y.desc).map (fun d => d.parameters.length) = some n) (hR : rm.frames + 1 ≤ R.frames ∧ 8 + (maxL + 11) + rm.locals ≤ R.locals) : CallB R s args own index y bytes maxL ret (Cond.code y bytes maxL ret :: stGW) rm rm.cells rm.slots n ∧ (Cond.static y).before args s = true :=
  ⟨st_cb C hc hl hini hd hR, cx_ts C (List.mem_cons_of_mem _ hs)⟩
theorem st_cI (C : CX p s m args meth c D cl tys nw cc nL (c0 :: stGW) own A) (hc : Cond.code y bytes maxL none ∈ stGW) (hl : Cond.methodLink own index y ∈ stGW) (hini : Cond.initialized y.cls ∈ stGW) (hi : Cond.instanceMethod y ∈ stGW) (hy : y.name = "<init>") (hd : y.cls ≠ "java/lang/invoke/MethodHandle" ∧ y.cls ≠ "java/lang/invoke/VarHandle" ∧ (parseMethodDescriptor y.desc).map (fun d => d.parameters.length) = some n) (hR : rm.frames + 1 ≤ R.frames ∧ 8 + (maxL + 11) + rm.locals ≤ R.locals) : CallB R s args own index y bytes maxL none (Cond.code y bytes maxL none :: stGW) rm rm.cells rm.slots n ∧ y.name = "<init>" ∧ (Cond.instanceMethod y).before args s = true :=
  ⟨st_cb C hc hl hini hd hR, hy, cx_ts C (List.mem_cons_of_mem _ hi)⟩
theorem st_cn (C : CX p s m args meth c D cl tys nw cc nL (c0 :: stGW) own A) (hc : Cond.code y bytes maxL ret ∈ stGW) (hl : Cond.methodLinkNest own index y host ∈ nw) (hini : Cond.initialized y.cls ∈ stGW) (hd : y.cls ≠ "java/lang/invoke/MethodHandle" ∧ y.cls ≠ "java/lang/invoke/VarHandle" ∧ (parseMethodDescriptor y.desc).map (fun d => d.parameters.length) = some n) (hR : rm.frames + 1 ≤ R.frames ∧ 8 + (maxL + 11) + rm.locals ≤ R.locals) : va_CN R s args own index y host bytes maxL ret (Cond.code y bytes maxL ret :: stGW) rm rm.cells rm.slots n :=
  va_cnB n C.2.2.2.2.1 (st_good1 hc) rfl rfl rfl (C.2.2.2.2.2.2.2.2.1 _ hl) (cx_ts C (List.mem_cons_of_mem _ hini)) hd hR
theorem st_cSN (C : CX p s m args meth c D cl tys nw cc nL (c0 :: stGW) own A) (hc : Cond.code y bytes maxL ret ∈ stGW) (hl : Cond.methodLinkNest own index y host ∈ nw) (hini : Cond.initialized y.cls ∈ stGW) (hs : Cond.static y ∈ stGW) (hd : y.cls ≠ "java/lang/invoke/MethodHandle" ∧ y.cls ≠ "java/lang/invoke/VarHandle" ∧ (parseMethodDescriptor y.desc).map (fun d => d.parameters.length) = some n) (hR : rm.frames + 1 ≤ R.frames ∧ 8 + (maxL + 11) + rm.locals ≤ R.locals) : va_CN R s args own index y host bytes maxL ret (Cond.code y bytes maxL ret :: stGW) rm rm.cells rm.slots n ∧ (Cond.static y).before args s = true ∧ True :=
  ⟨st_cn C hc hl hini hd hR, cx_ts C (List.mem_cons_of_mem _ hs), trivial⟩
theorem st_cIN (C : CX p s m args meth c D cl tys nw cc nL (c0 :: stGW) own A) (hc : Cond.code y bytes maxL none ∈ stGW) (hl : Cond.methodLinkNest own index y host ∈ nw) (hini : Cond.initialized y.cls ∈ stGW) (hi : Cond.instanceMethod y ∈ stGW) (hy : y.name = "<init>") (hd : y.cls ≠ "java/lang/invoke/MethodHandle" ∧ y.cls ≠ "java/lang/invoke/VarHandle" ∧ (parseMethodDescriptor y.desc).map (fun d => d.parameters.length) = some n) (hR : rm.frames + 1 ≤ R.frames ∧ 8 + (maxL + 11) + rm.locals ≤ R.locals) : va_CN R s args own index y host bytes maxL none (Cond.code y bytes maxL none :: stGW) rm rm.cells rm.slots n ∧ y.name = "<init>" ∧ (Cond.instanceMethod y).before args s = true :=
  ⟨st_cn C hc hl hini hd hR, hy, cx_ts C (List.mem_cons_of_mem _ hi)⟩
end WORDS
end
