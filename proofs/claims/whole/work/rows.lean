section
-- ===== PART A: goes FIRST, ahead of the names: the tables' words, and 'selects' of the private methods out of them =====
/-- a private method of a class that the tables say can be made, by its rows of tables_1 -/
def lw_okq (q : MethodName × Nat) : Prop := (q.1.cls ≠ "java/lang/invoke/MethodHandle" ∧ q.1.cls ≠ "java/lang/invoke/VarHandle") ∧ Cond.instantiable q.1.cls q.2 ∈ tables_1 ∧ Cond.privateMethod q.1 ∈ tables_1 ∧ Cond.instanceMethod q.1 ∈ tables_1
theorem lw_p0 : lw_okq (⟨"StateTables$Layers", "layBehind", "(I)Z"⟩, 10) := ⟨⟨by decide +kernel, by decide +kernel⟩, List.mem_of_getElem? (i := 78) (by decide +kernel), List.mem_of_getElem? (i := 277) (by decide +kernel), List.mem_of_getElem? (i := 278) (by decide +kernel)⟩
theorem lw_p1 : lw_okq (⟨"StateTables$Layers", "growTo", "(I)V"⟩, 10) := ⟨⟨by decide +kernel, by decide +kernel⟩, List.mem_of_getElem? (i := 78) (by decide +kernel), List.mem_of_getElem? (i := 288) (by decide +kernel), List.mem_of_getElem? (i := 289) (by decide +kernel)⟩
theorem lw_p2 : lw_okq (⟨"StateTables$Layers", "findKeysBehind", "(II)V"⟩, 10) := ⟨⟨by decide +kernel, by decide +kernel⟩, List.mem_of_getElem? (i := 78) (by decide +kernel), List.mem_of_getElem? (i := 317) (by decide +kernel), List.mem_of_getElem? (i := 318) (by decide +kernel)⟩
theorem lw_p3 : lw_okq (⟨"StateTables$Layers", "skipUnfollowed", "(II)V"⟩, 10) := ⟨⟨by decide +kernel, by decide +kernel⟩, List.mem_of_getElem? (i := 78) (by decide +kernel), List.mem_of_getElem? (i := 335) (by decide +kernel), List.mem_of_getElem? (i := 336) (by decide +kernel)⟩
theorem lw_p4 : lw_okq (⟨"StateTables$Layers", "choiceWithLeastKey", "(I)I"⟩, 10) := ⟨⟨by decide +kernel, by decide +kernel⟩, List.mem_of_getElem? (i := 78) (by decide +kernel), List.mem_of_getElem? (i := 343) (by decide +kernel), List.mem_of_getElem? (i := 344) (by decide +kernel)⟩
theorem lw_p5 : lw_okq (⟨"StateTables$Layers", "addNode", "(II)V"⟩, 10) := ⟨⟨by decide +kernel, by decide +kernel⟩, List.mem_of_getElem? (i := 78) (by decide +kernel), List.mem_of_getElem? (i := 347) (by decide +kernel), List.mem_of_getElem? (i := 348) (by decide +kernel)⟩
theorem lw_p6 : lw_okq (⟨"StateTables$Layers", "lookBackFrom", "(II)V"⟩, 10) := ⟨⟨by decide +kernel, by decide +kernel⟩, List.mem_of_getElem? (i := 78) (by decide +kernel), List.mem_of_getElem? (i := 359) (by decide +kernel), List.mem_of_getElem? (i := 360) (by decide +kernel)⟩
theorem lw_p7 : lw_okq (⟨"StateTables$FirstPlans", "lengthenAll", "(I)V"⟩, 8) := ⟨⟨by decide +kernel, by decide +kernel⟩, List.mem_of_getElem? (i := 124) (by decide +kernel), List.mem_of_getElem? (i := 367) (by decide +kernel), List.mem_of_getElem? (i := 368) (by decide +kernel)⟩
theorem lw_p8 : lw_okq (⟨"StateTables$FirstPlans", "lengthen", "(III)V"⟩, 8) := ⟨⟨by decide +kernel, by decide +kernel⟩, List.mem_of_getElem? (i := 124) (by decide +kernel), List.mem_of_getElem? (i := 371) (by decide +kernel), List.mem_of_getElem? (i := 372) (by decide +kernel)⟩
theorem lw_p9 : lw_okq (⟨"StateTables$FirstPlans", "keepIfAmongFirst", "(JI)V"⟩, 8) := ⟨⟨by decide +kernel, by decide +kernel⟩, List.mem_of_getElem? (i := 124) (by decide +kernel), List.mem_of_getElem? (i := 380) (by decide +kernel), List.mem_of_getElem? (i := 381) (by decide +kernel)⟩
theorem lw_p10 : lw_okq (⟨"StateTables$Layers", "isAsGood", "(II)Z"⟩, 10) := ⟨⟨by decide +kernel, by decide +kernel⟩, List.mem_of_getElem? (i := 78) (by decide +kernel), List.mem_of_getElem? (i := 449) (by decide +kernel), List.mem_of_getElem? (i := 450) (by decide +kernel)⟩
theorem lw_p11 : lw_okq (⟨"StateTables$Layers", "isAsGoodOf", "(III)Z"⟩, 10) := ⟨⟨by decide +kernel, by decide +kernel⟩, List.mem_of_getElem? (i := 78) (by decide +kernel), List.mem_of_getElem? (i := 453) (by decide +kernel), List.mem_of_getElem? (i := 454) (by decide +kernel)⟩
theorem lw_p12 : lw_okq (⟨"StateTables$NarrowLayers", "layBehind", "(I)V"⟩, 8) := ⟨⟨by decide +kernel, by decide +kernel⟩, List.mem_of_getElem? (i := 156) (by decide +kernel), List.mem_of_getElem? (i := 474) (by decide +kernel), List.mem_of_getElem? (i := 475) (by decide +kernel)⟩
theorem lw_p13 : lw_okq (⟨"StateTables$NarrowLayers", "follow", "(JII)V"⟩, 8) := ⟨⟨by decide +kernel, by decide +kernel⟩, List.mem_of_getElem? (i := 156) (by decide +kernel), List.mem_of_getElem? (i := 478) (by decide +kernel), List.mem_of_getElem? (i := 479) (by decide +kernel)⟩
theorem lw_p14 : lw_okq (⟨"StateTables$NarrowLayers", "uniteAlike", "()V"⟩, 8) := ⟨⟨by decide +kernel, by decide +kernel⟩, List.mem_of_getElem? (i := 156) (by decide +kernel), List.mem_of_getElem? (i := 503) (by decide +kernel), List.mem_of_getElem? (i := 504) (by decide +kernel)⟩
theorem lw_p15 : lw_okq (⟨"StateTables$NarrowLayers", "cutTo", "(IZ)V"⟩, 8) := ⟨⟨by decide +kernel, by decide +kernel⟩, List.mem_of_getElem? (i := 156) (by decide +kernel), List.mem_of_getElem? (i := 518) (by decide +kernel), List.mem_of_getElem? (i := 519) (by decide +kernel)⟩
def lw_privs_1 : List (MethodName × Nat) := [(⟨"StateTables$Layers", "layBehind", "(I)Z"⟩, 10), (⟨"StateTables$Layers", "growTo", "(I)V"⟩, 10), (⟨"StateTables$Layers", "findKeysBehind", "(II)V"⟩, 10), (⟨"StateTables$Layers", "skipUnfollowed", "(II)V"⟩, 10), (⟨"StateTables$Layers", "choiceWithLeastKey", "(I)I"⟩, 10), (⟨"StateTables$Layers", "addNode", "(II)V"⟩, 10), (⟨"StateTables$Layers", "lookBackFrom", "(II)V"⟩, 10), (⟨"StateTables$FirstPlans", "lengthenAll", "(I)V"⟩, 8), (⟨"StateTables$FirstPlans", "lengthen", "(III)V"⟩, 8), (⟨"StateTables$FirstPlans", "keepIfAmongFirst", "(JI)V"⟩, 8), (⟨"StateTables$Layers", "isAsGood", "(II)Z"⟩, 10), (⟨"StateTables$Layers", "isAsGoodOf", "(III)Z"⟩, 10), (⟨"StateTables$NarrowLayers", "layBehind", "(I)V"⟩, 8), (⟨"StateTables$NarrowLayers", "follow", "(JII)V"⟩, 8), (⟨"StateTables$NarrowLayers", "uniteAlike", "()V"⟩, 8), (⟨"StateTables$NarrowLayers", "cutTo", "(IZ)V"⟩, 8)]
theorem lw_r1 : ∀ q ∈ lw_privs_1, lw_okq q := List.forall_mem_cons.mpr ⟨lw_p0, List.forall_mem_cons.mpr ⟨lw_p1, List.forall_mem_cons.mpr ⟨lw_p2, List.forall_mem_cons.mpr ⟨lw_p3, List.forall_mem_cons.mpr ⟨lw_p4, List.forall_mem_cons.mpr ⟨lw_p5, List.forall_mem_cons.mpr ⟨lw_p6, List.forall_mem_cons.mpr ⟨lw_p7, List.forall_mem_cons.mpr ⟨lw_p8, List.forall_mem_cons.mpr ⟨lw_p9, List.forall_mem_cons.mpr ⟨lw_p10, List.forall_mem_cons.mpr ⟨lw_p11, List.forall_mem_cons.mpr ⟨lw_p12, List.forall_mem_cons.mpr ⟨lw_p13, List.forall_mem_cons.mpr ⟨lw_p14, List.forall_mem_cons.mpr ⟨lw_p15, fun _ h => absurd h List.not_mem_nil⟩⟩⟩⟩⟩⟩⟩⟩⟩⟩⟩⟩⟩⟩⟩⟩
theorem lw_p16 : lw_okq (⟨"StateTables$NarrowLayers", "uniteFrom", "(I)J"⟩, 8) := ⟨⟨by decide +kernel, by decide +kernel⟩, List.mem_of_getElem? (i := 156) (by decide +kernel), List.mem_of_getElem? (i := 522) (by decide +kernel), List.mem_of_getElem? (i := 523) (by decide +kernel)⟩
theorem lw_p17 : lw_okq (⟨"StateTables$NarrowLayers", "leastCostOfEnough", "()I"⟩, 8) := ⟨⟨by decide +kernel, by decide +kernel⟩, List.mem_of_getElem? (i := 156) (by decide +kernel), List.mem_of_getElem? (i := 526) (by decide +kernel), List.mem_of_getElem? (i := 527) (by decide +kernel)⟩
theorem lw_p18 : lw_okq (⟨"StateTablesModel", "noChoice", "(II)Z"⟩, 36) := ⟨⟨by decide +kernel, by decide +kernel⟩, List.mem_of_getElem? (i := 540) (by decide +kernel), List.mem_of_getElem? (i := 674) (by decide +kernel), List.mem_of_getElem? (i := 675) (by decide +kernel)⟩
theorem lw_p19 : lw_okq (⟨"StateTablesModel", "pair", "(III)I"⟩, 36) := ⟨⟨by decide +kernel, by decide +kernel⟩, List.mem_of_getElem? (i := 540) (by decide +kernel), List.mem_of_getElem? (i := 686) (by decide +kernel), List.mem_of_getElem? (i := 687) (by decide +kernel)⟩
theorem lw_p20 : lw_okq (⟨"StateTablesModel", "settle", "(I)Z"⟩, 36) := ⟨⟨by decide +kernel, by decide +kernel⟩, List.mem_of_getElem? (i := 540) (by decide +kernel), List.mem_of_getElem? (i := 698) (by decide +kernel), List.mem_of_getElem? (i := 699) (by decide +kernel)⟩
theorem lw_p21 : lw_okq (⟨"StateTablesModel", "next", "(II)I"⟩, 36) := ⟨⟨by decide +kernel, by decide +kernel⟩, List.mem_of_getElem? (i := 540) (by decide +kernel), List.mem_of_getElem? (i := 702) (by decide +kernel), List.mem_of_getElem? (i := 703) (by decide +kernel)⟩
theorem lw_p22 : lw_okq (⟨"StateTablesModel", "goBack", "()V"⟩, 36) := ⟨⟨by decide +kernel, by decide +kernel⟩, List.mem_of_getElem? (i := 540) (by decide +kernel), List.mem_of_getElem? (i := 716) (by decide +kernel), List.mem_of_getElem? (i := 717) (by decide +kernel)⟩
theorem lw_p23 : lw_okq (⟨"StateTablesModel", "findPlans", "()V"⟩, 36) := ⟨⟨by decide +kernel, by decide +kernel⟩, List.mem_of_getElem? (i := 540) (by decide +kernel), List.mem_of_getElem? (i := 720) (by decide +kernel), List.mem_of_getElem? (i := 721) (by decide +kernel)⟩
theorem lw_p24 : lw_okq (⟨"StateTablesModel", "begin", "(IIJ)V"⟩, 36) := ⟨⟨by decide +kernel, by decide +kernel⟩, List.mem_of_getElem? (i := 540) (by decide +kernel), List.mem_of_getElem? (i := 724) (by decide +kernel), List.mem_of_getElem? (i := 725) (by decide +kernel)⟩
theorem lw_p25 : lw_okq (⟨"StateTablesModel", "isAhead", "(II)Z"⟩, 36) := ⟨⟨by decide +kernel, by decide +kernel⟩, List.mem_of_getElem? (i := 540) (by decide +kernel), List.mem_of_getElem? (i := 728) (by decide +kernel), List.mem_of_getElem? (i := 729) (by decide +kernel)⟩
theorem lw_p26 : lw_okq (⟨"StateTablesModel", "noNode", "(II)Z"⟩, 36) := ⟨⟨by decide +kernel, by decide +kernel⟩, List.mem_of_getElem? (i := 540) (by decide +kernel), List.mem_of_getElem? (i := 759) (by decide +kernel), List.mem_of_getElem? (i := 760) (by decide +kernel)⟩
theorem lw_p27 : lw_okq (⟨"StateTablesModel", "dominates", "(II)Z"⟩, 36) := ⟨⟨by decide +kernel, by decide +kernel⟩, List.mem_of_getElem? (i := 540) (by decide +kernel), List.mem_of_getElem? (i := 772) (by decide +kernel), List.mem_of_getElem? (i := 773) (by decide +kernel)⟩
theorem lw_p28 : lw_okq (⟨"StateTablesModel", "mayFollow", "(III)Z"⟩, 36) := ⟨⟨by decide +kernel, by decide +kernel⟩, List.mem_of_getElem? (i := 540) (by decide +kernel), List.mem_of_getElem? (i := 784) (by decide +kernel), List.mem_of_getElem? (i := 785) (by decide +kernel)⟩
theorem lw_p29 : lw_okq (⟨"StateTablesModel", "follow", "(IIII)V"⟩, 36) := ⟨⟨by decide +kernel, by decide +kernel⟩, List.mem_of_getElem? (i := 540) (by decide +kernel), List.mem_of_getElem? (i := 788) (by decide +kernel), List.mem_of_getElem? (i := 789) (by decide +kernel)⟩
theorem lw_p30 : lw_okq (⟨"StateTablesModel", "isOne", "(II)Z"⟩, 36) := ⟨⟨by decide +kernel, by decide +kernel⟩, List.mem_of_getElem? (i := 540) (by decide +kernel), List.mem_of_getElem? (i := 792) (by decide +kernel), List.mem_of_getElem? (i := 793) (by decide +kernel)⟩
theorem lw_p31 : lw_okq (⟨"StateTablesModel", "move", "(II)V"⟩, 36) := ⟨⟨by decide +kernel, by decide +kernel⟩, List.mem_of_getElem? (i := 540) (by decide +kernel), List.mem_of_getElem? (i := 796) (by decide +kernel), List.mem_of_getElem? (i := 797) (by decide +kernel)⟩
def lw_privs_2 : List (MethodName × Nat) := [(⟨"StateTables$NarrowLayers", "uniteFrom", "(I)J"⟩, 8), (⟨"StateTables$NarrowLayers", "leastCostOfEnough", "()I"⟩, 8), (⟨"StateTablesModel", "noChoice", "(II)Z"⟩, 36), (⟨"StateTablesModel", "pair", "(III)I"⟩, 36), (⟨"StateTablesModel", "settle", "(I)Z"⟩, 36), (⟨"StateTablesModel", "next", "(II)I"⟩, 36), (⟨"StateTablesModel", "goBack", "()V"⟩, 36), (⟨"StateTablesModel", "findPlans", "()V"⟩, 36), (⟨"StateTablesModel", "begin", "(IIJ)V"⟩, 36), (⟨"StateTablesModel", "isAhead", "(II)Z"⟩, 36), (⟨"StateTablesModel", "noNode", "(II)Z"⟩, 36), (⟨"StateTablesModel", "dominates", "(II)Z"⟩, 36), (⟨"StateTablesModel", "mayFollow", "(III)Z"⟩, 36), (⟨"StateTablesModel", "follow", "(IIII)V"⟩, 36), (⟨"StateTablesModel", "isOne", "(II)Z"⟩, 36), (⟨"StateTablesModel", "move", "(II)V"⟩, 36)]
theorem lw_r2 : ∀ q ∈ lw_privs_2, lw_okq q := List.forall_mem_cons.mpr ⟨lw_p16, List.forall_mem_cons.mpr ⟨lw_p17, List.forall_mem_cons.mpr ⟨lw_p18, List.forall_mem_cons.mpr ⟨lw_p19, List.forall_mem_cons.mpr ⟨lw_p20, List.forall_mem_cons.mpr ⟨lw_p21, List.forall_mem_cons.mpr ⟨lw_p22, List.forall_mem_cons.mpr ⟨lw_p23, List.forall_mem_cons.mpr ⟨lw_p24, List.forall_mem_cons.mpr ⟨lw_p25, List.forall_mem_cons.mpr ⟨lw_p26, List.forall_mem_cons.mpr ⟨lw_p27, List.forall_mem_cons.mpr ⟨lw_p28, List.forall_mem_cons.mpr ⟨lw_p29, List.forall_mem_cons.mpr ⟨lw_p30, List.forall_mem_cons.mpr ⟨lw_p31, fun _ h => absurd h List.not_mem_nil⟩⟩⟩⟩⟩⟩⟩⟩⟩⟩⟩⟩⟩⟩⟩⟩
theorem lw_p32 : lw_okq (⟨"StateTablesModel", "sort", "()V"⟩, 36) := ⟨⟨by decide +kernel, by decide +kernel⟩, List.mem_of_getElem? (i := 540) (by decide +kernel), List.mem_of_getElem? (i := 800) (by decide +kernel), List.mem_of_getElem? (i := 801) (by decide +kernel)⟩
theorem lw_p33 : lw_okq (⟨"StateTablesModel", "order", "(II)I"⟩, 36) := ⟨⟨by decide +kernel, by decide +kernel⟩, List.mem_of_getElem? (i := 540) (by decide +kernel), List.mem_of_getElem? (i := 804) (by decide +kernel), List.mem_of_getElem? (i := 805) (by decide +kernel)⟩
theorem lw_p34 : lw_okq (⟨"StateTablesModel", "join", "(I)V"⟩, 36) := ⟨⟨by decide +kernel, by decide +kernel⟩, List.mem_of_getElem? (i := 540) (by decide +kernel), List.mem_of_getElem? (i := 808) (by decide +kernel), List.mem_of_getElem? (i := 809) (by decide +kernel)⟩
def lw_privs_3 : List (MethodName × Nat) := [(⟨"StateTablesModel", "sort", "()V"⟩, 36), (⟨"StateTablesModel", "order", "(II)I"⟩, 36), (⟨"StateTablesModel", "join", "(I)V"⟩, 36)]
theorem lw_r3 : ∀ q ∈ lw_privs_3, lw_okq q := List.forall_mem_cons.mpr ⟨lw_p32, List.forall_mem_cons.mpr ⟨lw_p33, List.forall_mem_cons.mpr ⟨lw_p34, fun _ h => absurd h List.not_mem_nil⟩⟩⟩
def lw_privs : List (MethodName × Nat) := lw_privs_1 ++ (lw_privs_2 ++ (lw_privs_3))
def lw_tbl : List Cond := k2_sels lw_privs ++ tables_1
theorem lw_privs_ok : ∀ q ∈ lw_privs, lw_okq q := by
  show ∀ q ∈ lw_privs_1 ++ (lw_privs_2 ++ (lw_privs_3)), lw_okq q
  exact List.forall_mem_append.mpr ⟨lw_r1, List.forall_mem_append.mpr ⟨lw_r2, lw_r3⟩⟩
end
section
/-! BASE: whole numbers behind int and long; a walk's goal over the symbolic world alone -/
def iI (z : Int) : Int32 := Int32.ofInt z
def lI (z : Int) : Int64 := Int64.ofInt z
abbrev rI (z : Int) : Prop := -2147483648 ≤ z ∧ z < 2147483648
abbrev rL (z : Int) : Prop := -9223372036854775808 ≤ z ∧ z < 9223372036854775808
theorem iI_toInt {z : Int} (h : rI z) : (iI z).toInt = z := Int32.toInt_ofInt_of_le (by omega) (by omega)
theorem lI_toInt {z : Int} (h : rL z) : (lI z).toInt = z := Int64.toInt_ofInt_of_le (by omega) (by omega)
theorem iI_of (x : Int32) : x = iI x.toInt := (Int32.ofInt_toInt x).symm
theorem iI_ex (x : Int32) : ∃ z : Int, rI z ∧ x = iI z := ⟨x.toInt, ⟨Int32.le_toInt x, Int32.toInt_lt x⟩, iI_of x⟩
theorem iI_add (a b : Int) : iI a + iI b = iI (a + b) := (Int32.ofInt_add a b).symm
theorem iI_sub (a b : Int) : iI a - iI b = iI (a - b) := (Int32.ofInt_sub a b).symm
theorem iI_mul (a b : Int) : iI a * iI b = iI (a * b) := (Int32.ofInt_mul a b).symm
theorem lI_add (a b : Int) : lI a + lI b = lI (a + b) := (Int64.ofInt_add a b).symm
theorem lI_sub (a b : Int) : lI a - lI b = lI (a - b) := (Int64.ofInt_sub a b).symm
theorem lI_mul (a b : Int) : lI a * lI b = lI (a * b) := (Int64.ofInt_mul a b).symm
theorem iI_lt {a b : Int} (ha : rI a) (hb : rI b) : iI a < iI b ↔ a < b := by
  rw [Int32.lt_iff_toInt_lt, iI_toInt ha, iI_toInt hb]
theorem iI_le {a b : Int} (ha : rI a) (hb : rI b) : iI a ≤ iI b ↔ a ≤ b := by
  rw [Int32.le_iff_toInt_le, iI_toInt ha, iI_toInt hb]
theorem iI_eq {a b : Int} (ha : rI a) (hb : rI b) : iI a = iI b ↔ a = b := by
  refine ⟨fun h => ?_, fun h => by rw [h]⟩
  have h1 := congrArg Int32.toInt h
  rwa [iI_toInt ha, iI_toInt hb] at h1
theorem lI_lt {a b : Int} (ha : rL a) (hb : rL b) : lI a < lI b ↔ a < b := by
  rw [Int64.lt_iff_toInt_lt, lI_toInt ha, lI_toInt hb]
theorem lI_le {a b : Int} (ha : rL a) (hb : rL b) : lI a ≤ lI b ↔ a ≤ b := by
  rw [Int64.le_iff_toInt_le, lI_toInt ha, lI_toInt hb]
theorem lI_eq {a b : Int} (ha : rL a) (hb : rL b) : lI a = lI b ↔ a = b := by
  refine ⟨fun h => ?_, fun h => by rw [h]⟩
  have h1 := congrArg Int64.toInt h
  rwa [lI_toInt ha, lI_toInt hb] at h1
theorem iI_0 : iI 0 = 0 := rfl
theorem iI_cl {a : Int} (h0 : 0 ≤ a) (h : a < 2147483648) : (iI a).toNatClampNeg = a.toNat := Int32.toNatClampNeg_ofInt_of_le (by omega) (by omega)
theorem iI_in {a : Int} {n : Nat} (h0 : 0 ≤ a) (h1 : a < n) (hn : (n : Int) ≤ 2147483647) : vp_in (iI a) n := by
  rw [vp_in_iff, iI_toInt (by constructor <;> omega)]
  exact ⟨h0, h1⟩
/-- a truth as a number -/
noncomputable def bI (P : Prop) : Int := @ite Int P (Classical.propDecidable P) 1 0
theorem bI_t {P : Prop} (h : P) : bI P = 1 := by unfold bI; exact if_pos h
theorem bI_f {P : Prop} (h : ¬ P) : bI P = 0 := by unfold bI; exact if_neg h
theorem bI_0 {P : Prop} : bI P = 0 ↔ ¬ P := by
  by_cases h : P
  · rw [bI_t h]; exact ⟨fun q => by omega, fun q => absurd h q⟩
  · rw [bI_f h]; exact ⟨fun _ => h, fun _ => rfl⟩
theorem bI_c (P : Prop) : bI P = 0 ∨ bI P = 1 := by
  by_cases h : P
  · exact Or.inr (bI_t h)
  · exact Or.inl (bI_f h)
theorem bI_iff {P P' : Prop} (h : P ↔ P') : bI P = bI P' := by
  by_cases q : P
  · rw [bI_t q, bI_t (h.mp q)]
  · rw [bI_f q, bI_f (fun z => q (h.mpr z))]
/-- arrays of whole numbers, as functions of whole numbers -/
def aI (n : Nat) (f : Int → Int) : vp_A := (n, .inl (fun j : Nat => iI (f (j : Int))))
def aL (n : Nat) (f : Int → Int) : vp_A := (n, .inr (.inl (fun j : Nat => lI (f (j : Int)))))
def uZ (f : Int → Int) (k x : Int) : Int → Int := fun j => if j = k then x else f j
theorem uZ_s {f : Int → Int} {k x : Int} : uZ f k x k = x := by unfold uZ; exact if_pos rfl
theorem uZ_n {f : Int → Int} {k x j : Int} (h : j ≠ k) : uZ f k x j = f j := by unfold uZ; exact if_neg h
theorem upd_iI {f : Int → Int} {i x : Int} (h0 : 0 ≤ i) (h1 : i < 2147483648) : upd (fun j : Nat => iI (f (j : Int))) (iI i).toNatClampNeg (iI x) = fun j : Nat => iI (uZ f i x (j : Int)) := by
  funext j
  rw [iI_cl h0 h1]
  unfold upd uZ
  by_cases h : j = i.toNat
  · rw [if_pos h, if_pos (by omega)]
  · rw [if_neg h, if_neg (by omega)]
theorem upd_lI {f : Int → Int} {i x : Int} (h0 : 0 ≤ i) (h1 : i < 2147483648) : vp_updL (fun j : Nat => lI (f (j : Int))) (iI i).toNatClampNeg (lI x) = fun j : Nat => lI (uZ f i x (j : Int)) := by
  funext j
  rw [iI_cl h0 h1]
  unfold vp_updL uZ
  by_cases h : j = i.toNat
  · rw [if_pos h, if_pos (by omega)]
  · rw [if_neg h, if_neg (by omega)]
theorem iI_sh : ∀ n : Nat, n < 32 → ((nI n &&& 31).toBitVec.smod 32).toNat = n := by decide +kernel
theorem iI_nat (n : Nat) : iI (n : Int) = nI n := Int32.ofInt_eq_ofNat
theorem iI_shr {a k : Int} (ha : rI a) (h0 : 0 ≤ k) (h1 : k < 32) : iI a >>> (iI k &&& 31) = iI (a / 2 ^ k.toNat) := by
  obtain ⟨n, rfl⟩ : ∃ n : Nat, k = (n : Int) := ⟨k.toNat, by omega⟩
  rw [iI_nat]
  apply Int32.toInt_inj.mp
  rw [pk_shr _ _ n (iI_sh n (by omega)), iI_toInt ha, Int.shiftRight_eq_div_pow]
  have hp : (0 : Int) < 2 ^ n := Int.pow_pos (by omega)
  have hd : a / ((2 ^ n : Nat) : Int) = a / 2 ^ n := by rw [Int.natCast_pow]; rfl
  have h2 : rI (a / 2 ^ n) := by
    constructor
    · apply Int.le_ediv_of_mul_le hp
      have : (1 : Int) ≤ 2 ^ n := by omega
      by_cases q : 0 ≤ a
      · have : (-2147483648 : Int) * 2 ^ n ≤ 0 := Int.mul_nonpos_of_nonpos_of_nonneg (by omega) (by omega)
        omega
      · have : (-2147483648 : Int) * 2 ^ n ≤ (-2147483648) * 1 := Int.mul_le_mul_of_nonpos_left (by omega) this
        omega
    · by_cases q : 0 ≤ a
      · exact Int.lt_of_le_of_lt (Int.ediv_le_self _ q) ha.2
      · have : a / 2 ^ n < 0 := Int.ediv_neg_of_neg_of_pos (by omega) hp
        omega
  rw [Int.toNat_natCast]
  rw [hd, iI_toInt h2]
theorem iI_bv (a : Int) : (iI a).toBitVec.toNat = (a % 4294967296).toNat := by
  show (BitVec.ofInt 32 a).toNat = _
  rw [BitVec.toNat_ofInt]
  rfl
theorem iI_mod {a b : Int} (h : a % 4294967296 = b % 4294967296) : iI a = iI b := by
  apply Int32.toBitVec_inj.mp
  apply BitVec.eq_of_toNat_eq
  rw [iI_bv, iI_bv, h]
theorem iI_shl {a k : Int} (h0 : 0 ≤ k) (h1 : k < 32) : iI a <<< (iI k &&& 31) = iI (a * 2 ^ k.toNat) := by
  obtain ⟨n, rfl⟩ : ∃ n : Nat, k = (n : Int) := ⟨k.toNat, by omega⟩
  rw [iI_nat, Int.toNat_natCast]
  apply Int32.toBitVec_inj.mp
  apply BitVec.eq_of_toNat_eq
  rw [pk_shl _ _ n (iI_sh n (by omega)), iI_bv, iI_bv]
  apply Int.ofNat.inj
  show (((a % 4294967296).toNat * 2 ^ n % 2 ^ 32 : Nat) : Int) = ((a * 2 ^ n % 4294967296).toNat : Int)
  rw [Int.natCast_emod, Int.natCast_mul, Int.natCast_pow, Int.toNat_of_nonneg (Int.emod_nonneg _ (by omega)), Int.toNat_of_nonneg (Int.emod_nonneg _ (by omega))]
  show a % 4294967296 * 2 ^ n % 4294967296 = a * 2 ^ n % 4294967296
  rw [Int.mul_emod, Int.emod_emod_of_dvd _ (Int.dvd_refl _), ← Int.mul_emod]
theorem iI_and {a : Int} (k : Nat) (hk : k ≤ 30) {z : Int} (hz : z = 2 ^ k - 1) : iI a &&& iI z = iI (a % 2 ^ k) := by
  have hp : ∀ k : Nat, k ≤ 30 → (iI ((2 : Int) ^ k - 1)).toBitVec.toNat = 2 ^ k - 1 := by decide +kernel
  subst hz
  rw [pk_and _ k (hp k hk), iI_bv, ← iI_nat]
  congr 1
  rw [Int.natCast_emod, Int.toNat_of_nonneg (Int.emod_nonneg _ (by omega)), Int.natCast_pow]
  apply Int.emod_emod_of_dvd
  refine ⟨2 ^ (32 - k), ?_⟩
  show (4294967296 : Int) = 2 ^ k * 2 ^ (32 - k)
  rw [← Int.pow_add, show k + (32 - k) = 32 by omega]
  rfl
theorem iI_or {a b : Int} (k : Nat) (q : Int) (ha : a = q * 2 ^ k) (h0 : 0 ≤ q) (hb0 : 0 ≤ b) (hb : b < 2 ^ k) (hs : a + b < 4294967296) : iI a ||| iI b = iI (a + b) := by
  obtain ⟨n, rfl⟩ : ∃ n : Nat, q = (n : Int) := ⟨q.toNat, by omega⟩
  obtain ⟨w, rfl⟩ : ∃ w : Nat, b = (w : Int) := ⟨b.toNat, by omega⟩
  have ha2 : a = ((n * 2 ^ k : Nat) : Int) := by rw [ha, Int.natCast_mul, Int.natCast_pow]; rfl
  have hw : w < 2 ^ k := by
    have : ((w : Nat) : Int) < ((2 ^ k : Nat) : Int) := by rw [Int.natCast_pow]; exact hb
    omega
  rw [ha2] at hs ⊢
  apply Int32.toBitVec_inj.mp
  apply BitVec.eq_of_toNat_eq
  rw [Int32.toBitVec_or, BitVec.toNat_or, iI_bv, iI_bv, iI_bv]
  rw [Int.emod_eq_of_lt (by omega) (by omega), Int.emod_eq_of_lt (by omega) (by omega), Int.emod_eq_of_lt (by omega) (by omega)]
  show (n * 2 ^ k) ||| w = ((n * 2 ^ k : Nat) + (w : Nat) : Nat)
  rw [Nat.mul_comm]
  exact (Nat.two_pow_add_eq_or_of_lt hw n).symm
theorem iI_andK {a z d : Int} (k : Nat) (hk : k ≤ 30) (hd : (2 : Int) ^ k = d) (hz : z = d - 1) : iI a &&& iI z = iI (a % d) := by
  rw [iI_and k hk (by rw [hd]; exact hz), hd]
theorem iI_orK {a b q d : Int} (k : Nat) (hk : (2 : Int) ^ k = d) (ha : a = q * d) (h0 : 0 ≤ q) (hb0 : 0 ≤ b) (hb : b < d) (hs : a + b < 4294967296) : iI a ||| iI b = iI (a + b) :=
  iI_or k q (by rw [hk]; exact ha) h0 hb0 (by rw [hk]; exact hb) hs
theorem x01 (t : Int) : iI (t % 2) ^^^ iI 1 = iI (1 - t % 2) := by
  rcases Int.emod_two_eq t with h | h <;> rw [h] <;> decide
theorem x00 (t : Int) : iI t ^^^ iI 0 = iI t := by
  rw [show iI 0 = 0 from rfl]; exact Int32.xor_zero
theorem xbit1_n : ∀ n : Nat, n < 64 → ∀ k : Nat, k < 6 → iI (n : Int) ^^^ iI ((1 - (n : Int) / 2 ^ k % 2) * 2 ^ k) = iI ((n : Int) + (1 - (n : Int) / 2 ^ k % 2) * 2 ^ k) := by decide +kernel
theorem xbit0_n : ∀ n : Nat, n < 64 → ∀ k : Nat, k < 6 → iI (n : Int) ^^^ iI ((n : Int) / 2 ^ k % 2 * 2 ^ k) = iI ((n : Int) + (0 - (n : Int) / 2 ^ k % 2) * 2 ^ k) := by decide +kernel
theorem xbit1 {m x : Int} (h0 : 0 ≤ m) (h1 : m < 64) (h2 : 0 ≤ x) (h3 : x < 6) : iI m ^^^ iI ((1 - m / 2 ^ x.toNat % 2) * 2 ^ x.toNat) = iI (m + (1 - m / 2 ^ x.toNat % 2) * 2 ^ x.toNat) := by
  obtain ⟨n, rfl⟩ : ∃ n : Nat, m = (n : Int) := ⟨m.toNat, by omega⟩
  exact xbit1_n n (by omega) x.toNat (by omega)
theorem xbit0 {m x : Int} (h0 : 0 ≤ m) (h1 : m < 64) (h2 : 0 ≤ x) (h3 : x < 6) : iI m ^^^ iI (m / 2 ^ x.toNat % 2 * 2 ^ x.toNat) = iI (m + (0 - m / 2 ^ x.toNat % 2) * 2 ^ x.toNat) := by
  obtain ⟨n, rfl⟩ : ∃ n : Nat, m = (n : Int) := ⟨m.toNat, by omega⟩
  exact xbit0_n n (by omega) x.toNat (by omega)
theorem z_nat (z : Int) : ∃ n : Nat, z < (n : Int) := ⟨(z + 1).toNat, by omega⟩
theorem z_bI (P : Prop) : narrow .boolean (.int (iI (bI P))) = .int (iI (bI P)) := by
  rcases bI_c P with h | h <;> rw [h] <;> decide
/-- the walk's goal -/
def G (p : Program) (l : Launch) (e : Env) (R : Room) (s : State) (m : MethodId) (args : Array Value) (below : List Frame) (meth : Method) (c : Code) (D : va_G) (cl : List vw_C) (nL : Nat) (A : Nat → Prop) (cells slots : Nat) (Q : State → Prop) (ws : va_W) (pc : Nat) (lv : List (Nat × Value)) (st : List Value) : Prop :=
  ∀ (H : Heap) (locs : List Loc) (ls : Array Slot), va_P D cl ws H → va_D A ws → va_S A s.heap H locs → lv_has ls nL lv → W p l e R s m args below meth c H locs cells slots Q (F0 m pc ls st)
def NWok (nw : List Cond) : Prop := ∀ w ∈ nw, w.onTables = true ∧ ∀ (s U : State), s.WarmedH U.vm → va_Nw w s → va_Nw w U
theorem NWok.nil : NWok [] := fun w h => absurd h List.not_mem_nil
theorem NWok.consM {nw : List Cond} {a : String} {i : Nat} {x : MethodName} {h : String} (k : NWok nw) : NWok (.methodLinkNest a i x h :: nw) := fun w q => by
  rcases List.mem_cons.mp q with q | q
  · subst q; exact ⟨rfl, fun _ _ hW hZ => va_Nw.warmM hW hZ⟩
  · exact k w q
theorem NWok.consF {nw : List Cond} {a : String} {i : Nat} {b n d h : String} (k : NWok nw) : NWok (.fieldLinkNest a i b n d h :: nw) := fun w q => by
  rcases List.mem_cons.mp q with q | q
  · subst q; exact ⟨rfl, fun _ _ hW hZ => va_Nw.warmF hW hZ⟩
  · exact k w q
def CX (p : Program) (s : State) (m : MethodId) (args : Array Value) (meth : Method) (c : Code) (D : va_G) (cl : List vw_C) (tys : List (ClassId × FieldType)) (nw : List Cond) (cc : ByteArray) (nL : Nat) (Ts : List Cond) (own : String) (A : Nat → Prop) : Prop :=
  p.tables.exec = Jvm.exec ∧ c.code = cc ∧ c.maxLocals = nL ∧ s.vm.findClass own = some m.cls ∧ (∀ w ∈ Ts, w.before args s = true) ∧ va_K D cl tys s ∧ (∀ q, s.heap.size ≤ q → A q) ∧ meth.locks = false ∧ (∀ w ∈ nw, va_Nw w s) ∧ NWok nw
def zPre (D : va_G) (cl : List vw_C) (tys : List (ClassId × FieldType)) (nw : List Cond) (W0 : va_W) (sz : Nat) : State → Prop := fun U => U.heap.size = sz ∧ va_P D cl W0 U.heap ∧ va_K D cl tys U ∧ va_D (fun _ => True) W0 ∧ (∀ w ∈ nw, va_Nw w U) ∧ NWok nw
def zPost {S : Type} (D : va_G) (cl : List vw_C) (tys : List (ClassId × FieldType)) (W0 : va_W) (sz : Nat) (w1 : S → va_W) : S → State → Prop := fun u t => va_P D cl (w1 u) t.heap ∧ va_K D cl tys t ∧ va_D (va_A W0 sz) (w1 u)
section ROWS
variable {p : Program} {l : Launch} {e : Env} {R : Room} {s : State} {m : MethodId} {args : Array Value} {below : List Frame} {meth : Method} {c : Code} {D : va_G} {cl : List vw_C} {tys : List (ClassId × FieldType)} {nw : List Cond} {cc : ByteArray} {nL : Nat} {Ts : List Cond} {own : String} {A : Nat → Prop} {cells slots : Nat} {Q : State → Prop} {ws ws' : va_W} {pc : Nat} {lv lv' : List (Nat × Value)} {st : List Value}
theorem g_ws (h : ws = ws') (k : G p l e R s m args below meth c D cl nL A cells slots Q ws' pc lv st) : G p l e R s m args below meth c D cl nL A cells slots Q ws pc lv st := h ▸ k
theorem g_st {st' : List Value} (h : st = st') (k : G p l e R s m args below meth c D cl nL A cells slots Q ws pc lv st') : G p l e R s m args below meth c D cl nL A cells slots Q ws pc lv st := h ▸ k
theorem g_pc {pc' : Nat} (h : pc = pc') (k : G p l e R s m args below meth c D cl nL A cells slots Q ws pc' lv st) : G p l e R s m args below meth c D cl nL A cells slots Q ws pc lv st := h ▸ k
theorem g_lv (ks : List Nat) (h : lv_pick lv ks = lv') (k : G p l e R s m args below meth c D cl nL A cells slots Q ws pc lv' st) : G p l e R s m args below meth c D cl nL A cells slots Q ws pc lv st :=
  fun H locs ls hP hD hS hl => k H locs ls hP hD hS (lv_sub hl ks h)
theorem g_sub (is : List Nat) (hn : va_nd is = true) (hs : is.map (fun i => ws[i]?) = ws'.map some) (k : G p l e R s m args below meth c D cl nL A cells slots Q ws' pc lv st) : G p l e R s m args below meth c D cl nL A cells slots Q ws pc lv st :=
  fun H locs ls hP hD hS hl => k H locs ls (hP.sub is (by
    have h1 : is.filterMap (fun i => ws[i]?) = (is.map (fun i => ws[i]?)).filterMap id := by rw [List.filterMap_map]; rfl
    rw [h1, hs, List.filterMap_map]
    exact List.filterMap_some)) (hD.sub is hn hs) hS hl
theorem g_wide {k n : Nat} (h1 : cells ≤ k) (h2 : slots ≤ n) (kk : G p l e R s m args below meth c D cl nL A k n Q ws pc lv st) : G p l e R s m args below meth c D cl nL A cells slots Q ws pc lv st :=
  fun H locs ls hP hD hS hl => W.widen h1 h2 (kk H locs ls hP hD hS hl)
theorem g_iconst (C : CX p s m args meth c D cl tys nw cc nL Ts own A) {n : Int} (hd : decode cc pc = .ok (.iconst n, 1)) (k : G p l e R s m args below meth c D cl nL A cells slots Q ws (pc + 1) lv (.int (iI n) :: st)) : G p l e R s m args below meth c D cl nL A cells slots Q ws pc lv st :=
  fun H locs ls hP hD hS hl => lv_iconst C.1 C.2.1 hd rfl (k H locs ls hP hD hS hl)
theorem g_bipush (C : CX p s m args meth c D cl tys nw cc nL Ts own A) {n : Int} (hd : decode cc pc = .ok (.bipush n, 2)) (hv : (Int8.ofInt n).toInt32 = iI n) (k : G p l e R s m args below meth c D cl nL A cells slots Q ws (pc + 2) lv (.int (iI n) :: st)) : G p l e R s m args below meth c D cl nL A cells slots Q ws pc lv st :=
  fun H locs ls hP hD hS hl => lv_bipush C.1 C.2.1 hd hv (k H locs ls hP hD hS hl)
theorem g_sipush (C : CX p s m args meth c D cl tys nw cc nL Ts own A) {n : Int} (hd : decode cc pc = .ok (.sipush n, 3)) (hv : (Int16.ofInt n).toInt32 = iI n) (k : G p l e R s m args below meth c D cl nL A cells slots Q ws (pc + 3) lv (.int (iI n) :: st)) : G p l e R s m args below meth c D cl nL A cells slots Q ws pc lv st :=
  fun H locs ls hP hD hS hl => lv_sipush C.1 C.2.1 hd hv (k H locs ls hP hD hS hl)
theorem g_ldc (C : CX p s m args meth c D cl tys nw cc nL Ts own A) {index : Nat} {v : Int32} {z : Int} (hc : Jvm.Cond.constant own index v ∈ Ts) (hv : v = iI z) (hd : decode cc pc = .ok (.ldc index, 2)) (k : G p l e R s m args below meth c D cl nL A cells slots Q ws (pc + 2) lv (.int (iI z) :: st)) : G p l e R s m args below meth c D cl nL A cells slots Q ws pc lv st :=
  fun H locs ls hP hD hS hl => by subst hv; exact lv_ldc C.1 C.2.1 C.2.2.2.1 (C.2.2.2.2.1 _ hc) hd (k H locs ls hP hD hS hl)
theorem g_ldc2 (C : CX p s m args meth c D cl tys nw cc nL Ts own A) {index : Nat} {v : Int64} {z : Int} (hc : Jvm.Cond.constantLong own index v ∈ Ts) (hv : v = lI z) (hd : decode cc pc = .ok (.ldc2_w index, 3)) (k : G p l e R s m args below meth c D cl nL A cells slots Q ws (pc + 3) lv (.long (lI z) :: st)) : G p l e R s m args below meth c D cl nL A cells slots Q ws pc lv st :=
  fun H locs ls hP hD hS hl => by subst hv; exact lv_ldc2 C.1 C.2.1 C.2.2.2.1 (C.2.2.2.2.1 _ hc) hd (k H locs ls hP hD hS hl)
theorem g_lconst (C : CX p s m args meth c D cl tys nw cc nL Ts own A) {n : Fin 2} {z : Int} (hd : decode cc pc = .ok (.lconst n, 1)) (hv : Int64.ofNat (n : Nat) = lI z) (k : G p l e R s m args below meth c D cl nL A cells slots Q ws (pc + 1) lv (.long (lI z) :: st)) : G p l e R s m args below meth c D cl nL A cells slots Q ws pc lv st :=
  fun H locs ls hP hD hS hl => lv_lconst C.1 C.2.1 hd hv (k H locs ls hP hD hS hl)
theorem g_iload_n (C : CX p s m args meth c D cl tys nw cc nL Ts own A) {k : Fin 4} {x : Int32} (q : Nat) (hd : decode cc pc = .ok (.iload_n k, 1)) (hq : lv[q]? = some ((k : Nat), .int x)) (kk : G p l e R s m args below meth c D cl nL A cells slots Q ws (pc + 1) lv (.int x :: st)) : G p l e R s m args below meth c D cl nL A cells slots Q ws pc lv st :=
  fun H locs ls hP hD hS hl => lv_iload_n C.1 C.2.1 hd rfl (lv_at hl q hq) (kk H locs ls hP hD hS hl)
theorem g_iload (C : CX p s m args meth c D cl tys nw cc nL Ts own A) {i : Nat} {x : Int32} (q : Nat) (hd : decode cc pc = .ok (.iload i, 2)) (hq : lv[q]? = some (i, .int x)) (kk : G p l e R s m args below meth c D cl nL A cells slots Q ws (pc + 2) lv (.int x :: st)) : G p l e R s m args below meth c D cl nL A cells slots Q ws pc lv st :=
  fun H locs ls hP hD hS hl => lv_iload C.1 C.2.1 hd (lv_at hl q hq) (kk H locs ls hP hD hS hl)
theorem g_lload_n (C : CX p s m args meth c D cl tys nw cc nL Ts own A) {k : Fin 4} {x : Int64} (q : Nat) (hd : decode cc pc = .ok (.lload_n k, 1)) (hq : lv[q]? = some ((k : Nat), .long x)) (kk : G p l e R s m args below meth c D cl nL A cells slots Q ws (pc + 1) lv (.long x :: st)) : G p l e R s m args below meth c D cl nL A cells slots Q ws pc lv st :=
  fun H locs ls hP hD hS hl => lv_lload_n C.1 C.2.1 hd rfl (lv_at hl q hq) (kk H locs ls hP hD hS hl)
theorem g_lload (C : CX p s m args meth c D cl tys nw cc nL Ts own A) {i : Nat} {x : Int64} (q : Nat) (hd : decode cc pc = .ok (.lload i, 2)) (hq : lv[q]? = some (i, .long x)) (kk : G p l e R s m args below meth c D cl nL A cells slots Q ws (pc + 2) lv (.long x :: st)) : G p l e R s m args below meth c D cl nL A cells slots Q ws pc lv st :=
  fun H locs ls hP hD hS hl => lv_lload C.1 C.2.1 hd (lv_at hl q hq) (kk H locs ls hP hD hS hl)
theorem g_aload_n (C : CX p s m args meth c D cl tys nw cc nL Ts own A) {k : Fin 4} {x : Nat} (q : Nat) (hd : decode cc pc = .ok (.aload_n k, 1)) (hq : lv[q]? = some ((k : Nat), .ref x)) (kk : G p l e R s m args below meth c D cl nL A cells slots Q ws (pc + 1) lv (.ref x :: st)) : G p l e R s m args below meth c D cl nL A cells slots Q ws pc lv st :=
  fun H locs ls hP hD hS hl => lv_aload_n C.1 C.2.1 hd rfl (lv_at hl q hq) (kk H locs ls hP hD hS hl)
theorem g_aload (C : CX p s m args meth c D cl tys nw cc nL Ts own A) {i : Nat} {x : Nat} (q : Nat) (hd : decode cc pc = .ok (.aload i, 2)) (hq : lv[q]? = some (i, .ref x)) (kk : G p l e R s m args below meth c D cl nL A cells slots Q ws (pc + 2) lv (.ref x :: st)) : G p l e R s m args below meth c D cl nL A cells slots Q ws pc lv st :=
  fun H locs ls hP hD hS hl => lv_aload C.1 C.2.1 hd (lv_at hl q hq) (kk H locs ls hP hD hS hl)
theorem g_istore_n (C : CX p s m args meth c D cl tys nw cc nL Ts own A) {k : Fin 4} {x : Int32} (hd : decode cc pc = .ok (.istore_n k, 1)) (hn : (k : Nat) < nL) (hv : ((k : Nat), Value.int x) :: lv.filter (fun q => !(q.1 == (k : Nat)) && !(q.1 + 1 == (k : Nat) && q.2.category == 2)) = lv') (kk : G p l e R s m args below meth c D cl nL A cells slots Q ws (pc + 1) lv' st) : G p l e R s m args below meth c D cl nL A cells slots Q ws pc lv (.int x :: st) :=
  fun H locs ls hP hD hS hl => lv_istore_n C.1 C.2.1 hd rfl hl hn hv (fun ls' hl' => kk H locs ls' hP hD hS hl')
theorem g_istore (C : CX p s m args meth c D cl tys nw cc nL Ts own A) {i : Nat} {x : Int32} (hd : decode cc pc = .ok (.istore i, 2)) (hn : i < nL) (hv : (i, Value.int x) :: lv.filter (fun q => !(q.1 == i) && !(q.1 + 1 == i && q.2.category == 2)) = lv') (kk : G p l e R s m args below meth c D cl nL A cells slots Q ws (pc + 2) lv' st) : G p l e R s m args below meth c D cl nL A cells slots Q ws pc lv (.int x :: st) :=
  fun H locs ls hP hD hS hl => lv_istore C.1 C.2.1 hd hl hn hv (fun ls' hl' => kk H locs ls' hP hD hS hl')
theorem g_lstore_n (C : CX p s m args meth c D cl tys nw cc nL Ts own A) {k : Fin 4} {x : Int64} (hd : decode cc pc = .ok (.lstore_n k, 1)) (hn : (k : Nat) + 1 < nL) (hv : ((k : Nat), Value.long x) :: lv.filter (fun q => !(q.1 == (k : Nat)) && (!(q.1 == (k : Nat) + 1) && !(q.1 + 1 == (k : Nat) && q.2.category == 2))) = lv') (kk : G p l e R s m args below meth c D cl nL A cells slots Q ws (pc + 1) lv' st) : G p l e R s m args below meth c D cl nL A cells slots Q ws pc lv (.long x :: st) :=
  fun H locs ls hP hD hS hl => lv_lstore_n C.1 C.2.1 hd rfl hl hn hv (fun ls' hl' => kk H locs ls' hP hD hS hl')
theorem g_lstore (C : CX p s m args meth c D cl tys nw cc nL Ts own A) {i : Nat} {x : Int64} (hd : decode cc pc = .ok (.lstore i, 2)) (hn : i + 1 < nL) (hv : (i, Value.long x) :: lv.filter (fun q => !(q.1 == i) && (!(q.1 == i + 1) && !(q.1 + 1 == i && q.2.category == 2))) = lv') (kk : G p l e R s m args below meth c D cl nL A cells slots Q ws (pc + 2) lv' st) : G p l e R s m args below meth c D cl nL A cells slots Q ws pc lv (.long x :: st) :=
  fun H locs ls hP hD hS hl => lv_lstore C.1 C.2.1 hd hl hn hv (fun ls' hl' => kk H locs ls' hP hD hS hl')
theorem g_astore_n (C : CX p s m args meth c D cl tys nw cc nL Ts own A) {k : Fin 4} {x : Nat} (hd : decode cc pc = .ok (.astore_n k, 1)) (hn : (k : Nat) < nL) (hv : ((k : Nat), Value.ref x) :: lv.filter (fun q => !(q.1 == (k : Nat)) && !(q.1 + 1 == (k : Nat) && q.2.category == 2)) = lv') (kk : G p l e R s m args below meth c D cl nL A cells slots Q ws (pc + 1) lv' st) : G p l e R s m args below meth c D cl nL A cells slots Q ws pc lv (.ref x :: st) :=
  fun H locs ls hP hD hS hl => lv_astore_n C.1 C.2.1 hd rfl hl hn hv (fun ls' hl' => kk H locs ls' hP hD hS hl')
theorem g_astore (C : CX p s m args meth c D cl tys nw cc nL Ts own A) {i : Nat} {x : Nat} (hd : decode cc pc = .ok (.astore i, 2)) (hn : i < nL) (hv : (i, Value.ref x) :: lv.filter (fun q => !(q.1 == i) && !(q.1 + 1 == i && q.2.category == 2)) = lv') (kk : G p l e R s m args below meth c D cl nL A cells slots Q ws (pc + 2) lv' st) : G p l e R s m args below meth c D cl nL A cells slots Q ws pc lv (.ref x :: st) :=
  fun H locs ls hP hD hS hl => lv_astore C.1 C.2.1 hd hl hn hv (fun ls' hl' => kk H locs ls' hP hD hS hl')
theorem g_iinc (C : CX p s m args meth c D cl tys nw cc nL Ts own A) {i : Nat} {n x : Int} (q : Nat) (hd : decode cc pc = .ok (.iinc i n, 3)) (hq : lv[q]? = some (i, .int (iI x))) (hn : i < nL) (hv : (i, Value.int (iI (x + n))) :: lv.filter (fun q => !(q.1 == i) && !(q.1 + 1 == i && q.2.category == 2)) = lv') (kk : G p l e R s m args below meth c D cl nL A cells slots Q ws (pc + 3) lv' st) : G p l e R s m args below meth c D cl nL A cells slots Q ws pc lv st :=
  fun H locs ls hP hD hS hl => lv_iinc C.1 C.2.1 hd hl hq (iI_add x n) hn hv (fun ls' hl' => kk H locs ls' hP hD hS hl')
theorem g_iadd (C : CX p s m args meth c D cl tys nw cc nL Ts own A) {x y : Int} (hd : decode cc pc = .ok (.iadd, 1)) (k : G p l e R s m args below meth c D cl nL A cells slots Q ws (pc + 1) lv (.int (iI (x + y)) :: st)) : G p l e R s m args below meth c D cl nL A cells slots Q ws pc lv (.int (iI y) :: .int (iI x) :: st) :=
  fun H locs ls hP hD hS hl => lv_iadd C.1 C.2.1 hd (by rw [iI_add]; exact k H locs ls hP hD hS hl)
theorem g_isub (C : CX p s m args meth c D cl tys nw cc nL Ts own A) {x y : Int} (hd : decode cc pc = .ok (.isub, 1)) (k : G p l e R s m args below meth c D cl nL A cells slots Q ws (pc + 1) lv (.int (iI (x - y)) :: st)) : G p l e R s m args below meth c D cl nL A cells slots Q ws pc lv (.int (iI y) :: .int (iI x) :: st) :=
  fun H locs ls hP hD hS hl => lv_isub C.1 C.2.1 hd (by rw [iI_sub]; exact k H locs ls hP hD hS hl)
theorem g_imul (C : CX p s m args meth c D cl tys nw cc nL Ts own A) {x y : Int} (hd : decode cc pc = .ok (.imul, 1)) (k : G p l e R s m args below meth c D cl nL A cells slots Q ws (pc + 1) lv (.int (iI (x * y)) :: st)) : G p l e R s m args below meth c D cl nL A cells slots Q ws pc lv (.int (iI y) :: .int (iI x) :: st) :=
  fun H locs ls hP hD hS hl => lv_imul C.1 C.2.1 hd (by rw [iI_mul]; exact k H locs ls hP hD hS hl)
theorem g_iand (C : CX p s m args meth c D cl tys nw cc nL Ts own A) {x y : Int32} {z : Int} (hd : decode cc pc = .ok (.iand, 1)) (hz : x &&& y = iI z) (k : G p l e R s m args below meth c D cl nL A cells slots Q ws (pc + 1) lv (.int (iI z) :: st)) : G p l e R s m args below meth c D cl nL A cells slots Q ws pc lv (.int y :: .int x :: st) :=
  fun H locs ls hP hD hS hl => lv_iand C.1 C.2.1 hd (by rw [hz]; exact k H locs ls hP hD hS hl)
theorem g_ior (C : CX p s m args meth c D cl tys nw cc nL Ts own A) {x y : Int32} {z : Int} (hd : decode cc pc = .ok (.ior, 1)) (hz : x ||| y = iI z) (k : G p l e R s m args below meth c D cl nL A cells slots Q ws (pc + 1) lv (.int (iI z) :: st)) : G p l e R s m args below meth c D cl nL A cells slots Q ws pc lv (.int y :: .int x :: st) :=
  fun H locs ls hP hD hS hl => lv_ior C.1 C.2.1 hd (by rw [hz]; exact k H locs ls hP hD hS hl)
theorem g_ixor (C : CX p s m args meth c D cl tys nw cc nL Ts own A) {x y : Int32} {z : Int} (hd : decode cc pc = .ok (.ixor, 1)) (hz : x ^^^ y = iI z) (k : G p l e R s m args below meth c D cl nL A cells slots Q ws (pc + 1) lv (.int (iI z) :: st)) : G p l e R s m args below meth c D cl nL A cells slots Q ws pc lv (.int y :: .int x :: st) :=
  fun H locs ls hP hD hS hl => lv_ixor C.1 C.2.1 hd (by rw [hz]; exact k H locs ls hP hD hS hl)
theorem g_ishl (C : CX p s m args meth c D cl tys nw cc nL Ts own A) {x k d : Int} (hd : decode cc pc = .ok (.ishl, 1)) (h0 : 0 ≤ k) (h1 : k < 32) (h2 : (2 : Int) ^ k.toNat = d) (kk : G p l e R s m args below meth c D cl nL A cells slots Q ws (pc + 1) lv (.int (iI (x * d)) :: st)) : G p l e R s m args below meth c D cl nL A cells slots Q ws pc lv (.int (iI k) :: .int (iI x) :: st) :=
  fun H locs ls hP hD hS hl => lv_ishl C.1 C.2.1 hd (by rw [iI_shl h0 h1, h2]; exact kk H locs ls hP hD hS hl)
theorem g_ishr (C : CX p s m args meth c D cl tys nw cc nL Ts own A) {x k d : Int} (hd : decode cc pc = .ok (.ishr, 1)) (hx : rI x) (h0 : 0 ≤ k) (h1 : k < 32) (h2 : (2 : Int) ^ k.toNat = d) (kk : G p l e R s m args below meth c D cl nL A cells slots Q ws (pc + 1) lv (.int (iI (x / d)) :: st)) : G p l e R s m args below meth c D cl nL A cells slots Q ws pc lv (.int (iI k) :: .int (iI x) :: st) :=
  fun H locs ls hP hD hS hl => lv_ishr C.1 C.2.1 hd (by rw [iI_shr hx h0 h1, h2]; exact kk H locs ls hP hD hS hl)
theorem g_dup (C : CX p s m args meth c D cl tys nw cc nL Ts own A) {va : Value} (hd : decode cc pc = .ok (.dup, 1)) (hva : va.category = 1) (k : G p l e R s m args below meth c D cl nL A cells slots Q ws (pc + 1) lv (va :: va :: st)) : G p l e R s m args below meth c D cl nL A cells slots Q ws pc lv (va :: st) :=
  fun H locs ls hP hD hS hl => lv_dup C.1 C.2.1 hd hva (k H locs ls hP hD hS hl)
theorem g_pop (C : CX p s m args meth c D cl tys nw cc nL Ts own A) {va : Value} (hd : decode cc pc = .ok (.pop, 1)) (hva : va.category = 1) (k : G p l e R s m args below meth c D cl nL A cells slots Q ws (pc + 1) lv st) : G p l e R s m args below meth c D cl nL A cells slots Q ws pc lv (va :: st) :=
  fun H locs ls hP hD hS hl => lv_pop C.1 C.2.1 hd hva (k H locs ls hP hD hS hl)
theorem g_dup2 (C : CX p s m args meth c D cl tys nw cc nL Ts own A) {va vb : Value} (hd : decode cc pc = .ok (.dup2, 1)) (hva : va.category = 1) (hvb : vb.category = 1) (k : G p l e R s m args below meth c D cl nL A cells slots Q ws (pc + 1) lv (va :: vb :: va :: vb :: st)) : G p l e R s m args below meth c D cl nL A cells slots Q ws pc lv (va :: vb :: st) :=
  fun H locs ls hP hD hS hl => lv_dup2_11 C.1 C.2.1 hd hva hvb (k H locs ls hP hD hS hl)
theorem g_goto (C : CX p s m args meth c D cl tys nw cc nL Ts own A) {off : Int} {tgt : Nat} (hd : decode cc pc = .ok (.goto off, 3)) (ht : (pc : Int) + off = (tgt : Int)) (k : G p l e R s m args below meth c D cl nL A cells slots Q ws tgt lv st) : G p l e R s m args below meth c D cl nL A cells slots Q ws pc lv st :=
  fun H locs ls hP hD hS hl => lv_goto C.1 C.2.1 hd ht (k H locs ls hP hD hS hl)
theorem g_icmp_lt (C : CX p s m args meth c D cl tys nw cc nL Ts own A) {x y off : Int} {tgt : Nat} (hd : decode cc pc = .ok (.if_icmp .lt off, 3)) (ht : (pc : Int) + off = (tgt : Int)) (hx : rI x) (hy : rI y) (kt : x < y → G p l e R s m args below meth c D cl nL A cells slots Q ws tgt lv st) (kf : y ≤ x → G p l e R s m args below meth c D cl nL A cells slots Q ws (pc + 3) lv st) : G p l e R s m args below meth c D cl nL A cells slots Q ws pc lv (.int (iI y) :: .int (iI x) :: st) :=
  fun H locs ls hP hD hS hl => lv_icmp_lt C.1 C.2.1 hd ht (fun h => kt ((iI_lt hx hy).mp h) H locs ls hP hD hS hl) (fun h => kf (Int.not_lt.mp fun z => h ((iI_lt hx hy).mpr z)) H locs ls hP hD hS hl)
theorem g_icmp_ge (C : CX p s m args meth c D cl tys nw cc nL Ts own A) {x y off : Int} {tgt : Nat} (hd : decode cc pc = .ok (.if_icmp .ge off, 3)) (ht : (pc : Int) + off = (tgt : Int)) (hx : rI x) (hy : rI y) (kt : y ≤ x → G p l e R s m args below meth c D cl nL A cells slots Q ws tgt lv st) (kf : x < y → G p l e R s m args below meth c D cl nL A cells slots Q ws (pc + 3) lv st) : G p l e R s m args below meth c D cl nL A cells slots Q ws pc lv (.int (iI y) :: .int (iI x) :: st) :=
  fun H locs ls hP hD hS hl => lv_icmp_ge C.1 C.2.1 hd ht (fun h => kt ((iI_le hy hx).mp h) H locs ls hP hD hS hl) (fun h => kf (Int.not_le.mp fun z => h ((iI_le hy hx).mpr z)) H locs ls hP hD hS hl)
theorem g_icmp_gt (C : CX p s m args meth c D cl tys nw cc nL Ts own A) {x y off : Int} {tgt : Nat} (hd : decode cc pc = .ok (.if_icmp .gt off, 3)) (ht : (pc : Int) + off = (tgt : Int)) (hx : rI x) (hy : rI y) (kt : y < x → G p l e R s m args below meth c D cl nL A cells slots Q ws tgt lv st) (kf : x ≤ y → G p l e R s m args below meth c D cl nL A cells slots Q ws (pc + 3) lv st) : G p l e R s m args below meth c D cl nL A cells slots Q ws pc lv (.int (iI y) :: .int (iI x) :: st) :=
  fun H locs ls hP hD hS hl => lv_icmp_gt C.1 C.2.1 hd ht (fun h => kt ((iI_lt hy hx).mp h) H locs ls hP hD hS hl) (fun h => kf (Int.not_lt.mp fun z => h ((iI_lt hy hx).mpr z)) H locs ls hP hD hS hl)
theorem g_icmp_le (C : CX p s m args meth c D cl tys nw cc nL Ts own A) {x y off : Int} {tgt : Nat} (hd : decode cc pc = .ok (.if_icmp .le off, 3)) (ht : (pc : Int) + off = (tgt : Int)) (hx : rI x) (hy : rI y) (kt : x ≤ y → G p l e R s m args below meth c D cl nL A cells slots Q ws tgt lv st) (kf : y < x → G p l e R s m args below meth c D cl nL A cells slots Q ws (pc + 3) lv st) : G p l e R s m args below meth c D cl nL A cells slots Q ws pc lv (.int (iI y) :: .int (iI x) :: st) :=
  fun H locs ls hP hD hS hl => lv_icmp_le C.1 C.2.1 hd ht (fun h => kt ((iI_le hx hy).mp h) H locs ls hP hD hS hl) (fun h => kf (Int.not_le.mp fun z => h ((iI_le hx hy).mpr z)) H locs ls hP hD hS hl)
theorem g_icmp_eq (C : CX p s m args meth c D cl tys nw cc nL Ts own A) {x y off : Int} {tgt : Nat} (hd : decode cc pc = .ok (.if_icmp .eq off, 3)) (ht : (pc : Int) + off = (tgt : Int)) (hx : rI x) (hy : rI y) (kt : x = y → G p l e R s m args below meth c D cl nL A cells slots Q ws tgt lv st) (kf : ¬ x = y → G p l e R s m args below meth c D cl nL A cells slots Q ws (pc + 3) lv st) : G p l e R s m args below meth c D cl nL A cells slots Q ws pc lv (.int (iI y) :: .int (iI x) :: st) :=
  fun H locs ls hP hD hS hl => lv_icmp_eq C.1 C.2.1 hd ht (fun h => kt ((iI_eq hx hy).mp h) H locs ls hP hD hS hl) (fun h => kf (fun z => h ((iI_eq hx hy).mpr z)) H locs ls hP hD hS hl)
theorem g_icmp_ne (C : CX p s m args meth c D cl tys nw cc nL Ts own A) {x y off : Int} {tgt : Nat} (hd : decode cc pc = .ok (.if_icmp .ne off, 3)) (ht : (pc : Int) + off = (tgt : Int)) (hx : rI x) (hy : rI y) (kt : ¬ x = y → G p l e R s m args below meth c D cl nL A cells slots Q ws tgt lv st) (kf : x = y → G p l e R s m args below meth c D cl nL A cells slots Q ws (pc + 3) lv st) : G p l e R s m args below meth c D cl nL A cells slots Q ws pc lv (.int (iI y) :: .int (iI x) :: st) :=
  fun H locs ls hP hD hS hl => lv_icmp_ne C.1 C.2.1 hd ht (fun h => kt (fun z => h ((iI_eq hx hy).mpr z)) H locs ls hP hD hS hl) (fun h => kf ((iI_eq hx hy).mp h) H locs ls hP hD hS hl)
theorem g_if_lt (C : CX p s m args meth c D cl tys nw cc nL Ts own A) {x off : Int} {tgt : Nat} (hd : decode cc pc = .ok (.ifCond .lt off, 3)) (ht : (pc : Int) + off = (tgt : Int)) (hx : rI x) (kt : x < 0 → G p l e R s m args below meth c D cl nL A cells slots Q ws tgt lv st) (kf : 0 ≤ x → G p l e R s m args below meth c D cl nL A cells slots Q ws (pc + 3) lv st) : G p l e R s m args below meth c D cl nL A cells slots Q ws pc lv (.int (iI x) :: st) :=
  fun H locs ls hP hD hS hl => lv_if_lt C.1 C.2.1 hd ht (fun h => kt ((iI_lt hx (b := 0) (by decide)).mp h) H locs ls hP hD hS hl) (fun h => kf (Int.not_lt.mp fun z => h ((iI_lt hx (b := 0) (by decide)).mpr z)) H locs ls hP hD hS hl)
theorem g_if_ge (C : CX p s m args meth c D cl tys nw cc nL Ts own A) {x off : Int} {tgt : Nat} (hd : decode cc pc = .ok (.ifCond .ge off, 3)) (ht : (pc : Int) + off = (tgt : Int)) (hx : rI x) (kt : 0 ≤ x → G p l e R s m args below meth c D cl nL A cells slots Q ws tgt lv st) (kf : x < 0 → G p l e R s m args below meth c D cl nL A cells slots Q ws (pc + 3) lv st) : G p l e R s m args below meth c D cl nL A cells slots Q ws pc lv (.int (iI x) :: st) :=
  fun H locs ls hP hD hS hl => lv_if_ge C.1 C.2.1 hd ht (fun h => kt ((iI_le (a := 0) (by decide) hx).mp h) H locs ls hP hD hS hl) (fun h => kf (Int.not_le.mp fun z => h ((iI_le (a := 0) (by decide) hx).mpr z)) H locs ls hP hD hS hl)
theorem g_if_gt (C : CX p s m args meth c D cl tys nw cc nL Ts own A) {x off : Int} {tgt : Nat} (hd : decode cc pc = .ok (.ifCond .gt off, 3)) (ht : (pc : Int) + off = (tgt : Int)) (hx : rI x) (kt : 0 < x → G p l e R s m args below meth c D cl nL A cells slots Q ws tgt lv st) (kf : x ≤ 0 → G p l e R s m args below meth c D cl nL A cells slots Q ws (pc + 3) lv st) : G p l e R s m args below meth c D cl nL A cells slots Q ws pc lv (.int (iI x) :: st) :=
  fun H locs ls hP hD hS hl => lv_if_gt C.1 C.2.1 hd ht (fun h => kt ((iI_lt (a := 0) (by decide) hx).mp h) H locs ls hP hD hS hl) (fun h => kf (Int.not_lt.mp fun z => h ((iI_lt (a := 0) (by decide) hx).mpr z)) H locs ls hP hD hS hl)
theorem g_if_le (C : CX p s m args meth c D cl tys nw cc nL Ts own A) {x off : Int} {tgt : Nat} (hd : decode cc pc = .ok (.ifCond .le off, 3)) (ht : (pc : Int) + off = (tgt : Int)) (hx : rI x) (kt : x ≤ 0 → G p l e R s m args below meth c D cl nL A cells slots Q ws tgt lv st) (kf : 0 < x → G p l e R s m args below meth c D cl nL A cells slots Q ws (pc + 3) lv st) : G p l e R s m args below meth c D cl nL A cells slots Q ws pc lv (.int (iI x) :: st) :=
  fun H locs ls hP hD hS hl => lv_if_le C.1 C.2.1 hd ht (fun h => kt ((iI_le hx (b := 0) (by decide)).mp h) H locs ls hP hD hS hl) (fun h => kf (Int.not_le.mp fun z => h ((iI_le hx (b := 0) (by decide)).mpr z)) H locs ls hP hD hS hl)
theorem g_if_eq (C : CX p s m args meth c D cl tys nw cc nL Ts own A) {x off : Int} {tgt : Nat} (hd : decode cc pc = .ok (.ifCond .eq off, 3)) (ht : (pc : Int) + off = (tgt : Int)) (hx : rI x) (kt : x = 0 → G p l e R s m args below meth c D cl nL A cells slots Q ws tgt lv st) (kf : ¬ x = 0 → G p l e R s m args below meth c D cl nL A cells slots Q ws (pc + 3) lv st) : G p l e R s m args below meth c D cl nL A cells slots Q ws pc lv (.int (iI x) :: st) :=
  fun H locs ls hP hD hS hl => lv_if_eq C.1 C.2.1 hd ht (fun h => kt ((iI_eq hx (b := 0) (by decide)).mp h) H locs ls hP hD hS hl) (fun h => kf (fun z => h ((iI_eq hx (b := 0) (by decide)).mpr z)) H locs ls hP hD hS hl)
theorem g_if_ne (C : CX p s m args meth c D cl tys nw cc nL Ts own A) {x off : Int} {tgt : Nat} (hd : decode cc pc = .ok (.ifCond .ne off, 3)) (ht : (pc : Int) + off = (tgt : Int)) (hx : rI x) (kt : ¬ x = 0 → G p l e R s m args below meth c D cl nL A cells slots Q ws tgt lv st) (kf : x = 0 → G p l e R s m args below meth c D cl nL A cells slots Q ws (pc + 3) lv st) : G p l e R s m args below meth c D cl nL A cells slots Q ws pc lv (.int (iI x) :: st) :=
  fun H locs ls hP hD hS hl => lv_if_ne C.1 C.2.1 hd ht (fun h => kt (fun z => h ((iI_eq hx (b := 0) (by decide)).mpr z)) H locs ls hP hD hS hl) (fun h => kf ((iI_eq hx (b := 0) (by decide)).mp h) H locs ls hP hD hS hl)
theorem bI_r (P : Prop) : rI (bI P) := by
  rcases bI_c P with h | h <;> rw [h] <;> decide
theorem g_ifeq_b (C : CX p s m args meth c D cl tys nw cc nL Ts own A) {P : Prop} {off : Int} {tgt : Nat} (hd : decode cc pc = .ok (.ifCond .eq off, 3)) (ht : (pc : Int) + off = (tgt : Int)) (kt : ¬ P → G p l e R s m args below meth c D cl nL A cells slots Q ws tgt lv st) (kf : P → G p l e R s m args below meth c D cl nL A cells slots Q ws (pc + 3) lv st) : G p l e R s m args below meth c D cl nL A cells slots Q ws pc lv (.int (iI (bI P)) :: st) :=
  g_if_eq C hd ht (bI_r P) (fun h => kt (bI_0.mp h)) (fun h => kf (Classical.byContradiction fun z => h (bI_0.mpr z)))
theorem g_ifne_b (C : CX p s m args meth c D cl tys nw cc nL Ts own A) {P : Prop} {off : Int} {tgt : Nat} (hd : decode cc pc = .ok (.ifCond .ne off, 3)) (ht : (pc : Int) + off = (tgt : Int)) (kt : P → G p l e R s m args below meth c D cl nL A cells slots Q ws tgt lv st) (kf : ¬ P → G p l e R s m args below meth c D cl nL A cells slots Q ws (pc + 3) lv st) : G p l e R s m args below meth c D cl nL A cells slots Q ws pc lv (.int (iI (bI P)) :: st) :=
  g_if_ne C hd ht (bI_r P) (fun h => kt (Classical.byContradiction fun z => h (bI_0.mpr z))) (fun h => kf (bI_0.mp h))
theorem cx_ts (C : CX p s m args meth c D cl tys nw cc nL Ts own A) {w : Cond} (h : w ∈ Ts) : w.before args s = true := C.2.2.2.2.1 w h
theorem cx_k (C : CX p s m args meth c D cl tys nw cc nL Ts own A) : va_K D cl tys s := C.2.2.2.2.2.1
theorem cx_a (C : CX p s m args meth c D cl tys nw cc nL Ts own A) : ∀ q, s.heap.size ≤ q → A q := C.2.2.2.2.2.2.1
theorem cx_fix (C : CX p s m args meth c D cl tys nw cc nL Ts own A) : CallFix p m c cc nL s args Ts own := ⟨C.1, C.2.1, C.2.2.1, C.2.2.2.1, C.2.2.2.2.1⟩
theorem cx_nw (C : CX p s m args meth c D cl tys nw cc nL Ts own A) {w : Cond} (h : w ∈ nw) : w.before args s = true := va_Nw.use (C.2.2.2.2.2.2.2.2.2 w h).1 (C.2.2.2.2.2.2.2.2.1 w h)
theorem g_i2l (C : CX p s m args meth c D cl tys nw cc nL Ts own A) {x : Int} (hd : decode cc pc = .ok (.i2l, 1)) (hx : rI x) (k : G p l e R s m args below meth c D cl nL A cells slots Q ws (pc + 1) lv (.long (lI x) :: st)) : G p l e R s m args below meth c D cl nL A cells slots Q ws pc lv (.int (iI x) :: st) :=
  fun H locs ls hP hD hS hl => lv_i2l C.1 C.2.1 hd (by
    apply Int64.toInt_inj.mp
    rw [Int32.toInt_toInt64, iI_toInt hx, lI_toInt (by constructor <;> omega)]) (k H locs ls hP hD hS hl)
theorem g_l2i (C : CX p s m args meth c D cl tys nw cc nL Ts own A) {x : Int} (hd : decode cc pc = .ok (.l2i, 1)) (k : G p l e R s m args below meth c D cl nL A cells slots Q ws (pc + 1) lv (.int (iI x) :: st)) : G p l e R s m args below meth c D cl nL A cells slots Q ws pc lv (.long (lI x) :: st) :=
  fun H locs ls hP hD hS hl => lv_l2i C.1 C.2.1 hd (Int64.toInt32_ofInt) (k H locs ls hP hD hS hl)
theorem g_ladd (C : CX p s m args meth c D cl tys nw cc nL Ts own A) {x y : Int} (hd : decode cc pc = .ok (.ladd, 1)) (k : G p l e R s m args below meth c D cl nL A cells slots Q ws (pc + 1) lv (.long (lI (x + y)) :: st)) : G p l e R s m args below meth c D cl nL A cells slots Q ws pc lv (.long (lI y) :: .long (lI x) :: st) :=
  fun H locs ls hP hD hS hl => lv_ladd C.1 C.2.1 hd (by rw [lI_add]; exact k H locs ls hP hD hS hl)
theorem g_lsub (C : CX p s m args meth c D cl tys nw cc nL Ts own A) {x y : Int} (hd : decode cc pc = .ok (.lsub, 1)) (k : G p l e R s m args below meth c D cl nL A cells slots Q ws (pc + 1) lv (.long (lI (x - y)) :: st)) : G p l e R s m args below meth c D cl nL A cells slots Q ws pc lv (.long (lI y) :: .long (lI x) :: st) :=
  fun H locs ls hP hD hS hl => lv_lsub C.1 C.2.1 hd (by rw [lI_sub]; exact k H locs ls hP hD hS hl)
theorem g_land (C : CX p s m args meth c D cl tys nw cc nL Ts own A) {x y : Int64} {z : Int} (hd : decode cc pc = .ok (.land, 1)) (hz : x &&& y = lI z) (k : G p l e R s m args below meth c D cl nL A cells slots Q ws (pc + 1) lv (.long (lI z) :: st)) : G p l e R s m args below meth c D cl nL A cells slots Q ws pc lv (.long y :: .long x :: st) :=
  fun H locs ls hP hD hS hl => lv_land C.1 C.2.1 hd (by rw [hz]; exact k H locs ls hP hD hS hl)
theorem g_lor (C : CX p s m args meth c D cl tys nw cc nL Ts own A) {x y : Int64} {z : Int} (hd : decode cc pc = .ok (.lor, 1)) (hz : x ||| y = lI z) (k : G p l e R s m args below meth c D cl nL A cells slots Q ws (pc + 1) lv (.long (lI z) :: st)) : G p l e R s m args below meth c D cl nL A cells slots Q ws pc lv (.long y :: .long x :: st) :=
  fun H locs ls hP hD hS hl => lv_lor C.1 C.2.1 hd (by rw [hz]; exact k H locs ls hP hD hS hl)
theorem g_lshl (C : CX p s m args meth c D cl tys nw cc nL Ts own A) {x : Int64} {y : Int32} {z : Int} (hd : decode cc pc = .ok (.lshl, 1)) (hz : x <<< (y.toInt64 &&& 63) = lI z) (k : G p l e R s m args below meth c D cl nL A cells slots Q ws (pc + 1) lv (.long (lI z) :: st)) : G p l e R s m args below meth c D cl nL A cells slots Q ws pc lv (.int y :: .long x :: st) :=
  fun H locs ls hP hD hS hl => lv_lshl C.1 C.2.1 hd hz (k H locs ls hP hD hS hl)
theorem g_lshr (C : CX p s m args meth c D cl tys nw cc nL Ts own A) {x : Int64} {y : Int32} {z : Int} (hd : decode cc pc = .ok (.lshr, 1)) (hz : x >>> (y.toInt64 &&& 63) = lI z) (k : G p l e R s m args below meth c D cl nL A cells slots Q ws (pc + 1) lv (.long (lI z) :: st)) : G p l e R s m args below meth c D cl nL A cells slots Q ws pc lv (.int y :: .long x :: st) :=
  fun H locs ls hP hD hS hl => lv_lshr C.1 C.2.1 hd hz (k H locs ls hP hD hS hl)
/-- lcmp, and the branch behind it -/
theorem g_lcmp_lt (C : CX p s m args meth c D cl tys nw cc nL Ts own A) {x y off : Int} {tgt : Nat} (hd0 : decode cc pc = .ok (.lcmp, 1)) (hd : decode cc (pc + 1) = .ok (.ifCond .lt off, 3)) (ht : ((pc + 1 : Nat) : Int) + off = (tgt : Int)) (hx : rL x) (hy : rL y) (kt : x < y → G p l e R s m args below meth c D cl nL A cells slots Q ws tgt lv st) (kf : y ≤ x → G p l e R s m args below meth c D cl nL A cells slots Q ws (pc + 1 + 3) lv st) : G p l e R s m args below meth c D cl nL A cells slots Q ws pc lv (.long (lI y) :: .long (lI x) :: st) :=
  fun H locs ls hP hD hS hl => W.lcmp C.1 C.2.1 hd0 (lv_if_lt C.1 C.2.1 hd ht (fun h => kt ((lI_lt hx hy).mp ((lg_cmp_lt _ _).mp h)) H locs ls hP hD hS hl) (fun h => kf (Int.not_lt.mp fun z => h ((lg_cmp_lt _ _).mpr ((lI_lt hx hy).mpr z))) H locs ls hP hD hS hl))
theorem g_lcmp_ge (C : CX p s m args meth c D cl tys nw cc nL Ts own A) {x y off : Int} {tgt : Nat} (hd0 : decode cc pc = .ok (.lcmp, 1)) (hd : decode cc (pc + 1) = .ok (.ifCond .ge off, 3)) (ht : ((pc + 1 : Nat) : Int) + off = (tgt : Int)) (hx : rL x) (hy : rL y) (kt : y ≤ x → G p l e R s m args below meth c D cl nL A cells slots Q ws tgt lv st) (kf : x < y → G p l e R s m args below meth c D cl nL A cells slots Q ws (pc + 1 + 3) lv st) : G p l e R s m args below meth c D cl nL A cells slots Q ws pc lv (.long (lI y) :: .long (lI x) :: st) :=
  fun H locs ls hP hD hS hl => W.lcmp C.1 C.2.1 hd0 (lv_if_ge C.1 C.2.1 hd ht (fun h => kt ((lI_le hy hx).mp ((lg_cmp_ge _ _).mp h)) H locs ls hP hD hS hl) (fun h => kf (Int.not_le.mp fun z => h ((lg_cmp_ge _ _).mpr ((lI_le hy hx).mpr z))) H locs ls hP hD hS hl))
theorem g_lcmp_gt (C : CX p s m args meth c D cl tys nw cc nL Ts own A) {x y off : Int} {tgt : Nat} (hd0 : decode cc pc = .ok (.lcmp, 1)) (hd : decode cc (pc + 1) = .ok (.ifCond .gt off, 3)) (ht : ((pc + 1 : Nat) : Int) + off = (tgt : Int)) (hx : rL x) (hy : rL y) (kt : y < x → G p l e R s m args below meth c D cl nL A cells slots Q ws tgt lv st) (kf : x ≤ y → G p l e R s m args below meth c D cl nL A cells slots Q ws (pc + 1 + 3) lv st) : G p l e R s m args below meth c D cl nL A cells slots Q ws pc lv (.long (lI y) :: .long (lI x) :: st) :=
  fun H locs ls hP hD hS hl => W.lcmp C.1 C.2.1 hd0 (lv_if_gt C.1 C.2.1 hd ht (fun h => kt ((lI_lt hy hx).mp ((lg_cmp_gt _ _).mp h)) H locs ls hP hD hS hl) (fun h => kf (Int.not_lt.mp fun z => h ((lg_cmp_gt _ _).mpr ((lI_lt hy hx).mpr z))) H locs ls hP hD hS hl))
theorem g_lcmp_le (C : CX p s m args meth c D cl tys nw cc nL Ts own A) {x y off : Int} {tgt : Nat} (hd0 : decode cc pc = .ok (.lcmp, 1)) (hd : decode cc (pc + 1) = .ok (.ifCond .le off, 3)) (ht : ((pc + 1 : Nat) : Int) + off = (tgt : Int)) (hx : rL x) (hy : rL y) (kt : x ≤ y → G p l e R s m args below meth c D cl nL A cells slots Q ws tgt lv st) (kf : y < x → G p l e R s m args below meth c D cl nL A cells slots Q ws (pc + 1 + 3) lv st) : G p l e R s m args below meth c D cl nL A cells slots Q ws pc lv (.long (lI y) :: .long (lI x) :: st) :=
  fun H locs ls hP hD hS hl => W.lcmp C.1 C.2.1 hd0 (lv_if_le C.1 C.2.1 hd ht (fun h => kt ((lI_le hx hy).mp ((lg_cmp_le _ _).mp h)) H locs ls hP hD hS hl) (fun h => kf (Int.not_le.mp fun z => h ((lg_cmp_le _ _).mpr ((lI_le hx hy).mpr z))) H locs ls hP hD hS hl))
theorem g_lcmp_eq (C : CX p s m args meth c D cl tys nw cc nL Ts own A) {x y off : Int} {tgt : Nat} (hd0 : decode cc pc = .ok (.lcmp, 1)) (hd : decode cc (pc + 1) = .ok (.ifCond .eq off, 3)) (ht : ((pc + 1 : Nat) : Int) + off = (tgt : Int)) (hx : rL x) (hy : rL y) (kt : x = y → G p l e R s m args below meth c D cl nL A cells slots Q ws tgt lv st) (kf : ¬ x = y → G p l e R s m args below meth c D cl nL A cells slots Q ws (pc + 1 + 3) lv st) : G p l e R s m args below meth c D cl nL A cells slots Q ws pc lv (.long (lI y) :: .long (lI x) :: st) :=
  fun H locs ls hP hD hS hl => W.lcmp C.1 C.2.1 hd0 (lv_if_eq C.1 C.2.1 hd ht (fun h => kt ((lI_eq hx hy).mp ((lg_cmp_eq _ _).mp h)) H locs ls hP hD hS hl) (fun h => kf (fun z => h ((lg_cmp_eq _ _).mpr ((lI_eq hx hy).mpr z))) H locs ls hP hD hS hl))
theorem g_lcmp_ne (C : CX p s m args meth c D cl tys nw cc nL Ts own A) {x y off : Int} {tgt : Nat} (hd0 : decode cc pc = .ok (.lcmp, 1)) (hd : decode cc (pc + 1) = .ok (.ifCond .ne off, 3)) (ht : ((pc + 1 : Nat) : Int) + off = (tgt : Int)) (hx : rL x) (hy : rL y) (kt : ¬ x = y → G p l e R s m args below meth c D cl nL A cells slots Q ws tgt lv st) (kf : x = y → G p l e R s m args below meth c D cl nL A cells slots Q ws (pc + 1 + 3) lv st) : G p l e R s m args below meth c D cl nL A cells slots Q ws pc lv (.long (lI y) :: .long (lI x) :: st) :=
  fun H locs ls hP hD hS hl => W.lcmp C.1 C.2.1 hd0 (lv_if_ne C.1 C.2.1 hd ht (fun h => kt (fun z => h ((lg_cmp_eq _ _).mpr ((lI_eq hx hy).mpr z))) H locs ls hP hD hS hl) (fun h => kf ((lI_eq hx hy).mp ((lg_cmp_eq _ _).mp h)) H locs ls hP hD hS hl))
theorem g_get (C : CX p s m args meth c D cl tys nw cc nL Ts own A) {ref Cn : String} {T : u_T} {N ci index a : Nat} {fs : List Value} {v : Value} (hin : ∀ w ∈ u_ws Cn T N, w ∈ Ts) (q0 : Nat) (he : ws[q0]? = some (a, .inr (ci, fs))) (hc : cl[ci]? = some (Cn, T, N)) (k : Nat) (hk : k < N) (hlink : Cond.fieldLink own index ref (T k).2.1 (T k).2.2.1 ∈ Ts) (hsame : (T k).1 = ref) (hv : fs[k]? = some v) (hd : decode cc pc = .ok (.getfield index, 3)) (kk : G p l e R s m args below meth c D cl nL A cells slots Q ws (pc + 3) lv (v :: st)) : G p l e R s m args below meth c D cl nL A cells slots Q ws pc lv (.ref a :: st) :=
  fun H locs ls hP hD hS hl => va_get C.1 C.2.1 C.2.2.2.2.1 hin C.2.2.2.1 (cx_k C) hP q0 he hc k hk (cx_ts C hlink) (fun x h => hsame ▸ h) hv hd (kk H locs ls hP hD hS hl)
theorem g_getN (C : CX p s m args meth c D cl tys nw cc nL Ts own A) {ref Cn host : String} {T : u_T} {N ci index a : Nat} {fs : List Value} {v : Value} (hin : ∀ w ∈ u_ws Cn T N, w ∈ Ts) (q0 : Nat) (he : ws[q0]? = some (a, .inr (ci, fs))) (hc : cl[ci]? = some (Cn, T, N)) (k : Nat) (hk : k < N) (hlink : Cond.fieldLinkNest own index ref (T k).2.1 (T k).2.2.1 host ∈ nw) (hsame : (T k).1 = ref) (hv : fs[k]? = some v) (hd : decode cc pc = .ok (.getfield index, 3)) (kk : G p l e R s m args below meth c D cl nL A cells slots Q ws (pc + 3) lv (v :: st)) : G p l e R s m args below meth c D cl nL A cells slots Q ws pc lv (.ref a :: st) :=
  fun H locs ls hP hD hS hl => va_getN C.1 C.2.1 C.2.2.2.2.1 hin C.2.2.2.1 (cx_k C) hP q0 he hc k hk (cx_nw C hlink) (fun x h => hsame ▸ h) hv hd (kk H locs ls hP hD hS hl)
theorem g_put (C : CX p s m args meth c D cl tys nw cc nL Ts own A) {ref Cn : String} {T : u_T} {N ci index a : Nat} {fs : List Value} {v : Value} (hin : ∀ w ∈ u_ws Cn T N, w ∈ Ts) (ty0 : Nat → FieldType) (hty : ∀ k, k < N → parseFieldDescriptor (T k).2.2.1 = some (ty0 k)) (hnm : ∀ a, a < N → ∀ b, b < N → a ≠ b → (T a).2.1 ≠ (T b).2.1) (q0 : Nat) (he : ws[q0]? = some (a, .inr (ci, fs))) (hc : cl[ci]? = some (Cn, T, N)) (k : Nat) (hk : k < N) (hlink : Cond.fieldLink own index ref (T k).2.1 (T k).2.2.1 ∈ Ts) (hsame : (T k).1 = ref) (hfin : (T k).2.2.2 = false) (hn : narrow (ty0 k) v = v) (hfit : fits (ty0 k) v = true) (hlen : k < fs.length) (hd : decode cc pc = .ok (.putfield index, 3)) (hw : ws.set q0 (a, .inr (ci, fs.set k v)) = ws') (kk : G p l e R s m args below meth c D cl nL A cells slots Q ws' (pc + 3) lv st) : G p l e R s m args below meth c D cl nL A cells slots Q ws pc lv (v :: .ref a :: st) :=
  fun H locs ls hP hD hS hl => va_put C.1 C.2.1 C.2.2.2.2.1 hin ty0 hty hnm C.2.2.2.1 (cx_k C) hP hD hS q0 he hc k hk (cx_ts C hlink) (fun x h => hsame ▸ h) hfin (hty k hk) hn hfit hlen hd (fun H1 locs1 hP1 hD1 hS1 => kk H1 locs1 ls (hw ▸ hP1) (hw ▸ hD1) hS1 hl)
theorem g_putF (C : CX p s m args meth c D cl tys nw cc nL Ts own A) {ref Cn : String} {T : u_T} {N ci index a : Nat} {fs : List Value} {v : Value} (hin : ∀ w ∈ u_ws Cn T N, w ∈ Ts) (ty0 : Nat → FieldType) (hty : ∀ k, k < N → parseFieldDescriptor (T k).2.2.1 = some (ty0 k)) (hnm : ∀ a, a < N → ∀ b, b < N → a ≠ b → (T a).2.1 ≠ (T b).2.1) (q0 : Nat) (he : ws[q0]? = some (a, .inr (ci, fs))) (hc : cl[ci]? = some (Cn, T, N)) (k : Nat) (hk : k < N) (hlink : Cond.fieldLink own index ref (T k).2.1 (T k).2.2.1 ∈ Ts) (hsame : (T k).1 = ref) (hfin : (T k).2.2.2 = true) (hin2 : meth.name = "<init>") (hdecl : (T k).1 = own) (hn : narrow (ty0 k) v = v) (hfit : fits (ty0 k) v = true) (hlen : k < fs.length) (hd : decode cc pc = .ok (.putfield index, 3)) (hw : ws.set q0 (a, .inr (ci, fs.set k v)) = ws') (kk : G p l e R s m args below meth c D cl nL A cells slots Q ws' (pc + 3) lv st) : G p l e R s m args below meth c D cl nL A cells slots Q ws pc lv (v :: .ref a :: st) :=
  fun H locs ls hP hD hS hl => va_putF C.1 C.2.1 C.2.2.2.2.1 hin ty0 hty hnm C.2.2.2.1 (cx_k C) hP hD hS q0 he hc k hk (cx_ts C hlink) (fun x h => hsame ▸ h) hfin hin2 hdecl (hty k hk) hn hfit hlen hd (fun H1 locs1 hP1 hD1 hS1 => kk H1 locs1 ls (hw ▸ hP1) (hw ▸ hD1) hS1 hl)
theorem g_iald (C : CX p s m args meth c D cl tys nw cc nL Ts own A) {a n : Nat} {cA : ClassId} {f : Int → Int} {i : Int} (q0 t0 : Nat) (ha : ws[q0]? = some (a, .inl (cA, aI n f))) (ht : tys[t0]? = some (cA, .int)) (h0 : 0 ≤ i) (h1 : i < n) (hn : (n : Int) ≤ 2147483647) (hd : decode cc pc = .ok (.iaload, 1)) (kk : G p l e R s m args below meth c D cl nL A cells slots Q ws (pc + 1) lv (.int (iI (f i)) :: st)) : G p l e R s m args below meth c D cl nL A cells slots Q ws pc lv (.int (iI i) :: .ref a :: st) :=
  fun H locs ls hP hD hS hl => va_iald (n := n) (f := fun j : Nat => iI (f (j : Int))) C.1 C.2.1 (cx_k C) hP q0 t0 ha ht (iI_in h0 h1 hn) hd (by
    have ee : ((iI i).toNatClampNeg : Int) = i := by rw [iI_cl h0 (by omega)]; omega
    show W p l e _ s m args below meth c H locs cells slots Q (F0 m (pc + 1) ls (.int (iI (f ((iI i).toNatClampNeg : Int))) :: st))
    rw [ee]
    exact kk H locs ls hP hD hS hl)
theorem g_lald (C : CX p s m args meth c D cl tys nw cc nL Ts own A) {a n : Nat} {cA : ClassId} {f : Int → Int} {i : Int} (q0 t0 : Nat) (ha : ws[q0]? = some (a, .inl (cA, aL n f))) (ht : tys[t0]? = some (cA, .long)) (h0 : 0 ≤ i) (h1 : i < n) (hn : (n : Int) ≤ 2147483647) (hd : decode cc pc = .ok (.laload, 1)) (kk : G p l e R s m args below meth c D cl nL A cells slots Q ws (pc + 1) lv (.long (lI (f i)) :: st)) : G p l e R s m args below meth c D cl nL A cells slots Q ws pc lv (.int (iI i) :: .ref a :: st) :=
  fun H locs ls hP hD hS hl => va_lald (n := n) (f := fun j : Nat => lI (f (j : Int))) C.1 C.2.1 (cx_k C) hP q0 t0 ha ht (iI_in h0 h1 hn) hd (by
    have ee : ((iI i).toNatClampNeg : Int) = i := by rw [iI_cl h0 (by omega)]; omega
    show W p l e _ s m args below meth c H locs cells slots Q (F0 m (pc + 1) ls (.long (lI (f ((iI i).toNatClampNeg : Int))) :: st))
    rw [ee]
    exact kk H locs ls hP hD hS hl)
theorem g_iast (C : CX p s m args meth c D cl tys nw cc nL Ts own A) {a n : Nat} {cA : ClassId} {f : Int → Int} {i x : Int} (q0 t0 : Nat) (ha : ws[q0]? = some (a, .inl (cA, aI n f))) (ht : tys[t0]? = some (cA, .int)) (h0 : 0 ≤ i) (h1 : i < n) (hn : (n : Int) ≤ 2147483647) (hd : decode cc pc = .ok (.iastore, 1)) (hw : ws.set q0 (a, .inl (cA, aI n (uZ f i x))) = ws') (kk : G p l e R s m args below meth c D cl nL A cells slots Q ws' (pc + 1) lv st) : G p l e R s m args below meth c D cl nL A cells slots Q ws pc lv (.int (iI x) :: .int (iI i) :: .ref a :: st) :=
  fun H locs ls hP hD hS hl => va_iast (n := n) (f := fun j : Nat => iI (f (j : Int))) C.1 C.2.1 (cx_k C) hP hD hS q0 t0 ha ht (iI_in h0 h1 hn) hd (by
    rw [upd_iI h0 (by omega)]
    intro H1 locs1 hP1 hD1 hS1
    exact kk H1 locs1 ls (hw ▸ hP1) (hw ▸ hD1) hS1 hl)
theorem g_last (C : CX p s m args meth c D cl tys nw cc nL Ts own A) {a n : Nat} {cA : ClassId} {f : Int → Int} {i x : Int} (q0 t0 : Nat) (ha : ws[q0]? = some (a, .inl (cA, aL n f))) (ht : tys[t0]? = some (cA, .long)) (h0 : 0 ≤ i) (h1 : i < n) (hn : (n : Int) ≤ 2147483647) (hd : decode cc pc = .ok (.lastore, 1)) (hw : ws.set q0 (a, .inl (cA, aL n (uZ f i x))) = ws') (kk : G p l e R s m args below meth c D cl nL A cells slots Q ws' (pc + 1) lv st) : G p l e R s m args below meth c D cl nL A cells slots Q ws pc lv (.long (lI x) :: .int (iI i) :: .ref a :: st) :=
  fun H locs ls hP hD hS hl => va_last (n := n) (f := fun j : Nat => lI (f (j : Int))) C.1 C.2.1 (cx_k C) hP hD hS q0 t0 ha ht (iI_in h0 h1 hn) hd (by
    rw [upd_lI h0 (by omega)]
    intro H1 locs1 hP1 hD1 hS1
    exact kk H1 locs1 ls (hw ▸ hP1) (hw ▸ hD1) hS1 hl)
theorem g_alenI (C : CX p s m args meth c D cl tys nw cc nL Ts own A) {a n : Nat} {cA : ClassId} {f : Int → Int} (q0 t0 : Nat) (ha : ws[q0]? = some (a, .inl (cA, aI n f))) (ht : tys[t0]? = some (cA, .int)) (hd : decode cc pc = .ok (.arraylength, 1)) (kk : G p l e R s m args below meth c D cl nL A cells slots Q ws (pc + 1) lv (.int (iI (n : Int)) :: st)) : G p l e R s m args below meth c D cl nL A cells slots Q ws pc lv (.ref a :: st) :=
  fun H locs ls hP hD hS hl => va_alen (x := aI n f) C.1 C.2.1 (cx_k C) hP q0 t0 ha ht (iI_nat n).symm hd (kk H locs ls hP hD hS hl)
theorem g_alenL (C : CX p s m args meth c D cl tys nw cc nL Ts own A) {a n : Nat} {cA : ClassId} {f : Int → Int} (q0 t0 : Nat) (ha : ws[q0]? = some (a, .inl (cA, aL n f))) (ht : tys[t0]? = some (cA, .long)) (hd : decode cc pc = .ok (.arraylength, 1)) (kk : G p l e R s m args below meth c D cl nL A cells slots Q ws (pc + 1) lv (.int (iI (n : Int)) :: st)) : G p l e R s m args below meth c D cl nL A cells slots Q ws pc lv (.ref a :: st) :=
  fun H locs ls hP hD hS hl => va_alen (x := aL n f) C.1 C.2.1 (cx_k C) hP q0 t0 ha ht (iI_nat n).symm hd (kk H locs ls hP hD hS hl)
theorem z_cA {t0 : Nat} {cA cI : ClassId} {ty : FieldType} (hp : ∀ C, ty ≠ .object C) (hK : va_K D cl tys s) (ht : tys[t0]? = some (cI, ty)) (h2 : va_K D cl (tys ++ [(cA, ty)]) s) : cA = cI := by
  have e1 := (hK.2 t0 _ ht).2
  have e2 := (h2.2 tys.length (cA, ty) (by simp)).2
  cases ty <;> first | exact absurd rfl (hp _) | exact Option.some.inj (e2.symm.trans e1)
theorem g_newI (C : CX p s m args meth c D cl tys nw cc nL Ts own A) {n : Int} {N : Nat} {cI : ClassId} (t0 : Nat) (ht : tys[t0]? = some (cI, .int)) (harr : Cond.arrayClass .int ∈ Ts) (hn : n = (N : Int)) (hN : N ≤ 100000000) (hcells : cells + 1 ≤ R.cells) (hslots : slots + N ≤ R.slots) (hd : decode cc pc = .ok (.newarray .int, 2)) (kk : ∀ q : Nat, G p l e R s m args below meth c D cl nL A (cells + 1) (slots + N) Q (ws ++ [(q, .inl (cI, aI N (fun _ => 0)))]) (pc + 2) lv (.ref q :: st)) : G p l e R s m args below meth c D cl nL A cells slots Q ws pc lv (.int (iI n) :: st) :=
  fun H locs ls hP hD hS hl => va_newa (atype := .int) (ty := .int) (N' := N) (a0 := aI N (fun _ => 0)) C.1 C.2.1 (cx_ts C harr) rfl (cx_k C) hP hD hS (cx_a C) (fun cA => rfl) (by
    subst hn
    rw [show (0 : Int32) = iI 0 from rfl, iI_lt (by constructor <;> omega) (by decide)]
    omega) (by subst hn; rw [iI_cl (by omega) (by omega)]; omega) (by show N * 4 ≤ _; omega) hcells hslots hd (fun q cA H1 hK1 hP1 hD1 hS1 => by
    obtain rfl := z_cA (fun _ q => by cases q) (cx_k C) ht hK1
    exact kk q H1 locs ls hP1 hD1 hS1 hl)
theorem g_newL (C : CX p s m args meth c D cl tys nw cc nL Ts own A) {n : Int} {N : Nat} {cI : ClassId} (t0 : Nat) (ht : tys[t0]? = some (cI, .long)) (harr : Cond.arrayClass .long ∈ Ts) (hn : n = (N : Int)) (hN : N ≤ 10000000) (hcells : cells + 1 ≤ R.cells) (hslots : slots + N ≤ R.slots) (hd : decode cc pc = .ok (.newarray .long, 2)) (kk : ∀ q : Nat, G p l e R s m args below meth c D cl nL A (cells + 1) (slots + N) Q (ws ++ [(q, .inl (cI, aL N (fun _ => 0)))]) (pc + 2) lv (.ref q :: st)) : G p l e R s m args below meth c D cl nL A cells slots Q ws pc lv (.int (iI n) :: st) :=
  fun H locs ls hP hD hS hl => va_newa (atype := .long) (ty := .long) (N' := N) (a0 := aL N (fun _ => 0)) C.1 C.2.1 (cx_ts C harr) rfl (cx_k C) hP hD hS (cx_a C) (fun cA => rfl) (by
    subst hn
    rw [show (0 : Int32) = iI 0 from rfl, iI_lt (by constructor <;> omega) (by decide)]
    omega) (by subst hn; rw [iI_cl (by omega) (by omega)]; omega) (by show N * 8 ≤ _; omega) hcells hslots hd (fun q cA H1 hK1 hP1 hD1 hS1 => by
    obtain rfl := z_cA (fun _ q => by cases q) (cx_k C) ht hK1
    exact kk q H1 locs ls hP1 hD1 hS1 hl)
theorem g_zald (C : CX p s m args meth c D cl tys nw cc nL Ts own A) {a n : Nat} {cA : ClassId} {f : Int → Int} {i : Int} (q0 t0 : Nat) (ha : ws[q0]? = some (a, .inl (cA, aI n f))) (ht : tys[t0]? = some (cA, .boolean)) (h0 : 0 ≤ i) (h1 : i < n) (hn : (n : Int) ≤ 2147483647) (hd : decode cc pc = .ok (.baload, 1)) (kk : G p l e R s m args below meth c D cl nL A cells slots Q ws (pc + 1) lv (.int (iI (f i)) :: st)) : G p l e R s m args below meth c D cl nL A cells slots Q ws pc lv (.int (iI i) :: .ref a :: st) :=
  fun H locs ls hP hD hS hl => va_zald (n := n) (f := fun j : Nat => iI (f (j : Int))) C.1 C.2.1 (cx_k C) hP q0 t0 ha ht (iI_in h0 h1 hn) hd (by
    have ee : ((iI i).toNatClampNeg : Int) = i := by rw [iI_cl h0 (by omega)]; omega
    show W p l e _ s m args below meth c H locs cells slots Q (F0 m (pc + 1) ls (.int (iI (f ((iI i).toNatClampNeg : Int))) :: st))
    rw [ee]
    exact kk H locs ls hP hD hS hl)
theorem z_nar {x : Int} (h : x = 0 ∨ x = 1) : vp_nar .boolean (iI x) = iI x := by
  rcases h with h | h <;> rw [h] <;> decide
theorem g_zast (C : CX p s m args meth c D cl tys nw cc nL Ts own A) {a n : Nat} {cA : ClassId} {f : Int → Int} {i x : Int} (q0 t0 : Nat) (ha : ws[q0]? = some (a, .inl (cA, aI n f))) (ht : tys[t0]? = some (cA, .boolean)) (hx : x = 0 ∨ x = 1) (h0 : 0 ≤ i) (h1 : i < n) (hn : (n : Int) ≤ 2147483647) (hd : decode cc pc = .ok (.bastore, 1)) (hw : ws.set q0 (a, .inl (cA, aI n (uZ f i x))) = ws') (kk : G p l e R s m args below meth c D cl nL A cells slots Q ws' (pc + 1) lv st) : G p l e R s m args below meth c D cl nL A cells slots Q ws pc lv (.int (iI x) :: .int (iI i) :: .ref a :: st) :=
  fun H locs ls hP hD hS hl => va_zast (n := n) (f := fun j : Nat => iI (f (j : Int))) C.1 C.2.1 (cx_k C) hP hD hS q0 t0 ha ht (iI_in h0 h1 hn) hd (by
    rw [z_nar hx, upd_iI h0 (by omega)]
    intro H1 locs1 hP1 hD1 hS1
    exact kk H1 locs1 ls (hw ▸ hP1) (hw ▸ hD1) hS1 hl)
theorem g_newZ (C : CX p s m args meth c D cl tys nw cc nL Ts own A) {n : Int} {N : Nat} {cI : ClassId} (t0 : Nat) (ht : tys[t0]? = some (cI, .boolean)) (harr : Cond.arrayClass .boolean ∈ Ts) (hn : n = (N : Int)) (hN : N ≤ 100000000) (hcells : cells + 1 ≤ R.cells) (hslots : slots + N ≤ R.slots) (hd : decode cc pc = .ok (.newarray .boolean, 2)) (kk : ∀ q : Nat, G p l e R s m args below meth c D cl nL A (cells + 1) (slots + N) Q (ws ++ [(q, .inl (cI, aI N (fun _ => 0)))]) (pc + 2) lv (.ref q :: st)) : G p l e R s m args below meth c D cl nL A cells slots Q ws pc lv (.int (iI n) :: st) :=
  fun H locs ls hP hD hS hl => va_newa (atype := .boolean) (ty := .boolean) (N' := N) (a0 := aI N (fun _ => 0)) C.1 C.2.1 (cx_ts C harr) rfl (cx_k C) hP hD hS (cx_a C) (fun cA => rfl) (by
    subst hn
    rw [show (0 : Int32) = iI 0 from rfl, iI_lt (by constructor <;> omega) (by decide)]
    omega) (by subst hn; rw [iI_cl (by omega) (by omega)]; omega) (by show N * 1 ≤ _; omega) hcells hslots hd (fun q cA H1 hK1 hP1 hD1 hS1 => by
    obtain rfl := z_cA (fun _ q => by cases q) (cx_k C) ht hK1
    exact kk q H1 locs ls hP1 hD1 hS1 hl)
theorem g_new (C : CX p s m args meth c D cl tys nw cc nL Ts own A) {Cn : String} {T : u_T} {N ci index : Nat} {fs : List Value} (hin : ∀ w ∈ u_ws Cn T N, w ∈ Ts) (ty : Nat → FieldType) (hty : ∀ k, k < N → parseFieldDescriptor (T k).2.2.1 = some (ty k)) (hcl : Cond.classLink own index Cn ∈ Ts) (hinst : Cond.instantiable Cn N ∈ Ts) (hini : Cond.initialized Cn ∈ Ts) (hc : cl[ci]? = some (Cn, T, N)) (hfs : ∀ j, j < N → defaultValue (ty j) = vp_V fs j) (hcells : cells + 1 ≤ R.cells) (hslots : slots + N ≤ R.slots) (hd : decode cc pc = .ok (.new index, 3)) (kk : ∀ q : Nat, G p l e R s m args below meth c D cl nL A (cells + 1) (slots + N) Q (ws ++ [(q, .inr (ci, fs))]) (pc + 3) lv (.ref q :: st)) : G p l e R s m args below meth c D cl nL A cells slots Q ws pc lv st :=
  fun H locs ls hP hD hS hl => va_new C.1 C.2.1 C.2.2.2.2.1 hin ty hty C.2.2.2.1 (cx_ts C hcl) (cx_ts C hinst) (cx_ts C hini) (cx_k C) hP hD hS (cx_a C) hc hfs hcells hslots hd (fun q H1 hP1 hD1 hS1 => kk q H1 locs ls hP1 hD1 hS1 hl)
theorem g_objInit (C : CX p s m args meth c D cl tys nw cc nL Ts own A) {idx a : Nat} (hlink : Cond.methodLink own idx Lib.objectInit ∈ Ts) (hinst : Cond.instanceMethod Lib.objectInit ∈ Ts) (hcode : Cond.code Lib.objectInit ⟨#[0xb1]⟩ 1 none ∈ Ts) (hd : decode cc pc = .ok (.invokespecial idx, 3)) (hframes : 1 ≤ R.frames) (hlocals : (st.map fun v => v.category).sum + 12 ≤ R.locals) (kk : G p l e R s m args below meth c D cl nL A cells slots Q ws (pc + 3) lv st) : G p l e R s m args below meth c D cl nL A cells slots Q ws pc lv (.ref a :: st) :=
  fun H locs ls hP hD hS hl => W.objInit C.1 C.2.1 C.2.2.2.1 (cx_ts C hlink) (cx_ts C hinst) (cx_ts C hcode) (g := F0 m pc ls (.ref a :: st)) rfl (by rw [C.2.2.1]; exact hl.1) rfl hd hframes (by show 2 * 0 + _ + 12 ≤ _; omega) (kk H locs ls hP hD hS hl)
theorem g_max (C : CX p s m args meth c D cl tys nw cc nL Ts own A) {x y : Int} {index : Nat} (hx : rI x) (hy : rI y) (hlink : Cond.methodLink own index Lib.Math.max.name ∈ Ts) (hstat : Cond.static Lib.Math.max.name ∈ Ts) (hini : Cond.initialized "java/lang/Math" ∈ Ts) (hcode : Cond.code Lib.Math.max.name Lib.Math.max.code 2 (some .int) ∈ Ts) (hframes : 1 ≤ R.frames) (hlocals : (st.map fun v => v.category).sum + 13 ≤ R.locals) (hcs : cells ≤ R.cells) (hss : slots ≤ R.slots) (hd : decode cc pc = .ok (.invokestatic index, 3)) (kk : G p l e R s m args below meth c D cl nL A cells slots Q ws (pc + 3) lv (.int (iI (max x y)) :: st)) : G p l e R s m args below meth c D cl nL A cells slots Q ws pc lv (.int (iI y) :: .int (iI x) :: st) :=
  fun H locs ls hP hD hS hl => va_mmax C.1 C.2.1 (by rw [C.2.2.1]; exact hl.1.symm) C.2.2.2.1 (cx_ts C hlink) (cx_ts C hstat) (cx_ts C hini) (cx_ts C hcode) hframes hlocals hcs hss hd (by
    have ee : (if iI x < iI y then iI y else iI x) = iI (max x y) := by
      by_cases h : x < y
      · rw [if_pos ((iI_lt hx hy).mpr h), Int.max_eq_right (by omega)]
      · rw [if_neg (fun z => h ((iI_lt hx hy).mp z)), Int.max_eq_left (by omega)]
    rw [ee]
    exact kk H locs ls hP hD hS hl)
theorem g_min (C : CX p s m args meth c D cl tys nw cc nL Ts own A) {x y : Int} {index : Nat} (hx : rI x) (hy : rI y) (hlink : Cond.methodLink own index Lib.Math.min.name ∈ Ts) (hstat : Cond.static Lib.Math.min.name ∈ Ts) (hini : Cond.initialized "java/lang/Math" ∈ Ts) (hcode : Cond.code Lib.Math.min.name Lib.Math.min.code 2 (some .int) ∈ Ts) (hframes : 1 ≤ R.frames) (hlocals : (st.map fun v => v.category).sum + 13 ≤ R.locals) (hcs : cells ≤ R.cells) (hss : slots ≤ R.slots) (hd : decode cc pc = .ok (.invokestatic index, 3)) (kk : G p l e R s m args below meth c D cl nL A cells slots Q ws (pc + 3) lv (.int (iI (min x y)) :: st)) : G p l e R s m args below meth c D cl nL A cells slots Q ws pc lv (.int (iI y) :: .int (iI x) :: st) :=
  fun H locs ls hP hD hS hl => va_mmin C.1 C.2.1 (by rw [C.2.2.1]; exact hl.1.symm) C.2.2.2.1 (cx_ts C hlink) (cx_ts C hstat) (cx_ts C hini) (cx_ts C hcode) hframes hlocals hcs hss hd (by
    have ee : (if iI y < iI x then iI y else iI x) = iI (min x y) := by
      by_cases h : y < x
      · rw [if_pos ((iI_lt hy hx).mpr h), Int.min_eq_right (by omega)]
      · rw [if_neg (fun z => h ((iI_lt hy hx).mp z)), Int.min_eq_left (by omega)]
    rw [ee]
    exact kk H locs ls hP hD hS hl)
end ROWS
end
section
/-! CALLS AND CONTRACTS over the symbolic world -/
theorem z_fm {ws wc : va_W} {is : List Nat} (h : is.map (fun i => ws[i]?) = wc.map some) : is.filterMap (fun i => ws[i]?) = wc := by
  have h1 : is.filterMap (fun i => ws[i]?) = (is.map (fun i => ws[i]?)).filterMap id := by rw [List.filterMap_map]; rfl
  rw [h1, h, List.filterMap_map]
  exact List.filterMap_some
section CALLS
variable {p : Program} {l : Launch} {e : Env} {R : Room} {s : State} {m : MethodId} {args : Array Value} {below : List Frame} {meth : Method} {c : Code} {D : va_G} {cl : List vw_C} {tys : List (ClassId × FieldType)} {nw : List Cond} {cc : ByteArray} {nL : Nat} {Ts : List Cond} {own : String} {A : Nat → Prop} {cells slots : Nat} {Q : State → Prop} {ws ws' : va_W} {pc : Nat} {lv lv' : List (Nat × Value)} {st rest : List Value}
variable {y : MethodName} {bytes : ByteArray} {maxL mc ms n index ci N b : Nat} {ret : Option FieldType} {wy wy' : List Cond} {rm : Room} {Qc : Nat → Array Value → State → Outcome → State → Prop} {Cn host : String} {T : u_T} {fs As : List Value} {wc wr : va_W} {a : Array Value}
theorem z_blind {av : List Value} {W0 : va_W} {sz : Nat} : FrameBlind (va_Pc av (zPre D cl tys nw W0 sz)) := fun a U g mk q => by
  obtain ⟨q0, q1, qP, qK, qD, qN, qo⟩ := q
  exact ⟨q0, q1, qP, va_K.moved (u := U) (U := U.calling g mk a) (Vm.Alike.refl U.vm) qK, qD, fun w h => va_Nw.of (qo w h).1 (va_tabs (qo w h).1 (A := #[]) (A' := #[]) (rfl : U.vm = (U.calling g mk a).vm) (qN w h)), qo⟩
theorem z_pre (C : CX p s m args meth c D cl tys nw cc nL Ts own A) {av : List Value} {H : Heap} (hP : va_P D cl wc H) (hD : va_D (fun _ => True) wc) : ∀ U : State, U.heap = H → s.WarmedH U.vm → va_Pc av (zPre D cl tys nw wc H.size) av.toArray U := fun U hU hW =>
  ⟨rfl, by rw [hU], by rw [hU]; exact hP, va_K.moved hW.alike (cx_k C), hD, fun w h => (C.2.2.2.2.2.2.2.2.2 w h).2 s U hW (C.2.2.2.2.2.2.2.2.1 w h), C.2.2.2.2.2.2.2.2.2⟩
/-- a call runs, from any heap that holds its world -/
def zRun (p : Program) (l : Launch) (e : Env) (R : Room) (s : State) (m : MethodId) (args : Array Value) (below : List Frame) (meth : Method) (c : Code) (D : va_G) (cl : List vw_C) (nL cells slots mc ms pc : Nat) (st rest : List Value) (wc : va_W) (Qa : Nat → State → Outcome → State → Prop) : Prop :=
  ∀ (H : Heap) (locs : List Loc) (ls : Array Slot), va_P D cl wc H → va_D (fun _ => True) wc → ls.size = nL → va_Run p l e R s m args below meth c H locs cells slots mc ms (F0 m pc ls st) rest (Qa H.size) (va_A wc H.size)
theorem z_runV (C : CX p s m args meth c D cl tys nw cc nL Ts own A) (hM : ∀ sz, Met l y wy rm (va_Pc (.ref b :: As) (zPre D cl tys nw wc sz)) (Qc sz) mc ms (va_A wc sz)) (cw : CallW R s args own Cn index y bytes maxL ret wy rm mc ms n) (q0 : Nat) (he : wc[q0]? = some (b, .inr (ci, fs))) (hc : cl[ci]? = some (Cn, T, N)) (hn : As.length = n) (hst : st = As.reverse ++ .ref b :: rest) (hW : (rest.map fun v => v.category).sum ≤ 8) (hd : decode cc pc = .ok (.invokevirtual index, 3)) (hf : cells + mc ≤ R.cells ∧ slots + ms ≤ R.slots) :
    zRun p l e R s m args below meth c D cl nL cells slots mc ms pc st rest wc (fun sz => Qc sz (Value.ref b :: As).toArray) := fun H locs ls hP hD hl =>
  va_runV (As := As) (rest := rest) (cx_fix C) (hM H.size) cw ⟨z_blind, va_recv (cx_k C) hP hc he, z_pre C hP hD⟩ rfl hn hl hst (lv_room hW) hd hf
theorem z_runVN (C : CX p s m args meth c D cl tys nw cc nL Ts own A) (hM : ∀ sz, Met l y wy rm (va_Pc (.ref b :: As) (zPre D cl tys nw wc sz)) (Qc sz) mc ms (va_A wc sz)) (cw : va_CN R s args own index y host bytes maxL ret wy rm mc ms n ∧ (Cond.instanceMethod y).before args s = true ∧ (Cond.selects Cn y y).before args s = true) (q0 : Nat) (he : wc[q0]? = some (b, .inr (ci, fs))) (hc : cl[ci]? = some (Cn, T, N)) (hn : As.length = n) (hst : st = As.reverse ++ .ref b :: rest) (hW : (rest.map fun v => v.category).sum ≤ 8) (hd : decode cc pc = .ok (.invokevirtual index, 3)) (hf : cells + mc ≤ R.cells ∧ slots + ms ≤ R.slots) :
    zRun p l e R s m args below meth c D cl nL cells slots mc ms pc st rest wc (fun sz => Qc sz (Value.ref b :: As).toArray) := fun H locs ls hP hD hl =>
  va_runVN (As := As) (rest := rest) (cx_fix C) (hM H.size) cw ⟨z_blind, va_recv (cx_k C) hP hc he, z_pre C hP hD⟩ rfl hn hl hst (lv_room hW) hd hf
theorem z_runS (C : CX p s m args meth c D cl tys nw cc nL Ts own A) (hM : ∀ sz, Met l y wy rm (va_Pc As (zPre D cl tys nw wc sz)) (Qc sz) mc ms (va_A wc sz)) (cw : CallB R s args own index y bytes maxL ret wy rm mc ms n ∧ (Cond.static y).before args s = true) (hn : As.length = n) (hst : st = As.reverse ++ rest) (hW : (rest.map fun v => v.category).sum ≤ 8) (hd : decode cc pc = .ok (.invokestatic index, 3)) (hf : cells + mc ≤ R.cells ∧ slots + ms ≤ R.slots) :
    zRun p l e R s m args below meth c D cl nL cells slots mc ms pc st rest wc (fun sz => Qc sz As.toArray) := fun H locs ls hP hD hl =>
  va_runS (As := As) (rest := rest) (cx_fix C) (hM H.size) cw ⟨z_blind, z_pre C hP hD⟩ rfl hn hl hst (lv_room hW) hd hf
theorem z_runSN (C : CX p s m args meth c D cl tys nw cc nL Ts own A) (hM : ∀ sz, Met l y wy rm (va_Pc As (zPre D cl tys nw wc sz)) (Qc sz) mc ms (va_A wc sz)) (cw : va_CN R s args own index y host bytes maxL ret wy rm mc ms n ∧ (Cond.static y).before args s = true ∧ True) (hn : As.length = n) (hst : st = As.reverse ++ rest) (hW : (rest.map fun v => v.category).sum ≤ 8) (hd : decode cc pc = .ok (.invokestatic index, 3)) (hf : cells + mc ≤ R.cells ∧ slots + ms ≤ R.slots) :
    zRun p l e R s m args below meth c D cl nL cells slots mc ms pc st rest wc (fun sz => Qc sz As.toArray) := fun H locs ls hP hD hl =>
  va_runSN (As := As) (rest := rest) (cx_fix C) (hM H.size) cw ⟨z_blind, z_pre C hP hD⟩ rfl hn hl hst (lv_room hW) hd hf
theorem z_runI (C : CX p s m args meth c D cl tys nw cc nL Ts own A) (hM : ∀ sz, Met l y wy rm (va_Pc (.ref b :: As) (zPre D cl tys nw wc sz)) (Qc sz) mc ms (va_A wc sz)) (cw : CallB R s args own index y bytes maxL none wy rm mc ms n ∧ y.name = "<init>" ∧ (Cond.instanceMethod y).before args s = true) (hn : As.length = n) (hst : st = As.reverse ++ .ref b :: rest) (hW : (rest.map fun v => v.category).sum ≤ 8) (hd : decode cc pc = .ok (.invokespecial index, 3)) (hf : cells + mc ≤ R.cells ∧ slots + ms ≤ R.slots) :
    zRun p l e R s m args below meth c D cl nL cells slots mc ms pc st rest wc (fun sz => Qc sz (Value.ref b :: As).toArray) := fun H locs ls hP hD hl =>
  va_runI (As := As) (rest := rest) (cx_fix C) (hM H.size) cw ⟨z_blind, z_pre C hP hD⟩ rfl hn hl hst (lv_room hW) hd hf
theorem z_runIN (C : CX p s m args meth c D cl tys nw cc nL Ts own A) (hM : ∀ sz, Met l y wy rm (va_Pc (.ref b :: As) (zPre D cl tys nw wc sz)) (Qc sz) mc ms (va_A wc sz)) (cw : va_CN R s args own index y host bytes maxL none wy rm mc ms n ∧ y.name = "<init>" ∧ (Cond.instanceMethod y).before args s = true) (hn : As.length = n) (hst : st = As.reverse ++ .ref b :: rest) (hW : (rest.map fun v => v.category).sum ≤ 8) (hd : decode cc pc = .ok (.invokespecial index, 3)) (hf : cells + mc ≤ R.cells ∧ slots + ms ≤ R.slots) :
    zRun p l e R s m args below meth c D cl nL cells slots mc ms pc st rest wc (fun sz => Qc sz (Value.ref b :: As).toArray) := fun H locs ls hP hD hl =>
  va_runIN (As := As) (rest := rest) (cx_fix C) (hM H.size) cw ⟨z_blind, z_pre C hP hD⟩ rfl hn hl hst (lv_room hW) hd hf
theorem g_call_i {S : Type} {post : Int32 → S → Prop} {w1 : S → va_W} (C : CX p s m args meth c D cl tys nw cc nL Ts own A) (run : zRun p l e R s m args below meth c D cl nL cells slots mc ms pc st rest wc (fun sz => va_Qi post (zPost D cl tys wc sz w1) (va_A wc sz) a)) (isC isR : List Nat) (hC : isC.map (fun i => ws[i]?) = wc.map some) (hR : isR.map (fun i => ws[i]?) = wr.map some) (hnC : va_nd isC = true) (hnR : va_nd isR = true) (hdis : ∀ i ∈ isR, i ∉ isC)
    (kk : ∀ (r : Int32) (u : S), post r u → G p l e R s m args below meth c D cl nL A (cells + mc) (slots + ms) Q (wr ++ w1 u) (pc + 3) lv (.int r :: rest)) : G p l e R s m args below meth c D cl nL A cells slots Q ws pc lv st := by
  intro H locs ls hP hD hS hl
  have hPc := hP.sub (ws' := wc) isC (z_fm hC)
  have hDc := hD.sub (ws' := wc) isC hnC hC
  have hFc := va_free (wc := wc) hD hS (cx_a C) isC hC
  refine va_calli (run H locs ls hPc (hDc.weaken (fun _ _ _ _ => trivial)) hl.1) hS (fun q _ h => hFc q h) hFc (fun r u t H1 locs1 ht hvm hw hB hz1 hk1 hS1 => ?_)
  obtain ⟨hP1, hK1, hD1⟩ := hB
  rw [ht] at hP1
  obtain ⟨hP2, hD2⟩ := va_join (wr := wr) (w1 := w1 u) hP hD isC isR hC hR hnR hdis hk1 hFc hP1 hD1
  exact kk r u hw H1 locs1 ls hP2 hD2 hS1 hl
theorem g_call_l {S : Type} {post : Int64 → S → Prop} {w1 : S → va_W} (C : CX p s m args meth c D cl tys nw cc nL Ts own A) (run : zRun p l e R s m args below meth c D cl nL cells slots mc ms pc st rest wc (fun sz => va_Ql post (zPost D cl tys wc sz w1) (va_A wc sz) a)) (isC isR : List Nat) (hC : isC.map (fun i => ws[i]?) = wc.map some) (hR : isR.map (fun i => ws[i]?) = wr.map some) (hnC : va_nd isC = true) (hnR : va_nd isR = true) (hdis : ∀ i ∈ isR, i ∉ isC)
    (kk : ∀ (r : Int64) (u : S), post r u → G p l e R s m args below meth c D cl nL A (cells + mc) (slots + ms) Q (wr ++ w1 u) (pc + 3) lv (.long r :: rest)) : G p l e R s m args below meth c D cl nL A cells slots Q ws pc lv st := by
  intro H locs ls hP hD hS hl
  have hPc := hP.sub (ws' := wc) isC (z_fm hC)
  have hDc := hD.sub (ws' := wc) isC hnC hC
  have hFc := va_free (wc := wc) hD hS (cx_a C) isC hC
  refine va_calll (run H locs ls hPc (hDc.weaken (fun _ _ _ _ => trivial)) hl.1) hS (fun q _ h => hFc q h) hFc (fun r u t H1 locs1 ht hvm hw hB hz1 hk1 hS1 => ?_)
  obtain ⟨hP1, hK1, hD1⟩ := hB
  rw [ht] at hP1
  obtain ⟨hP2, hD2⟩ := va_join (wr := wr) (w1 := w1 u) hP hD isC isR hC hR hnR hdis hk1 hFc hP1 hD1
  exact kk r u hw H1 locs1 ls hP2 hD2 hS1 hl
theorem g_call_v {S : Type} {post : S → Prop} {w1 : S → va_W} (C : CX p s m args meth c D cl tys nw cc nL Ts own A) (run : zRun p l e R s m args below meth c D cl nL cells slots mc ms pc st rest wc (fun sz => va_Qv post (zPost D cl tys wc sz w1) (va_A wc sz) a)) (isC isR : List Nat) (hC : isC.map (fun i => ws[i]?) = wc.map some) (hR : isR.map (fun i => ws[i]?) = wr.map some) (hnC : va_nd isC = true) (hnR : va_nd isR = true) (hdis : ∀ i ∈ isR, i ∉ isC)
    (kk : ∀ (u : S), post u → G p l e R s m args below meth c D cl nL A (cells + mc) (slots + ms) Q (wr ++ w1 u) (pc + 3) lv rest) : G p l e R s m args below meth c D cl nL A cells slots Q ws pc lv st := by
  intro H locs ls hP hD hS hl
  have hPc := hP.sub (ws' := wc) isC (z_fm hC)
  have hDc := hD.sub (ws' := wc) isC hnC hC
  have hFc := va_free (wc := wc) hD hS (cx_a C) isC hC
  refine va_callv (run H locs ls hPc (hDc.weaken (fun _ _ _ _ => trivial)) hl.1) hS (fun q _ h => hFc q h) hFc (fun u t H1 locs1 ht hvm hw hB hz1 hk1 hS1 => ?_)
  obtain ⟨hP1, hK1, hD1⟩ := hB
  rw [ht] at hP1
  obtain ⟨hP2, hD2⟩ := va_join (wr := wr) (w1 := w1 u) hP hD isC isR hC hR hnR hdis hk1 hFc hP1 hD1
  exact kk u hw H1 locs1 ls hP2 hD2 hS1 hl
theorem g_call_r {S : Type} {post : S → Prop} {w1 : S → Nat → va_W} (C : CX p s m args meth c D cl tys nw cc nL Ts own A) (run : zRun p l e R s m args below meth c D cl nL cells slots mc ms pc st rest wc (fun sz => va_Qr post (fun u r => zPost D cl tys wc sz (fun u : S => w1 u r) u) (va_A wc sz) a)) (isC isR : List Nat) (hC : isC.map (fun i => ws[i]?) = wc.map some) (hR : isR.map (fun i => ws[i]?) = wr.map some) (hnC : va_nd isC = true) (hnR : va_nd isR = true) (hdis : ∀ i ∈ isR, i ∉ isC)
    (kk : ∀ (u : S) (r : Nat), post u → G p l e R s m args below meth c D cl nL A (cells + mc) (slots + ms) Q (wr ++ w1 u r) (pc + 3) lv (.ref r :: rest)) : G p l e R s m args below meth c D cl nL A cells slots Q ws pc lv st := by
  intro H locs ls hP hD hS hl
  have hPc := hP.sub (ws' := wc) isC (z_fm hC)
  have hDc := hD.sub (ws' := wc) isC hnC hC
  have hFc := va_free (wc := wc) hD hS (cx_a C) isC hC
  refine va_callr (run H locs ls hPc (hDc.weaken (fun _ _ _ _ => trivial)) hl.1) hS (fun q _ h => hFc q h) hFc (fun u r t H1 locs1 ht hvm hw hB hz1 hk1 hS1 => ?_)
  obtain ⟨hP1, hK1, hD1⟩ := hB
  rw [ht] at hP1
  obtain ⟨hP2, hD2⟩ := va_join (wr := wr) (w1 := w1 u r) hP hD isC isR hC hR hnR hdis hk1 hFc hP1 hD1
  exact kk u r hw H1 locs1 ls hP2 hD2 hS1 hl
theorem g_V_i {S : Type} {post : Int32 → S → Prop} {w1 : S → va_W} (C : CX p s m args meth c D cl tys nw cc nL Ts own A) (hM : ∀ sz, Met l y wy rm (va_Pc (.ref b :: As) (zPre D cl tys nw wc sz)) (va_Qi post (zPost D cl tys wc sz w1) (va_A wc sz)) mc ms (va_A wc sz)) (cw : CallW R s args own Cn index y bytes maxL ret wy rm mc ms n) (q0 : Nat) (he : wc[q0]? = some (b, .inr (ci, fs))) (hc : cl[ci]? = some (Cn, T, N)) (hn : As.length = n) (hst : st = As.reverse ++ .ref b :: rest) (hW : (rest.map fun v => v.category).sum ≤ 8) (hd : decode cc pc = .ok (.invokevirtual index, 3)) (hf : cells + mc ≤ R.cells ∧ slots + ms ≤ R.slots) (isC isR : List Nat) (hC : isC.map (fun i => ws[i]?) = wc.map some) (hR : isR.map (fun i => ws[i]?) = wr.map some) (hnC : va_nd isC = true) (hnR : va_nd isR = true) (hdis : ∀ i ∈ isR, i ∉ isC)
    (kk : ∀ (r : Int32) (u : S), post r u → G p l e R s m args below meth c D cl nL A (cells + mc) (slots + ms) Q (wr ++ w1 u) (pc + 3) lv (.int r :: rest)) : G p l e R s m args below meth c D cl nL A cells slots Q ws pc lv st :=
  g_call_i C (z_runV (Qc := fun sz => va_Qi post (zPost D cl tys wc sz w1) (va_A wc sz)) C hM cw q0 he hc hn hst hW hd hf) isC isR hC hR hnC hnR hdis kk
theorem g_V_l {S : Type} {post : Int64 → S → Prop} {w1 : S → va_W} (C : CX p s m args meth c D cl tys nw cc nL Ts own A) (hM : ∀ sz, Met l y wy rm (va_Pc (.ref b :: As) (zPre D cl tys nw wc sz)) (va_Ql post (zPost D cl tys wc sz w1) (va_A wc sz)) mc ms (va_A wc sz)) (cw : CallW R s args own Cn index y bytes maxL ret wy rm mc ms n) (q0 : Nat) (he : wc[q0]? = some (b, .inr (ci, fs))) (hc : cl[ci]? = some (Cn, T, N)) (hn : As.length = n) (hst : st = As.reverse ++ .ref b :: rest) (hW : (rest.map fun v => v.category).sum ≤ 8) (hd : decode cc pc = .ok (.invokevirtual index, 3)) (hf : cells + mc ≤ R.cells ∧ slots + ms ≤ R.slots) (isC isR : List Nat) (hC : isC.map (fun i => ws[i]?) = wc.map some) (hR : isR.map (fun i => ws[i]?) = wr.map some) (hnC : va_nd isC = true) (hnR : va_nd isR = true) (hdis : ∀ i ∈ isR, i ∉ isC)
    (kk : ∀ (r : Int64) (u : S), post r u → G p l e R s m args below meth c D cl nL A (cells + mc) (slots + ms) Q (wr ++ w1 u) (pc + 3) lv (.long r :: rest)) : G p l e R s m args below meth c D cl nL A cells slots Q ws pc lv st :=
  g_call_l C (z_runV (Qc := fun sz => va_Ql post (zPost D cl tys wc sz w1) (va_A wc sz)) C hM cw q0 he hc hn hst hW hd hf) isC isR hC hR hnC hnR hdis kk
theorem g_V_v {S : Type} {post : S → Prop} {w1 : S → va_W} (C : CX p s m args meth c D cl tys nw cc nL Ts own A) (hM : ∀ sz, Met l y wy rm (va_Pc (.ref b :: As) (zPre D cl tys nw wc sz)) (va_Qv post (zPost D cl tys wc sz w1) (va_A wc sz)) mc ms (va_A wc sz)) (cw : CallW R s args own Cn index y bytes maxL ret wy rm mc ms n) (q0 : Nat) (he : wc[q0]? = some (b, .inr (ci, fs))) (hc : cl[ci]? = some (Cn, T, N)) (hn : As.length = n) (hst : st = As.reverse ++ .ref b :: rest) (hW : (rest.map fun v => v.category).sum ≤ 8) (hd : decode cc pc = .ok (.invokevirtual index, 3)) (hf : cells + mc ≤ R.cells ∧ slots + ms ≤ R.slots) (isC isR : List Nat) (hC : isC.map (fun i => ws[i]?) = wc.map some) (hR : isR.map (fun i => ws[i]?) = wr.map some) (hnC : va_nd isC = true) (hnR : va_nd isR = true) (hdis : ∀ i ∈ isR, i ∉ isC)
    (kk : ∀ (u : S), post u → G p l e R s m args below meth c D cl nL A (cells + mc) (slots + ms) Q (wr ++ w1 u) (pc + 3) lv rest) : G p l e R s m args below meth c D cl nL A cells slots Q ws pc lv st :=
  g_call_v C (z_runV (Qc := fun sz => va_Qv post (zPost D cl tys wc sz w1) (va_A wc sz)) C hM cw q0 he hc hn hst hW hd hf) isC isR hC hR hnC hnR hdis kk
theorem g_VN_i {S : Type} {post : Int32 → S → Prop} {w1 : S → va_W} (C : CX p s m args meth c D cl tys nw cc nL Ts own A) (hM : ∀ sz, Met l y wy rm (va_Pc (.ref b :: As) (zPre D cl tys nw wc sz)) (va_Qi post (zPost D cl tys wc sz w1) (va_A wc sz)) mc ms (va_A wc sz)) (cw : va_CN R s args own index y host bytes maxL ret wy rm mc ms n ∧ (Cond.instanceMethod y).before args s = true ∧ (Cond.selects Cn y y).before args s = true) (q0 : Nat) (he : wc[q0]? = some (b, .inr (ci, fs))) (hc : cl[ci]? = some (Cn, T, N)) (hn : As.length = n) (hst : st = As.reverse ++ .ref b :: rest) (hW : (rest.map fun v => v.category).sum ≤ 8) (hd : decode cc pc = .ok (.invokevirtual index, 3)) (hf : cells + mc ≤ R.cells ∧ slots + ms ≤ R.slots) (isC isR : List Nat) (hC : isC.map (fun i => ws[i]?) = wc.map some) (hR : isR.map (fun i => ws[i]?) = wr.map some) (hnC : va_nd isC = true) (hnR : va_nd isR = true) (hdis : ∀ i ∈ isR, i ∉ isC)
    (kk : ∀ (r : Int32) (u : S), post r u → G p l e R s m args below meth c D cl nL A (cells + mc) (slots + ms) Q (wr ++ w1 u) (pc + 3) lv (.int r :: rest)) : G p l e R s m args below meth c D cl nL A cells slots Q ws pc lv st :=
  g_call_i C (z_runVN (Qc := fun sz => va_Qi post (zPost D cl tys wc sz w1) (va_A wc sz)) C hM cw q0 he hc hn hst hW hd hf) isC isR hC hR hnC hnR hdis kk
theorem g_VN_v {S : Type} {post : S → Prop} {w1 : S → va_W} (C : CX p s m args meth c D cl tys nw cc nL Ts own A) (hM : ∀ sz, Met l y wy rm (va_Pc (.ref b :: As) (zPre D cl tys nw wc sz)) (va_Qv post (zPost D cl tys wc sz w1) (va_A wc sz)) mc ms (va_A wc sz)) (cw : va_CN R s args own index y host bytes maxL ret wy rm mc ms n ∧ (Cond.instanceMethod y).before args s = true ∧ (Cond.selects Cn y y).before args s = true) (q0 : Nat) (he : wc[q0]? = some (b, .inr (ci, fs))) (hc : cl[ci]? = some (Cn, T, N)) (hn : As.length = n) (hst : st = As.reverse ++ .ref b :: rest) (hW : (rest.map fun v => v.category).sum ≤ 8) (hd : decode cc pc = .ok (.invokevirtual index, 3)) (hf : cells + mc ≤ R.cells ∧ slots + ms ≤ R.slots) (isC isR : List Nat) (hC : isC.map (fun i => ws[i]?) = wc.map some) (hR : isR.map (fun i => ws[i]?) = wr.map some) (hnC : va_nd isC = true) (hnR : va_nd isR = true) (hdis : ∀ i ∈ isR, i ∉ isC)
    (kk : ∀ (u : S), post u → G p l e R s m args below meth c D cl nL A (cells + mc) (slots + ms) Q (wr ++ w1 u) (pc + 3) lv rest) : G p l e R s m args below meth c D cl nL A cells slots Q ws pc lv st :=
  g_call_v C (z_runVN (Qc := fun sz => va_Qv post (zPost D cl tys wc sz w1) (va_A wc sz)) C hM cw q0 he hc hn hst hW hd hf) isC isR hC hR hnC hnR hdis kk
theorem g_S_i {S : Type} {post : Int32 → S → Prop} {w1 : S → va_W} (C : CX p s m args meth c D cl tys nw cc nL Ts own A) (hM : ∀ sz, Met l y wy rm (va_Pc (As) (zPre D cl tys nw wc sz)) (va_Qi post (zPost D cl tys wc sz w1) (va_A wc sz)) mc ms (va_A wc sz)) (cw : CallB R s args own index y bytes maxL ret wy rm mc ms n ∧ (Cond.static y).before args s = true) (hn : As.length = n) (hst : st = As.reverse ++ rest) (hW : (rest.map fun v => v.category).sum ≤ 8) (hd : decode cc pc = .ok (.invokestatic index, 3)) (hf : cells + mc ≤ R.cells ∧ slots + ms ≤ R.slots) (isC isR : List Nat) (hC : isC.map (fun i => ws[i]?) = wc.map some) (hR : isR.map (fun i => ws[i]?) = wr.map some) (hnC : va_nd isC = true) (hnR : va_nd isR = true) (hdis : ∀ i ∈ isR, i ∉ isC)
    (kk : ∀ (r : Int32) (u : S), post r u → G p l e R s m args below meth c D cl nL A (cells + mc) (slots + ms) Q (wr ++ w1 u) (pc + 3) lv (.int r :: rest)) : G p l e R s m args below meth c D cl nL A cells slots Q ws pc lv st :=
  g_call_i C (z_runS (Qc := fun sz => va_Qi post (zPost D cl tys wc sz w1) (va_A wc sz)) C hM cw hn hst hW hd hf) isC isR hC hR hnC hnR hdis kk
theorem g_S_l {S : Type} {post : Int64 → S → Prop} {w1 : S → va_W} (C : CX p s m args meth c D cl tys nw cc nL Ts own A) (hM : ∀ sz, Met l y wy rm (va_Pc (As) (zPre D cl tys nw wc sz)) (va_Ql post (zPost D cl tys wc sz w1) (va_A wc sz)) mc ms (va_A wc sz)) (cw : CallB R s args own index y bytes maxL ret wy rm mc ms n ∧ (Cond.static y).before args s = true) (hn : As.length = n) (hst : st = As.reverse ++ rest) (hW : (rest.map fun v => v.category).sum ≤ 8) (hd : decode cc pc = .ok (.invokestatic index, 3)) (hf : cells + mc ≤ R.cells ∧ slots + ms ≤ R.slots) (isC isR : List Nat) (hC : isC.map (fun i => ws[i]?) = wc.map some) (hR : isR.map (fun i => ws[i]?) = wr.map some) (hnC : va_nd isC = true) (hnR : va_nd isR = true) (hdis : ∀ i ∈ isR, i ∉ isC)
    (kk : ∀ (r : Int64) (u : S), post r u → G p l e R s m args below meth c D cl nL A (cells + mc) (slots + ms) Q (wr ++ w1 u) (pc + 3) lv (.long r :: rest)) : G p l e R s m args below meth c D cl nL A cells slots Q ws pc lv st :=
  g_call_l C (z_runS (Qc := fun sz => va_Ql post (zPost D cl tys wc sz w1) (va_A wc sz)) C hM cw hn hst hW hd hf) isC isR hC hR hnC hnR hdis kk
theorem g_S_v {S : Type} {post : S → Prop} {w1 : S → va_W} (C : CX p s m args meth c D cl tys nw cc nL Ts own A) (hM : ∀ sz, Met l y wy rm (va_Pc (As) (zPre D cl tys nw wc sz)) (va_Qv post (zPost D cl tys wc sz w1) (va_A wc sz)) mc ms (va_A wc sz)) (cw : CallB R s args own index y bytes maxL ret wy rm mc ms n ∧ (Cond.static y).before args s = true) (hn : As.length = n) (hst : st = As.reverse ++ rest) (hW : (rest.map fun v => v.category).sum ≤ 8) (hd : decode cc pc = .ok (.invokestatic index, 3)) (hf : cells + mc ≤ R.cells ∧ slots + ms ≤ R.slots) (isC isR : List Nat) (hC : isC.map (fun i => ws[i]?) = wc.map some) (hR : isR.map (fun i => ws[i]?) = wr.map some) (hnC : va_nd isC = true) (hnR : va_nd isR = true) (hdis : ∀ i ∈ isR, i ∉ isC)
    (kk : ∀ (u : S), post u → G p l e R s m args below meth c D cl nL A (cells + mc) (slots + ms) Q (wr ++ w1 u) (pc + 3) lv rest) : G p l e R s m args below meth c D cl nL A cells slots Q ws pc lv st :=
  g_call_v C (z_runS (Qc := fun sz => va_Qv post (zPost D cl tys wc sz w1) (va_A wc sz)) C hM cw hn hst hW hd hf) isC isR hC hR hnC hnR hdis kk
theorem g_S_r {S : Type} {post : S → Prop} {w1 : S → Nat → va_W} (C : CX p s m args meth c D cl tys nw cc nL Ts own A) (hM : ∀ sz, Met l y wy rm (va_Pc (As) (zPre D cl tys nw wc sz)) (va_Qr post (fun u r => zPost D cl tys wc sz (fun u : S => w1 u r) u) (va_A wc sz)) mc ms (va_A wc sz)) (cw : CallB R s args own index y bytes maxL ret wy rm mc ms n ∧ (Cond.static y).before args s = true) (hn : As.length = n) (hst : st = As.reverse ++ rest) (hW : (rest.map fun v => v.category).sum ≤ 8) (hd : decode cc pc = .ok (.invokestatic index, 3)) (hf : cells + mc ≤ R.cells ∧ slots + ms ≤ R.slots) (isC isR : List Nat) (hC : isC.map (fun i => ws[i]?) = wc.map some) (hR : isR.map (fun i => ws[i]?) = wr.map some) (hnC : va_nd isC = true) (hnR : va_nd isR = true) (hdis : ∀ i ∈ isR, i ∉ isC)
    (kk : ∀ (u : S) (r : Nat), post u → G p l e R s m args below meth c D cl nL A (cells + mc) (slots + ms) Q (wr ++ w1 u r) (pc + 3) lv (.ref r :: rest)) : G p l e R s m args below meth c D cl nL A cells slots Q ws pc lv st :=
  g_call_r C (z_runS (Qc := fun sz => va_Qr post (fun u r => zPost D cl tys wc sz (fun u : S => w1 u r) u) (va_A wc sz)) C hM cw hn hst hW hd hf) isC isR hC hR hnC hnR hdis kk
theorem g_SN_i {S : Type} {post : Int32 → S → Prop} {w1 : S → va_W} (C : CX p s m args meth c D cl tys nw cc nL Ts own A) (hM : ∀ sz, Met l y wy rm (va_Pc (As) (zPre D cl tys nw wc sz)) (va_Qi post (zPost D cl tys wc sz w1) (va_A wc sz)) mc ms (va_A wc sz)) (cw : va_CN R s args own index y host bytes maxL ret wy rm mc ms n ∧ (Cond.static y).before args s = true ∧ True) (hn : As.length = n) (hst : st = As.reverse ++ rest) (hW : (rest.map fun v => v.category).sum ≤ 8) (hd : decode cc pc = .ok (.invokestatic index, 3)) (hf : cells + mc ≤ R.cells ∧ slots + ms ≤ R.slots) (isC isR : List Nat) (hC : isC.map (fun i => ws[i]?) = wc.map some) (hR : isR.map (fun i => ws[i]?) = wr.map some) (hnC : va_nd isC = true) (hnR : va_nd isR = true) (hdis : ∀ i ∈ isR, i ∉ isC)
    (kk : ∀ (r : Int32) (u : S), post r u → G p l e R s m args below meth c D cl nL A (cells + mc) (slots + ms) Q (wr ++ w1 u) (pc + 3) lv (.int r :: rest)) : G p l e R s m args below meth c D cl nL A cells slots Q ws pc lv st :=
  g_call_i C (z_runSN (Qc := fun sz => va_Qi post (zPost D cl tys wc sz w1) (va_A wc sz)) C hM cw hn hst hW hd hf) isC isR hC hR hnC hnR hdis kk
theorem g_SN_l {S : Type} {post : Int64 → S → Prop} {w1 : S → va_W} (C : CX p s m args meth c D cl tys nw cc nL Ts own A) (hM : ∀ sz, Met l y wy rm (va_Pc (As) (zPre D cl tys nw wc sz)) (va_Ql post (zPost D cl tys wc sz w1) (va_A wc sz)) mc ms (va_A wc sz)) (cw : va_CN R s args own index y host bytes maxL ret wy rm mc ms n ∧ (Cond.static y).before args s = true ∧ True) (hn : As.length = n) (hst : st = As.reverse ++ rest) (hW : (rest.map fun v => v.category).sum ≤ 8) (hd : decode cc pc = .ok (.invokestatic index, 3)) (hf : cells + mc ≤ R.cells ∧ slots + ms ≤ R.slots) (isC isR : List Nat) (hC : isC.map (fun i => ws[i]?) = wc.map some) (hR : isR.map (fun i => ws[i]?) = wr.map some) (hnC : va_nd isC = true) (hnR : va_nd isR = true) (hdis : ∀ i ∈ isR, i ∉ isC)
    (kk : ∀ (r : Int64) (u : S), post r u → G p l e R s m args below meth c D cl nL A (cells + mc) (slots + ms) Q (wr ++ w1 u) (pc + 3) lv (.long r :: rest)) : G p l e R s m args below meth c D cl nL A cells slots Q ws pc lv st :=
  g_call_l C (z_runSN (Qc := fun sz => va_Ql post (zPost D cl tys wc sz w1) (va_A wc sz)) C hM cw hn hst hW hd hf) isC isR hC hR hnC hnR hdis kk
theorem g_SN_v {S : Type} {post : S → Prop} {w1 : S → va_W} (C : CX p s m args meth c D cl tys nw cc nL Ts own A) (hM : ∀ sz, Met l y wy rm (va_Pc (As) (zPre D cl tys nw wc sz)) (va_Qv post (zPost D cl tys wc sz w1) (va_A wc sz)) mc ms (va_A wc sz)) (cw : va_CN R s args own index y host bytes maxL ret wy rm mc ms n ∧ (Cond.static y).before args s = true ∧ True) (hn : As.length = n) (hst : st = As.reverse ++ rest) (hW : (rest.map fun v => v.category).sum ≤ 8) (hd : decode cc pc = .ok (.invokestatic index, 3)) (hf : cells + mc ≤ R.cells ∧ slots + ms ≤ R.slots) (isC isR : List Nat) (hC : isC.map (fun i => ws[i]?) = wc.map some) (hR : isR.map (fun i => ws[i]?) = wr.map some) (hnC : va_nd isC = true) (hnR : va_nd isR = true) (hdis : ∀ i ∈ isR, i ∉ isC)
    (kk : ∀ (u : S), post u → G p l e R s m args below meth c D cl nL A (cells + mc) (slots + ms) Q (wr ++ w1 u) (pc + 3) lv rest) : G p l e R s m args below meth c D cl nL A cells slots Q ws pc lv st :=
  g_call_v C (z_runSN (Qc := fun sz => va_Qv post (zPost D cl tys wc sz w1) (va_A wc sz)) C hM cw hn hst hW hd hf) isC isR hC hR hnC hnR hdis kk
theorem g_I_v {S : Type} {post : S → Prop} {w1 : S → va_W} (C : CX p s m args meth c D cl tys nw cc nL Ts own A) (hM : ∀ sz, Met l y wy rm (va_Pc (.ref b :: As) (zPre D cl tys nw wc sz)) (va_Qv post (zPost D cl tys wc sz w1) (va_A wc sz)) mc ms (va_A wc sz)) (cw : CallB R s args own index y bytes maxL none wy rm mc ms n ∧ y.name = "<init>" ∧ (Cond.instanceMethod y).before args s = true) (hn : As.length = n) (hst : st = As.reverse ++ .ref b :: rest) (hW : (rest.map fun v => v.category).sum ≤ 8) (hd : decode cc pc = .ok (.invokespecial index, 3)) (hf : cells + mc ≤ R.cells ∧ slots + ms ≤ R.slots) (isC isR : List Nat) (hC : isC.map (fun i => ws[i]?) = wc.map some) (hR : isR.map (fun i => ws[i]?) = wr.map some) (hnC : va_nd isC = true) (hnR : va_nd isR = true) (hdis : ∀ i ∈ isR, i ∉ isC)
    (kk : ∀ (u : S), post u → G p l e R s m args below meth c D cl nL A (cells + mc) (slots + ms) Q (wr ++ w1 u) (pc + 3) lv rest) : G p l e R s m args below meth c D cl nL A cells slots Q ws pc lv st :=
  g_call_v C (z_runI (Qc := fun sz => va_Qv post (zPost D cl tys wc sz w1) (va_A wc sz)) C hM cw hn hst hW hd hf) isC isR hC hR hnC hnR hdis kk
theorem g_IN_v {S : Type} {post : S → Prop} {w1 : S → va_W} (C : CX p s m args meth c D cl tys nw cc nL Ts own A) (hM : ∀ sz, Met l y wy rm (va_Pc (.ref b :: As) (zPre D cl tys nw wc sz)) (va_Qv post (zPost D cl tys wc sz w1) (va_A wc sz)) mc ms (va_A wc sz)) (cw : va_CN R s args own index y host bytes maxL none wy rm mc ms n ∧ y.name = "<init>" ∧ (Cond.instanceMethod y).before args s = true) (hn : As.length = n) (hst : st = As.reverse ++ .ref b :: rest) (hW : (rest.map fun v => v.category).sum ≤ 8) (hd : decode cc pc = .ok (.invokespecial index, 3)) (hf : cells + mc ≤ R.cells ∧ slots + ms ≤ R.slots) (isC isR : List Nat) (hC : isC.map (fun i => ws[i]?) = wc.map some) (hR : isR.map (fun i => ws[i]?) = wr.map some) (hnC : va_nd isC = true) (hnR : va_nd isR = true) (hdis : ∀ i ∈ isR, i ∉ isC)
    (kk : ∀ (u : S), post u → G p l e R s m args below meth c D cl nL A (cells + mc) (slots + ms) Q (wr ++ w1 u) (pc + 3) lv rest) : G p l e R s m args below meth c D cl nL A cells slots Q ws pc lv st :=
  g_call_v C (z_runIN (Qc := fun sz => va_Qv post (zPost D cl tys wc sz w1) (va_A wc sz)) C hM cw hn hst hW hd hf) isC isR hC hR hnC hnR hdis kk
end CALLS
theorem met_i {l : Launch} {y : MethodName} {wy wy' : List Cond} {rm : Room} {D : va_G} {cl : List vw_C} {tys : List (ClassId × FieldType)} {nw : List Cond} {cc : ByteArray} {maxL mc ms : Nat} {S : Type} {post : Int32 → S → Prop} {w1 : S → va_W} {W0 : va_W} {av : List Value} (hy : plainName y.cls = true) (hw : wy = Cond.code y cc maxL (some .int) :: wy') (hlen : (lg_sl av).length ≤ maxL)
    (body : ∀ (p : Program) (e : Env) (s : State) (m : MethodId) (below : List Frame) (meth : Method) (c : Code) (A : Nat → Prop) (Q : State → Prop), CX p s m av.toArray meth c D cl tys nw cc maxL wy y.cls A → meth.name = y.name →
      (∀ (pc : Nat) (lv : List (Nat × Value)) (r : Int32) (u : S), post r u → decode cc pc = .ok (.ireturn, 1) → G p l e rm s m av.toArray below meth c D cl maxL A mc ms Q (w1 u) pc lv [.int r]) →
      G p l e rm s m av.toArray below meth c D cl maxL A 0 0 Q W0 0 (lv_args 0 av) []) :
    ∀ sz, Met l y wy rm (va_Pc av (zPre D cl tys nw W0 sz)) (va_Qi post (zPost D cl tys W0 sz w1) (va_A W0 sz)) mc ms (va_A W0 sz) := by
  intro sz
  refine Met.ofW (cc := cc) (maxL := maxL) (ret := some .int) hy hw ?_
  intro p e s m args below meth c s₁ B hml hv
  obtain ⟨rfl, hsz, hP, hK, hD0, hN, hNo⟩ := hv
  have hx := B.exec
  have hb := B.bytes
  have hr := B.returns
  have hlocks := B.notSynchronized
  subst hsz
  have hD := hD0.self (sz := s.heap.size)
  have C : CX p s m av.toArray meth c D cl tys nw cc maxL wy y.cls (va_A W0 s.heap.size) := ⟨hx, hb, hml, findClass_of_methodNamed B.named, atoms_spec (ws := wy) B.pre, hK, fun q h => Or.inr h, hlocks, hN, hNo⟩
  rw [lg_entry_eq]
  refine body p e s m below meth c (va_A W0 s.heap.size) _ C (name_of_methodNamed B.named B.method).1 ?_ s.heap [] _ hP hD va_S.rf (lv_entry av hlen)
  intro pc lv r u hp hd H locs ls hP1 hD1 hS1 hl1
  exact W.iret (v := r) hx hb hr (fun t ht hW => ⟨⟨r, u, rfl, hp, by rw [ht]; exact hP1, va_K.moved hW.alike hK, hD1⟩, hS1.F ht⟩) hS1.2.2 hd
theorem met_z {l : Launch} {y : MethodName} {wy wy' : List Cond} {rm : Room} {D : va_G} {cl : List vw_C} {tys : List (ClassId × FieldType)} {nw : List Cond} {cc : ByteArray} {maxL mc ms : Nat} {S : Type} {post : Int32 → S → Prop} {w1 : S → va_W} {W0 : va_W} {av : List Value} (hy : plainName y.cls = true) (hw : wy = Cond.code y cc maxL (some .boolean) :: wy') (hlen : (lg_sl av).length ≤ maxL)
    (body : ∀ (p : Program) (e : Env) (s : State) (m : MethodId) (below : List Frame) (meth : Method) (c : Code) (A : Nat → Prop) (Q : State → Prop), CX p s m av.toArray meth c D cl tys nw cc maxL wy y.cls A → meth.name = y.name →
      (∀ (pc : Nat) (lv : List (Nat × Value)) (r : Int32) (u : S), post r u → narrow .boolean (.int r) = .int r → decode cc pc = .ok (.ireturn, 1) → G p l e rm s m av.toArray below meth c D cl maxL A mc ms Q (w1 u) pc lv [.int r]) →
      G p l e rm s m av.toArray below meth c D cl maxL A 0 0 Q W0 0 (lv_args 0 av) []) :
    ∀ sz, Met l y wy rm (va_Pc av (zPre D cl tys nw W0 sz)) (va_Qi post (zPost D cl tys W0 sz w1) (va_A W0 sz)) mc ms (va_A W0 sz) := by
  intro sz
  refine Met.ofW (cc := cc) (maxL := maxL) (ret := some .boolean) hy hw ?_
  intro p e s m args below meth c s₁ B hml hv
  obtain ⟨rfl, hsz, hP, hK, hD0, hN, hNo⟩ := hv
  have hx := B.exec
  have hb := B.bytes
  have hr := B.returns
  have hlocks := B.notSynchronized
  subst hsz
  have hD := hD0.self (sz := s.heap.size)
  have C : CX p s m av.toArray meth c D cl tys nw cc maxL wy y.cls (va_A W0 s.heap.size) := ⟨hx, hb, hml, findClass_of_methodNamed B.named, atoms_spec (ws := wy) B.pre, hK, fun q h => Or.inr h, hlocks, hN, hNo⟩
  rw [lg_entry_eq]
  refine body p e s m below meth c (va_A W0 s.heap.size) _ C (name_of_methodNamed B.named B.method).1 ?_ s.heap [] _ hP hD va_S.rf (lv_entry av hlen)
  intro pc lv r u hp hz hd H locs ls hP1 hD1 hS1 hl1
  exact W.zret (v := r) hx hb hr hz (fun t ht hW => ⟨⟨r, u, rfl, hp, by rw [ht]; exact hP1, va_K.moved hW.alike hK, hD1⟩, hS1.F ht⟩) hS1.2.2 hd
theorem met_l {l : Launch} {y : MethodName} {wy wy' : List Cond} {rm : Room} {D : va_G} {cl : List vw_C} {tys : List (ClassId × FieldType)} {nw : List Cond} {cc : ByteArray} {maxL mc ms : Nat} {S : Type} {post : Int64 → S → Prop} {w1 : S → va_W} {W0 : va_W} {av : List Value} (hy : plainName y.cls = true) (hw : wy = Cond.code y cc maxL (some .long) :: wy') (hlen : (lg_sl av).length ≤ maxL)
    (body : ∀ (p : Program) (e : Env) (s : State) (m : MethodId) (below : List Frame) (meth : Method) (c : Code) (A : Nat → Prop) (Q : State → Prop), CX p s m av.toArray meth c D cl tys nw cc maxL wy y.cls A → meth.name = y.name →
      (∀ (pc : Nat) (lv : List (Nat × Value)) (r : Int64) (u : S), post r u → decode cc pc = .ok (.lreturn, 1) → G p l e rm s m av.toArray below meth c D cl maxL A mc ms Q (w1 u) pc lv [.long r]) →
      G p l e rm s m av.toArray below meth c D cl maxL A 0 0 Q W0 0 (lv_args 0 av) []) :
    ∀ sz, Met l y wy rm (va_Pc av (zPre D cl tys nw W0 sz)) (va_Ql post (zPost D cl tys W0 sz w1) (va_A W0 sz)) mc ms (va_A W0 sz) := by
  intro sz
  refine Met.ofW (cc := cc) (maxL := maxL) (ret := some .long) hy hw ?_
  intro p e s m args below meth c s₁ B hml hv
  obtain ⟨rfl, hsz, hP, hK, hD0, hN, hNo⟩ := hv
  have hx := B.exec
  have hb := B.bytes
  have hr := B.returns
  have hlocks := B.notSynchronized
  subst hsz
  have hD := hD0.self (sz := s.heap.size)
  have C : CX p s m av.toArray meth c D cl tys nw cc maxL wy y.cls (va_A W0 s.heap.size) := ⟨hx, hb, hml, findClass_of_methodNamed B.named, atoms_spec (ws := wy) B.pre, hK, fun q h => Or.inr h, hlocks, hN, hNo⟩
  rw [lg_entry_eq]
  refine body p e s m below meth c (va_A W0 s.heap.size) _ C (name_of_methodNamed B.named B.method).1 ?_ s.heap [] _ hP hD va_S.rf (lv_entry av hlen)
  intro pc lv r u hp hd H locs ls hP1 hD1 hS1 hl1
  exact W.lret (v := r) hx hb hr (fun t ht hW => ⟨⟨r, u, rfl, hp, by rw [ht]; exact hP1, va_K.moved hW.alike hK, hD1⟩, hS1.F ht⟩) hS1.2.2 hd
theorem met_v {l : Launch} {y : MethodName} {wy wy' : List Cond} {rm : Room} {D : va_G} {cl : List vw_C} {tys : List (ClassId × FieldType)} {nw : List Cond} {cc : ByteArray} {maxL mc ms : Nat} {S : Type} {post : S → Prop} {w1 : S → va_W} {W0 : va_W} {av : List Value} (hy : plainName y.cls = true) (hw : wy = Cond.code y cc maxL (none) :: wy') (hlen : (lg_sl av).length ≤ maxL)
    (body : ∀ (p : Program) (e : Env) (s : State) (m : MethodId) (below : List Frame) (meth : Method) (c : Code) (A : Nat → Prop) (Q : State → Prop), CX p s m av.toArray meth c D cl tys nw cc maxL wy y.cls A → meth.name = y.name →
      (∀ (pc : Nat) (lv : List (Nat × Value)) (u : S), post u → decode cc pc = .ok (.return_, 1) → G p l e rm s m av.toArray below meth c D cl maxL A mc ms Q (w1 u) pc lv []) →
      G p l e rm s m av.toArray below meth c D cl maxL A 0 0 Q W0 0 (lv_args 0 av) []) :
    ∀ sz, Met l y wy rm (va_Pc av (zPre D cl tys nw W0 sz)) (va_Qv post (zPost D cl tys W0 sz w1) (va_A W0 sz)) mc ms (va_A W0 sz) := by
  intro sz
  refine Met.ofW (cc := cc) (maxL := maxL) (ret := none) hy hw ?_
  intro p e s m args below meth c s₁ B hml hv
  obtain ⟨rfl, hsz, hP, hK, hD0, hN, hNo⟩ := hv
  have hx := B.exec
  have hb := B.bytes
  have hr := B.returns
  have hlocks := B.notSynchronized
  subst hsz
  have hD := hD0.self (sz := s.heap.size)
  have C : CX p s m av.toArray meth c D cl tys nw cc maxL wy y.cls (va_A W0 s.heap.size) := ⟨hx, hb, hml, findClass_of_methodNamed B.named, atoms_spec (ws := wy) B.pre, hK, fun q h => Or.inr h, hlocks, hN, hNo⟩
  rw [lg_entry_eq]
  refine body p e s m below meth c (va_A W0 s.heap.size) _ C (name_of_methodNamed B.named B.method).1 ?_ s.heap [] _ hP hD va_S.rf (lv_entry av hlen)
  intro pc lv u hp hd H locs ls hP1 hD1 hS1 hl1
  exact W.vret hx hb hr (fun t ht hW => ⟨⟨u, rfl, hp, by rw [ht]; exact hP1, va_K.moved hW.alike hK, hD1⟩, hS1.F ht⟩) hS1.2.2 hd
end
section
/-! WORDS: one list for all methods, the tables' good words -/
def stGW : List Cond := lw_tbl.filter goodWord
theorem st_t0 {w : Cond} (h : w ∈ k2_sels lw_privs) (g : goodWord w = true) : w ∈ stGW := List.mem_filter.mpr ⟨List.mem_append_left _ h, g⟩
theorem st_t1 {w : Cond} (h : w ∈ tables_1_1) (g : goodWord w = true) : w ∈ stGW := List.mem_filter.mpr ⟨List.mem_append_right _ (List.mem_append_left _ h), g⟩
theorem st_t2 {w : Cond} (h : w ∈ tables_1_2) (g : goodWord w = true) : w ∈ stGW := List.mem_filter.mpr ⟨List.mem_append_right _ (List.mem_append_right _ (List.mem_append_left _ h)), g⟩
theorem st_t3 {w : Cond} (h : w ∈ tables_1_3) (g : goodWord w = true) : w ∈ stGW := List.mem_filter.mpr ⟨List.mem_append_right _ (List.mem_append_right _ (List.mem_append_right _ (List.mem_append_left _ h))), g⟩
theorem st_t4 {w : Cond} (h : w ∈ tables_1_4) (g : goodWord w = true) : w ∈ stGW := List.mem_filter.mpr ⟨List.mem_append_right _ (List.mem_append_right _ (List.mem_append_right _ (List.mem_append_right _ h))), g⟩
theorem st_all {ws : List Cond} (h : ∀ w ∈ ws, w ∈ lw_tbl ∧ goodWord w = true) : ∀ w ∈ ws, w ∈ stGW := fun w q => List.mem_filter.mpr (h w q)
theorem st_sub {ws : List Cond} {c0 : Cond} (h : ∀ w ∈ ws, w ∈ stGW) : ∀ w ∈ ws, w ∈ c0 :: stGW := fun w q => List.mem_cons_of_mem _ (h w q)
theorem st_good1 {c0 c1 : Cond} (h : c1 ∈ stGW) : GoodIn (c0 :: stGW) (c1 :: stGW) := fun w hw => by
  have h1 : w ∈ stGW := by
    rcases List.mem_cons.mp hw with q | q
    · subst q; exact h
    · exact q
  exact ⟨List.mem_cons_of_mem _ h1, good_of_word (List.mem_filter.mp h1).2⟩
section WORDS
variable {p : Program} {R : Room} {s : State} {m : MethodId} {args : Array Value} {meth : Method} {c : Code} {D : va_G} {cl : List vw_C} {tys : List (ClassId × FieldType)} {nw : List Cond} {cc : ByteArray} {nL : Nat} {c0 : Cond} {own : String} {A : Nat → Prop} {y : MethodName} {bytes : ByteArray} {maxL n index : Nat} {ret : Option FieldType} {rm : Room} {Cn host : String}
theorem st_cb (C : CX p s m args meth c D cl tys nw cc nL (c0 :: stGW) own A) (hc : Cond.code y bytes maxL ret ∈ stGW) (hl : Cond.methodLink own index y ∈ stGW) (hini : Cond.initialized y.cls ∈ stGW) (hd : y.cls ≠ "java/lang/invoke/MethodHandle" ∧ y.cls ≠ "java/lang/invoke/VarHandle" ∧ (parseMethodDescriptor y.desc).map (fun d => d.parameters.length) = some n) (hR : rm.frames + 1 ≤ R.frames ∧ 8 + (maxL + 11) + rm.locals ≤ R.locals) : CallB R s args own index y bytes maxL ret (Cond.code y bytes maxL ret :: stGW) rm rm.cells rm.slots n :=
  callB_of n C.2.2.2.2.1 (st_good1 hc) rfl rfl rfl (cx_ts C (List.mem_cons_of_mem _ hini)) (cx_ts C (List.mem_cons_of_mem _ hl)) hd hR
theorem st_cV (C : CX p s m args meth c D cl tys nw cc nL (c0 :: stGW) own A) (hc : Cond.code y bytes maxL ret ∈ stGW) (hl : Cond.methodLink own index y ∈ stGW) (hini : Cond.initialized y.cls ∈ stGW) (hi : Cond.instanceMethod y ∈ stGW) (hs : Cond.selects Cn y y ∈ stGW) (hd : y.cls ≠ "java/lang/invoke/MethodHandle" ∧ y.cls ≠ "java/lang/invoke/VarHandle" ∧ (parseMethodDescriptor y.desc).map (fun d => d.parameters.length) = some n) (hR : rm.frames + 1 ≤ R.frames ∧ 8 + (maxL + 11) + rm.locals ≤ R.locals) : CallW R s args own Cn index y bytes maxL ret (Cond.code y bytes maxL ret :: stGW) rm rm.cells rm.slots n :=
  ⟨st_cb C hc hl hini hd hR, cx_ts C (List.mem_cons_of_mem _ hi), cx_ts C (List.mem_cons_of_mem _ hs)⟩
theorem st_cS (C : CX p s m args meth c D cl tys nw cc nL (c0 :: stGW) own A) (hc : Cond.code y bytes maxL ret ∈ stGW) (hl : Cond.methodLink own index y ∈ stGW) (hini : Cond.initialized y.cls ∈ stGW) (hs : Cond.static y ∈ stGW) (hd : y.cls ≠ "java/lang/invoke/MethodHandle" ∧ y.cls ≠ "java/lang/invoke/VarHandle" ∧ (parseMethodDescriptor y.desc).map (fun d => d.parameters.length) = some n) (hR : rm.frames + 1 ≤ R.frames ∧ 8 + (maxL + 11) + rm.locals ≤ R.locals) : CallB R s args own index y bytes maxL ret (Cond.code y bytes maxL ret :: stGW) rm rm.cells rm.slots n ∧ (Cond.static y).before args s = true :=
  ⟨st_cb C hc hl hini hd hR, cx_ts C (List.mem_cons_of_mem _ hs)⟩
theorem st_cI (C : CX p s m args meth c D cl tys nw cc nL (c0 :: stGW) own A) (hc : Cond.code y bytes maxL none ∈ stGW) (hl : Cond.methodLink own index y ∈ stGW) (hini : Cond.initialized y.cls ∈ stGW) (hi : Cond.instanceMethod y ∈ stGW) (hy : y.name = "<init>") (hd : y.cls ≠ "java/lang/invoke/MethodHandle" ∧ y.cls ≠ "java/lang/invoke/VarHandle" ∧ (parseMethodDescriptor y.desc).map (fun d => d.parameters.length) = some n) (hR : rm.frames + 1 ≤ R.frames ∧ 8 + (maxL + 11) + rm.locals ≤ R.locals) : CallB R s args own index y bytes maxL none (Cond.code y bytes maxL none :: stGW) rm rm.cells rm.slots n ∧ y.name = "<init>" ∧ (Cond.instanceMethod y).before args s = true :=
  ⟨st_cb C hc hl hini hd hR, hy, cx_ts C (List.mem_cons_of_mem _ hi)⟩
theorem st_cn (C : CX p s m args meth c D cl tys nw cc nL (c0 :: stGW) own A) (hc : Cond.code y bytes maxL ret ∈ stGW) (hl : Cond.methodLinkNest own index y host ∈ nw) (hini : Cond.initialized y.cls ∈ stGW) (hd : y.cls ≠ "java/lang/invoke/MethodHandle" ∧ y.cls ≠ "java/lang/invoke/VarHandle" ∧ (parseMethodDescriptor y.desc).map (fun d => d.parameters.length) = some n) (hR : rm.frames + 1 ≤ R.frames ∧ 8 + (maxL + 11) + rm.locals ≤ R.locals) : va_CN R s args own index y host bytes maxL ret (Cond.code y bytes maxL ret :: stGW) rm rm.cells rm.slots n :=
  va_cnB n C.2.2.2.2.1 (st_good1 hc) rfl rfl rfl (C.2.2.2.2.2.2.2.2.1 _ hl) (cx_ts C (List.mem_cons_of_mem _ hini)) hd hR
theorem st_cSN (C : CX p s m args meth c D cl tys nw cc nL (c0 :: stGW) own A) (hc : Cond.code y bytes maxL ret ∈ stGW) (hl : Cond.methodLinkNest own index y host ∈ nw) (hini : Cond.initialized y.cls ∈ stGW) (hs : Cond.static y ∈ stGW) (hd : y.cls ≠ "java/lang/invoke/MethodHandle" ∧ y.cls ≠ "java/lang/invoke/VarHandle" ∧ (parseMethodDescriptor y.desc).map (fun d => d.parameters.length) = some n) (hR : rm.frames + 1 ≤ R.frames ∧ 8 + (maxL + 11) + rm.locals ≤ R.locals) : va_CN R s args own index y host bytes maxL ret (Cond.code y bytes maxL ret :: stGW) rm rm.cells rm.slots n ∧ (Cond.static y).before args s = true ∧ True :=
  ⟨st_cn C hc hl hini hd hR, cx_ts C (List.mem_cons_of_mem _ hs), trivial⟩
theorem st_cIN (C : CX p s m args meth c D cl tys nw cc nL (c0 :: stGW) own A) (hc : Cond.code y bytes maxL none ∈ stGW) (hl : Cond.methodLinkNest own index y host ∈ nw) (hini : Cond.initialized y.cls ∈ stGW) (hi : Cond.instanceMethod y ∈ stGW) (hy : y.name = "<init>") (hd : y.cls ≠ "java/lang/invoke/MethodHandle" ∧ y.cls ≠ "java/lang/invoke/VarHandle" ∧ (parseMethodDescriptor y.desc).map (fun d => d.parameters.length) = some n) (hR : rm.frames + 1 ≤ R.frames ∧ 8 + (maxL + 11) + rm.locals ≤ R.locals) : va_CN R s args own index y host bytes maxL none (Cond.code y bytes maxL none :: stGW) rm rm.cells rm.slots n ∧ y.name = "<init>" ∧ (Cond.instanceMethod y).before args s = true :=
  ⟨st_cn C hc hl hini hd hR, hy, cx_ts C (List.mem_cons_of_mem _ hi)⟩
end WORDS
end
section
/-! NAMES: classes, fields, the nest words -/
def stF_S : u_T := fun k => match k with
  | 0 => ("StateTables", "told", "LStateTables$Told;", true)
  | 1 => ("StateTables", "layers", "LStateTables$Layers;", true)
  | 2 => ("StateTables", "firstPlans", "LStateTables$FirstPlans;", true)
  | 3 => ("StateTables", "narrowLayers", "LStateTables$NarrowLayers;", true)
  | _ => ("StateTables", "holds", "Z", false)
def stt_S : Nat → FieldType := fun k => match k with
  | 0 => .object "StateTables$Told"
  | 1 => .object "StateTables$Layers"
  | 2 => .object "StateTables$FirstPlans"
  | 3 => .object "StateTables$NarrowLayers"
  | _ => .boolean
theorem stn_S : ∀ a, a < 5 → ∀ b, b < 5 → a ≠ b → (stF_S a).2.1 ≠ (stF_S b).2.1 := by decide +kernel
theorem sto_S : ∀ k, k < 5 → parseFieldDescriptor (stF_S k).2.2.1 = some (stt_S k) := by decide +kernel
theorem sti_S : ∀ w ∈ u_ws "StateTables" stF_S 5, w ∈ stGW := st_all (by decide +kernel)
def stF_T : u_T := fun k => match k with
  | 0 => ("StateTables$Told", "steps", "I", false)
  | 1 => ("StateTables$Told", "choices", "I", false)
  | 2 => ("StateTables$Told", "bars", "I", false)
  | 3 => ("StateTables$Told", "sizes", "[I", true)
  | 4 => ("StateTables$Told", "costs", "[I", true)
  | 5 => ("StateTables$Told", "firstUses", "[I", true)
  | 6 => ("StateTables$Told", "secondUses", "[I", true)
  | 7 => ("StateTables$Told", "barredBehind", "[I", true)
  | 8 => ("StateTables$Told", "least", "[I", true)
  | _ => ("StateTables$Told", "most", "[I", true)
def stt_T : Nat → FieldType := fun k => match k with
  | 0 => .int
  | 1 => .int
  | 2 => .int
  | 3 => .array .int
  | 4 => .array .int
  | 5 => .array .int
  | 6 => .array .int
  | 7 => .array .int
  | 8 => .array .int
  | _ => .array .int
theorem stn_T : ∀ a, a < 10 → ∀ b, b < 10 → a ≠ b → (stF_T a).2.1 ≠ (stF_T b).2.1 := by decide +kernel
theorem sto_T : ∀ k, k < 10 → parseFieldDescriptor (stF_T k).2.2.1 = some (stt_T k) := by decide +kernel
theorem sti_T : ∀ w ∈ u_ws "StateTables$Told" stF_T 10, w ∈ stGW := st_all (by decide +kernel)
def stF_Y : u_T := fun k => match k with
  | 0 => ("StateTables$Layers", "told", "LStateTables$Told;", true)
  | 1 => ("StateTables$Layers", "total", "I", false)
  | 2 => ("StateTables$Layers", "start", "[I", true)
  | 3 => ("StateTables$Layers", "keys", "[I", false)
  | 4 => ("StateTables$Layers", "costTo", "[I", false)
  | 5 => ("StateTables$Layers", "costFrom", "[I", false)
  | 6 => ("StateTables$Layers", "waysTo", "[J", false)
  | 7 => ("StateTables$Layers", "waysFrom", "[J", false)
  | 8 => ("StateTables$Layers", "behind", "[I", false)
  | _ => ("StateTables$Layers", "cursors", "[I", true)
def stt_Y : Nat → FieldType := fun k => match k with
  | 0 => .object "StateTables$Told"
  | 1 => .int
  | 2 => .array .int
  | 3 => .array .int
  | 4 => .array .int
  | 5 => .array .int
  | 6 => .array .long
  | 7 => .array .long
  | 8 => .array .int
  | _ => .array .int
theorem stn_Y : ∀ a, a < 10 → ∀ b, b < 10 → a ≠ b → (stF_Y a).2.1 ≠ (stF_Y b).2.1 := by decide +kernel
theorem sto_Y : ∀ k, k < 10 → parseFieldDescriptor (stF_Y k).2.2.1 = some (stt_Y k) := by decide +kernel
theorem sti_Y : ∀ w ∈ u_ws "StateTables$Layers" stF_Y 10, w ∈ stGW := st_all (by decide +kernel)
def stF_F : u_T := fun k => match k with
  | 0 => ("StateTables$FirstPlans", "told", "LStateTables$Told;", true)
  | 1 => ("StateTables$FirstPlans", "layers", "LStateTables$Layers;", true)
  | 2 => ("StateTables$FirstPlans", "found", "I", false)
  | 3 => ("StateTables$FirstPlans", "rows", "[J", false)
  | 4 => ("StateTables$FirstPlans", "ends", "[I", false)
  | 5 => ("StateTables$FirstPlans", "longerFound", "I", false)
  | 6 => ("StateTables$FirstPlans", "longerRows", "[J", false)
  | _ => ("StateTables$FirstPlans", "longerEnds", "[I", false)
def stt_F : Nat → FieldType := fun k => match k with
  | 0 => .object "StateTables$Told"
  | 1 => .object "StateTables$Layers"
  | 2 => .int
  | 3 => .array .long
  | 4 => .array .int
  | 5 => .int
  | 6 => .array .long
  | _ => .array .int
theorem stn_F : ∀ a, a < 8 → ∀ b, b < 8 → a ≠ b → (stF_F a).2.1 ≠ (stF_F b).2.1 := by decide +kernel
theorem sto_F : ∀ k, k < 8 → parseFieldDescriptor (stF_F k).2.2.1 = some (stt_F k) := by decide +kernel
theorem sti_F : ∀ w ∈ u_ws "StateTables$FirstPlans" stF_F 8, w ∈ stGW := st_all (by decide +kernel)
def stF_N : u_T := fun k => match k with
  | 0 => ("StateTables$NarrowLayers", "told", "LStateTables$Told;", true)
  | 1 => ("StateTables$NarrowLayers", "lost", "I", false)
  | 2 => ("StateTables$NarrowLayers", "widest", "I", false)
  | 3 => ("StateTables$NarrowLayers", "cuts", "I", false)
  | 4 => ("StateTables$NarrowLayers", "size", "I", false)
  | 5 => ("StateTables$NarrowLayers", "nodes", "[J", false)
  | 6 => ("StateTables$NarrowLayers", "nextSize", "I", false)
  | _ => ("StateTables$NarrowLayers", "nextNodes", "[J", false)
def stt_N : Nat → FieldType := fun k => match k with
  | 0 => .object "StateTables$Told"
  | 1 => .int
  | 2 => .int
  | 3 => .int
  | 4 => .int
  | 5 => .array .long
  | 6 => .int
  | _ => .array .long
theorem stn_N : ∀ a, a < 8 → ∀ b, b < 8 → a ≠ b → (stF_N a).2.1 ≠ (stF_N b).2.1 := by decide +kernel
theorem sto_N : ∀ k, k < 8 → parseFieldDescriptor (stF_N k).2.2.1 = some (stt_N k) := by decide +kernel
theorem sti_N : ∀ w ∈ u_ws "StateTables$NarrowLayers" stF_N 8, w ∈ stGW := st_all (by decide +kernel)
def stF_M : u_T := fun k => match k with
  | 0 => ("StateTablesModel", "thrown", "I", false)
  | 1 => ("StateTablesModel", "steps", "I", false)
  | 2 => ("StateTablesModel", "choices", "[I", true)
  | 3 => ("StateTablesModel", "cost", "[I", true)
  | 4 => ("StateTablesModel", "useA", "[I", true)
  | 5 => ("StateTablesModel", "useB", "[I", true)
  | 6 => ("StateTablesModel", "isBarred", "[Z", true)
  | 7 => ("StateTablesModel", "leastA", "I", false)
  | 8 => ("StateTablesModel", "leastB", "I", false)
  | 9 => ("StateTablesModel", "mostA", "I", false)
  | 10 => ("StateTablesModel", "mostB", "I", false)
  | 11 => ("StateTablesModel", "isLaid", "Z", false)
  | 12 => ("StateTablesModel", "rowsTo", "[J", true)
  | 13 => ("StateTablesModel", "rowsFrom", "[J", true)
  | 14 => ("StateTablesModel", "costTo", "[I", true)
  | 15 => ("StateTablesModel", "costFrom", "[I", true)
  | 16 => ("StateTablesModel", "nodes", "[I", true)
  | 17 => ("StateTablesModel", "nodeAt", "[I", true)
  | 18 => ("StateTablesModel", "numberOf", "[I", true)
  | 19 => ("StateTablesModel", "beginAt", "[I", true)
  | 20 => ("StateTablesModel", "beginCost", "[I", true)
  | 21 => ("StateTablesModel", "beginRow", "[J", true)
  | 22 => ("StateTablesModel", "begun", "I", false)
  | 23 => ("StateTablesModel", "plans", "I", false)
  | 24 => ("StateTablesModel", "planCost", "[I", true)
  | 25 => ("StateTablesModel", "planRow", "[J", true)
  | 26 => ("StateTablesModel", "lowA", "[I", true)
  | 27 => ("StateTablesModel", "lowB", "[I", true)
  | 28 => ("StateTablesModel", "highA", "[I", true)
  | 29 => ("StateTablesModel", "highB", "[I", true)
  | 30 => ("StateTablesModel", "lasts", "[I", true)
  | 31 => ("StateTablesModel", "wideCost", "[I", true)
  | 32 => ("StateTablesModel", "wide", "I", false)
  | 33 => ("StateTablesModel", "merged", "I", false)
  | 34 => ("StateTablesModel", "widest", "I", false)
  | _ => ("StateTablesModel", "wideLayers", "I", false)
def stt_M : Nat → FieldType := fun k => match k with
  | 0 => .int
  | 1 => .int
  | 2 => .array .int
  | 3 => .array .int
  | 4 => .array .int
  | 5 => .array .int
  | 6 => .array .boolean
  | 7 => .int
  | 8 => .int
  | 9 => .int
  | 10 => .int
  | 11 => .boolean
  | 12 => .array .long
  | 13 => .array .long
  | 14 => .array .int
  | 15 => .array .int
  | 16 => .array .int
  | 17 => .array .int
  | 18 => .array .int
  | 19 => .array .int
  | 20 => .array .int
  | 21 => .array .long
  | 22 => .int
  | 23 => .int
  | 24 => .array .int
  | 25 => .array .long
  | 26 => .array .int
  | 27 => .array .int
  | 28 => .array .int
  | 29 => .array .int
  | 30 => .array .int
  | 31 => .array .int
  | 32 => .int
  | 33 => .int
  | 34 => .int
  | _ => .int
theorem stn_M : ∀ a, a < 36 → ∀ b, b < 36 → a ≠ b → (stF_M a).2.1 ≠ (stF_M b).2.1 := by decide +kernel
theorem sto_M : ∀ k, k < 36 → parseFieldDescriptor (stF_M k).2.2.1 = some (stt_M k) := by decide +kernel
theorem sti_M : ∀ w ∈ u_ws "StateTablesModel" stF_M 36, w ∈ stGW := st_all (by decide +kernel)
abbrev stCl : List vw_C := [("StateTables", stF_S, 5), ("StateTables$Told", stF_T, 10), ("StateTables$Layers", stF_Y, 10), ("StateTables$FirstPlans", stF_F, 8), ("StateTables$NarrowLayers", stF_N, 8), ("StateTablesModel", stF_M, 36)]
abbrev st_nw : List Cond := [.methodLinkNest "StateTables" 11 ⟨"StateTables$Told", "<init>", "()V"⟩ "StateTables",
  .methodLinkNest "StateTables$Told" 41 ⟨"StateTables", "placeOf", "(II)I"⟩ "StateTables",
  .methodLinkNest "StateTables$Layers" 56 ⟨"StateTables", "keyOf", "(III)I"⟩ "StateTables",
  .methodLinkNest "StateTables$Layers" 104 ⟨"StateTables", "placeOf", "(II)I"⟩ "StateTables",
  .methodLinkNest "StateTables$Layers" 107 ⟨"StateTables", "lastChoice", "(I)I"⟩ "StateTables",
  .methodLinkNest "StateTables$Layers" 110 ⟨"StateTables", "usedOfFirst", "(I)I"⟩ "StateTables",
  .methodLinkNest "StateTables$Layers" 116 ⟨"StateTables", "usedOfSecond", "(I)I"⟩ "StateTables",
  .methodLinkNest "StateTables$FirstPlans" 75 ⟨"StateTables", "placeOf", "(II)I"⟩ "StateTables",
  .methodLinkNest "StateTables$NarrowLayers" 80 ⟨"StateTables", "placeOf", "(II)I"⟩ "StateTables"]
theorem st_nwok : NWok st_nw := NWok.consM (NWok.consM (NWok.consM (NWok.consM (NWok.consM (NWok.consM (NWok.consM (NWok.consM (NWok.consM (NWok.nil)))))))))
end
section
/-! the pure side: keys of nodes, what a choice leads to -/
/-- a choice (its place pl) may follow at a node with the key k -/
def kop (fbb ffu fsu fmo : Int → Int) (pl k : Int) : Prop := ¬ (0 ≤ k % 8 - 1 ∧ fbb pl / 2 ^ (k % 8 - 1).toNat % 2 = 1) ∧ k / 512 + ffu pl ≤ fmo 0 ∧ k / 8 % 64 + fsu pl ≤ fmo 1
/-- the key of the node behind, or -1 -/
noncomputable def kn (fbb ffu fsu fmo : Int → Int) (pl c k : Int) : Int := @ite Int (kop fbb ffu fsu fmo pl k) (Classical.propDecidable _) (((k / 512 + ffu pl) * 512 + (k / 8 % 64 + fsu pl) * 8) + (c + 1)) (-1)
theorem kn_open {fbb ffu fsu fmo : Int → Int} {pl c k : Int} (h : kop fbb ffu fsu fmo pl k) : kn fbb ffu fsu fmo pl c k = ((k / 512 + ffu pl) * 512 + (k / 8 % 64 + fsu pl) * 8) + (c + 1) := by unfold kn; exact if_pos h
theorem kn_shut {fbb ffu fsu fmo : Int → Int} {pl c k : Int} (h : ¬ kop fbb ffu fsu fmo pl k) : kn fbb ffu fsu fmo pl c k = -1 := by unfold kn; exact if_neg h
theorem fk_1 {F g : Int → Int} {s x b v : Int} (h : ∀ i, s ≤ i → i < x → F (i * 6 + b) = g i) (hs : s ≤ x) (hv : v = g x) : ∀ i, s ≤ i → i < x + 1 → uZ F (x * 6 + b) v (i * 6 + b) = g i := by
  intro i h1 h2
  by_cases q : i = x
  · subst q; rw [uZ_s, hv]
  · rw [uZ_n (by omega)]; exact h i h1 (by omega)
theorem fk_2 {F g : Int → Int} {s x b v : Int} (h : ∀ j, (∀ i, s ≤ i → i < x → ¬ j = i * 6 + b) → F j = g j) (hs : s ≤ x) : ∀ j, (∀ i, s ≤ i → i < x + 1 → ¬ j = i * 6 + b) → uZ F (x * 6 + b) v j = g j := by
  intro j hj
  rw [uZ_n (hj x hs (by omega))]
  exact h j (fun i h1 h2 => hj i h1 (by omega))
theorem sk_1 {g : Int → Int} {s x b : Int} (h : ∀ i, s ≤ i → i < x → g (i * 6 + b) = -1) (hx : g (x * 6 + b) = -1) : ∀ i, s ≤ i → i < x + 1 → g (i * 6 + b) = -1 := by
  intro i h1 h2
  by_cases q : i = x
  · subst q; exact hx
  · exact h i h1 (by omega)
/-- the search for the choice with the least key, x choices looked at -/
def CWp (gcu gbe : Int → Int) (e x fo lk : Int) : Prop := (fo = -1 ∧ ∀ i, 0 ≤ i → i < x → e ≤ gcu i) ∨ ((0 ≤ fo ∧ fo < x) ∧ gcu fo < e ∧ lk = gbe (gcu fo * 6 + fo) ∧ ∀ i, 0 ≤ i → i < x → gcu i < e → lk ≤ gbe (gcu i * 6 + i))
theorem cw_0 {gcu gbe : Int → Int} {e lk : Int} : CWp gcu gbe e 0 (-1) lk := Or.inl ⟨rfl, fun i h1 h2 => absurd h1 (by omega)⟩
theorem cw_1 {gcu gbe : Int → Int} {e x fo lk : Int} (h : CWp gcu gbe e x fo lk) (hx : e ≤ gcu x) : CWp gcu gbe e (x + 1) fo lk := by
  rcases h with ⟨h1, h2⟩ | ⟨h1, h2, h3, h4⟩
  · refine Or.inl ⟨h1, fun i a b => ?_⟩
    by_cases q : i = x
    · subst q; exact hx
    · exact h2 i a (by omega)
  · refine Or.inr ⟨⟨h1.1, by omega⟩, h2, h3, fun i a b c => ?_⟩
    by_cases q : i = x
    · subst q; omega
    · exact h4 i a (by omega) c
theorem cw_2 {gcu gbe : Int → Int} {e x fo lk : Int} (h : CWp gcu gbe e x fo lk) (hf : fo < 0) (hc : gcu x < e) (hx : 0 ≤ x) : CWp gcu gbe e (x + 1) x (gbe (gcu x * 6 + x)) := by
  rcases h with ⟨h1, h2⟩ | ⟨h1, h2, h3, h4⟩
  · refine Or.inr ⟨⟨hx, by omega⟩, hc, rfl, fun i a b c => ?_⟩
    by_cases q : i = x
    · subst q; omega
    · have := h2 i a (by omega); omega
  · omega
theorem cw_3 {gcu gbe : Int → Int} {e x fo lk : Int} (h : CWp gcu gbe e x fo lk) (hf : 0 ≤ fo) (hk : lk ≤ gbe (gcu x * 6 + x)) : CWp gcu gbe e (x + 1) fo lk := by
  rcases h with ⟨h1, h2⟩ | ⟨h1, h2, h3, h4⟩
  · omega
  · refine Or.inr ⟨⟨h1.1, by omega⟩, h2, h3, fun i a b c => ?_⟩
    by_cases q : i = x
    · subst q; exact hk
    · exact h4 i a (by omega) c
theorem cw_4 {gcu gbe : Int → Int} {e x fo lk : Int} (h : CWp gcu gbe e x fo lk) (hf : 0 ≤ fo) (hc : gcu x < e) (hk : gbe (gcu x * 6 + x) < lk) (hx : 0 ≤ x) : CWp gcu gbe e (x + 1) x (gbe (gcu x * 6 + x)) := by
  rcases h with ⟨h1, h2⟩ | ⟨h1, h2, h3, h4⟩
  · omega
  · refine Or.inr ⟨⟨hx, by omega⟩, hc, rfl, fun i a b c => ?_⟩
    by_cases q : i = x
    · subst q; omega
    · have := h4 i a (by omega) c; omega
/-- what goes from a node: the sum over its first n choices, and the least cost -/
def lbW (gbe gwf : Int → Int) (z : Int) : Nat → Int
  | 0 => 0
  | n + 1 => lbW gbe gwf z n + (if 0 ≤ gbe (z * 6 + (n : Int)) ∧ 0 < gwf (gbe (z * 6 + (n : Int))) then gwf (gbe (z * 6 + (n : Int))) else 0)
def lbC (gbe gwf gcf fco : Int → Int) (d z : Int) : Nat → Int
  | 0 => 0
  | n + 1 => if 0 ≤ gbe (z * 6 + (n : Int)) ∧ 0 < gwf (gbe (z * 6 + (n : Int))) then (if lbW gbe gwf z n = 0 then gcf (gbe (z * 6 + (n : Int))) + fco (d * 6 + (n : Int)) else min (lbC gbe gwf gcf fco d z n) (gcf (gbe (z * 6 + (n : Int))) + fco (d * 6 + (n : Int)))) else lbC gbe gwf gcf fco d z n
theorem lbW_no {gbe gwf : Int → Int} {z x : Int} (hx : 0 ≤ x) (h : ¬ (0 ≤ gbe (z * 6 + x) ∧ 0 < gwf (gbe (z * 6 + x)))) : lbW gbe gwf z (x + 1).toNat = lbW gbe gwf z x.toNat := by
  obtain ⟨n, rfl⟩ : ∃ n : Nat, x = (n : Int) := ⟨x.toNat, by omega⟩
  rw [show ((n : Int) + 1).toNat = n + 1 by omega, Int.toNat_natCast]
  show lbW gbe gwf z n + _ = _
  rw [if_neg h, Int.add_zero]
theorem lbW_yes {gbe gwf : Int → Int} {z x : Int} (hx : 0 ≤ x) (h : 0 ≤ gbe (z * 6 + x) ∧ 0 < gwf (gbe (z * 6 + x))) : lbW gbe gwf z (x + 1).toNat = lbW gbe gwf z x.toNat + gwf (gbe (z * 6 + x)) := by
  obtain ⟨n, rfl⟩ : ∃ n : Nat, x = (n : Int) := ⟨x.toNat, by omega⟩
  rw [show ((n : Int) + 1).toNat = n + 1 by omega, Int.toNat_natCast]
  show lbW gbe gwf z n + _ = _
  rw [if_pos h]
theorem lbC_no {gbe gwf gcf fco : Int → Int} {d z x : Int} (hx : 0 ≤ x) (h : ¬ (0 ≤ gbe (z * 6 + x) ∧ 0 < gwf (gbe (z * 6 + x)))) : lbC gbe gwf gcf fco d z (x + 1).toNat = lbC gbe gwf gcf fco d z x.toNat := by
  obtain ⟨n, rfl⟩ : ∃ n : Nat, x = (n : Int) := ⟨x.toNat, by omega⟩
  rw [show ((n : Int) + 1).toNat = n + 1 by omega, Int.toNat_natCast]
  exact if_neg h
theorem lbC_first {gbe gwf gcf fco : Int → Int} {d z x : Int} (hx : 0 ≤ x) (h : 0 ≤ gbe (z * 6 + x) ∧ 0 < gwf (gbe (z * 6 + x))) (h0 : lbW gbe gwf z x.toNat = 0) : lbC gbe gwf gcf fco d z (x + 1).toNat = gcf (gbe (z * 6 + x)) + fco (d * 6 + x) := by
  obtain ⟨n, rfl⟩ : ∃ n : Nat, x = (n : Int) := ⟨x.toNat, by omega⟩
  rw [show ((n : Int) + 1).toNat = n + 1 by omega]
  rw [Int.toNat_natCast] at h0
  show (if _ then _ else _) = _
  rw [if_pos h, if_pos h0]
theorem lbC_more {gbe gwf gcf fco : Int → Int} {d z x : Int} (hx : 0 ≤ x) (h : 0 ≤ gbe (z * 6 + x) ∧ 0 < gwf (gbe (z * 6 + x))) (h0 : ¬ lbW gbe gwf z x.toNat = 0) : lbC gbe gwf gcf fco d z (x + 1).toNat = min (lbC gbe gwf gcf fco d z x.toNat) (gcf (gbe (z * 6 + x)) + fco (d * 6 + x)) := by
  obtain ⟨n, rfl⟩ : ∃ n : Nat, x = (n : Int) := ⟨x.toNat, by omega⟩
  rw [show ((n : Int) + 1).toNat = n + 1 by omega]
  rw [Int.toNat_natCast] at h0 ⊢
  show (if _ then _ else _) = _
  rw [if_pos h, if_neg h0]
end
section
/-! StateTables: its static helpers -/
abbrev sty_S_placeOf : MethodName := ⟨"StateTables", "placeOf", "(II)I"⟩
abbrev stc_S_placeOf : ByteArray := prog_1_method_22_code
theorem sth_S_placeOf : (sty_S_placeOf).cls ≠ "java/lang/invoke/MethodHandle" ∧ (sty_S_placeOf).cls ≠ "java/lang/invoke/VarHandle" ∧ (parseMethodDescriptor (sty_S_placeOf).desc).map (fun d => d.parameters.length) = some 2 := by decide +kernel
theorem std_S_placeOf_0 : decode stc_S_placeOf 0 = .ok (.iload_n 0, 1) := by decide +kernel
theorem std_S_placeOf_1 : decode stc_S_placeOf 1 = .ok (.bipush 6, 2) := by decide +kernel
theorem std_S_placeOf_3 : decode stc_S_placeOf 3 = .ok (.imul, 1) := by decide +kernel
theorem std_S_placeOf_4 : decode stc_S_placeOf 4 = .ok (.iload_n 1, 1) := by decide +kernel
theorem std_S_placeOf_5 : decode stc_S_placeOf 5 = .ok (.iadd, 1) := by decide +kernel
theorem std_S_placeOf_6 : decode stc_S_placeOf 6 = .ok (.ireturn, 1) := by decide +kernel
set_option maxHeartbeats 4000000 in
set_option maxRecDepth 100000 in
theorem c_placeOf (l : Launch) (dC : Nat → ClassId) (dI : Nat → Nat → Nat) (cI cJ cZ : ClassId) (a : Int) (b : Int)  : ∀ sz, Met l sty_S_placeOf (Cond.code sty_S_placeOf stc_S_placeOf 2 (some .int) :: stGW) ({ frames := 0, cells := 0, slots := 0, locals := 0 } : Room) (va_Pc [.int (iI a), .int (iI b)] (zPre (dC, dI) stCl [(cI, .int), (cJ, .long), (cZ, .boolean)] st_nw [] sz)) (va_Qi (fun (r : Int32) (_ : Unit) => r = iI ((a * 6) + b)) (zPost (dC, dI) stCl [(cI, .int), (cJ, .long), (cZ, .boolean)] [] sz (fun _ : Unit => [])) (va_A [] sz)) 0 0 (va_A [] sz) := by
  refine met_i (by decide) rfl (Nat.le_of_ble_eq_true rfl) ?_
  intro p e s m below meth c A Q C hmn hret
  refine g_iload_n C 0 std_S_placeOf_0 rfl ?_
  refine g_bipush C std_S_placeOf_1 (by decide) ?_
  refine g_imul C std_S_placeOf_3 ?_
  refine g_iload_n C 1 std_S_placeOf_4 rfl ?_
  refine g_iadd C std_S_placeOf_5 ?_
  exact hret _ _ _ () (rfl) std_S_placeOf_6

abbrev sty_S_isCost : MethodName := ⟨"StateTables", "isCost", "(I)Z"⟩
abbrev stc_S_isCost : ByteArray := prog_1_method_20_code
theorem sth_S_isCost : (sty_S_isCost).cls ≠ "java/lang/invoke/MethodHandle" ∧ (sty_S_isCost).cls ≠ "java/lang/invoke/VarHandle" ∧ (parseMethodDescriptor (sty_S_isCost).desc).map (fun d => d.parameters.length) = some 1 := by decide +kernel
theorem std_S_isCost_0 : decode stc_S_isCost 0 = .ok (.iload_n 0, 1) := by decide +kernel
theorem std_S_isCost_1 : decode stc_S_isCost 1 = .ok (.sipush (-1000), 3) := by decide +kernel
theorem std_S_isCost_4 : decode stc_S_isCost 4 = .ok (.if_icmp .lt 14, 3) := by decide +kernel
theorem std_S_isCost_18 : decode stc_S_isCost 18 = .ok (.iconst 0, 1) := by decide +kernel
theorem std_S_isCost_19 : decode stc_S_isCost 19 = .ok (.ireturn, 1) := by decide +kernel
theorem std_S_isCost_7 : decode stc_S_isCost 7 = .ok (.iload_n 0, 1) := by decide +kernel
theorem std_S_isCost_8 : decode stc_S_isCost 8 = .ok (.sipush 1000, 3) := by decide +kernel
theorem std_S_isCost_11 : decode stc_S_isCost 11 = .ok (.if_icmp .gt 7, 3) := by decide +kernel
theorem std_S_isCost_14 : decode stc_S_isCost 14 = .ok (.iconst 1, 1) := by decide +kernel
theorem std_S_isCost_15 : decode stc_S_isCost 15 = .ok (.goto 4, 3) := by decide +kernel
set_option maxHeartbeats 4000000 in
set_option maxRecDepth 100000 in
theorem c_isCost (l : Launch) (dC : Nat → ClassId) (dI : Nat → Nat → Nat) (cI cJ cZ : ClassId) (a : Int) (ka : rI a) : ∀ sz, Met l sty_S_isCost (Cond.code sty_S_isCost stc_S_isCost 1 (some .boolean) :: stGW) ({ frames := 0, cells := 0, slots := 0, locals := 0 } : Room) (va_Pc [.int (iI a)] (zPre (dC, dI) stCl [(cI, .int), (cJ, .long), (cZ, .boolean)] st_nw [] sz)) (va_Qi (fun (r : Int32) (_ : Unit) => r = iI (bI (-1000 ≤ a ∧ a ≤ 1000))) (zPost (dC, dI) stCl [(cI, .int), (cJ, .long), (cZ, .boolean)] [] sz (fun _ : Unit => [])) (va_A [] sz)) 0 0 (va_A [] sz) := by
  refine met_z (by decide) rfl (Nat.le_of_ble_eq_true rfl) ?_
  intro p e s m below meth c A Q C hmn hret
  refine g_iload_n C 0 std_S_isCost_0 rfl ?_
  refine g_sipush C std_S_isCost_1 (by decide) ?_
  refine g_icmp_lt (tgt := 18) C std_S_isCost_4 (by decide) ⟨by omega, by omega⟩ ⟨by omega, by omega⟩ (fun c1 => ?_) (fun c1 => ?_)
  · refine g_iconst C std_S_isCost_18 ?_
    exact hret _ _ _ () (by rw [bI_f (by omega)]) (by decide) std_S_isCost_19
  · refine g_iload_n C 0 std_S_isCost_7 rfl ?_
    refine g_sipush C std_S_isCost_8 (by decide) ?_
    refine g_icmp_gt (tgt := 18) C std_S_isCost_11 (by decide) ⟨by omega, by omega⟩ ⟨by omega, by omega⟩ (fun c2 => ?_) (fun c2 => ?_)
    · refine g_iconst C std_S_isCost_18 ?_
      exact hret _ _ _ () (by rw [bI_f (by omega)]) (by decide) std_S_isCost_19
    · refine g_iconst C std_S_isCost_14 ?_
      refine g_goto (tgt := 19) C std_S_isCost_15 (by decide) ?_
      exact hret _ _ _ () (by rw [bI_t (by omega)]) (by decide) std_S_isCost_19

abbrev sty_S_isUse : MethodName := ⟨"StateTables", "isUse", "(I)Z"⟩
abbrev stc_S_isUse : ByteArray := prog_1_method_21_code
theorem sth_S_isUse : (sty_S_isUse).cls ≠ "java/lang/invoke/MethodHandle" ∧ (sty_S_isUse).cls ≠ "java/lang/invoke/VarHandle" ∧ (parseMethodDescriptor (sty_S_isUse).desc).map (fun d => d.parameters.length) = some 1 := by decide +kernel
theorem std_S_isUse_0 : decode stc_S_isUse 0 = .ok (.iload_n 0, 1) := by decide +kernel
theorem std_S_isUse_1 : decode stc_S_isUse 1 = .ok (.ifCond .lt 13, 3) := by decide +kernel
theorem std_S_isUse_14 : decode stc_S_isUse 14 = .ok (.iconst 0, 1) := by decide +kernel
theorem std_S_isUse_15 : decode stc_S_isUse 15 = .ok (.ireturn, 1) := by decide +kernel
theorem std_S_isUse_4 : decode stc_S_isUse 4 = .ok (.iload_n 0, 1) := by decide +kernel
theorem std_S_isUse_5 : decode stc_S_isUse 5 = .ok (.bipush 20, 2) := by decide +kernel
theorem std_S_isUse_7 : decode stc_S_isUse 7 = .ok (.if_icmp .gt 7, 3) := by decide +kernel
theorem std_S_isUse_10 : decode stc_S_isUse 10 = .ok (.iconst 1, 1) := by decide +kernel
theorem std_S_isUse_11 : decode stc_S_isUse 11 = .ok (.goto 4, 3) := by decide +kernel
set_option maxHeartbeats 4000000 in
set_option maxRecDepth 100000 in
theorem c_isUse (l : Launch) (dC : Nat → ClassId) (dI : Nat → Nat → Nat) (cI cJ cZ : ClassId) (a : Int) (ka : rI a) : ∀ sz, Met l sty_S_isUse (Cond.code sty_S_isUse stc_S_isUse 1 (some .boolean) :: stGW) ({ frames := 0, cells := 0, slots := 0, locals := 0 } : Room) (va_Pc [.int (iI a)] (zPre (dC, dI) stCl [(cI, .int), (cJ, .long), (cZ, .boolean)] st_nw [] sz)) (va_Qi (fun (r : Int32) (_ : Unit) => r = iI (bI (0 ≤ a ∧ a ≤ 20))) (zPost (dC, dI) stCl [(cI, .int), (cJ, .long), (cZ, .boolean)] [] sz (fun _ : Unit => [])) (va_A [] sz)) 0 0 (va_A [] sz) := by
  refine met_z (by decide) rfl (Nat.le_of_ble_eq_true rfl) ?_
  intro p e s m below meth c A Q C hmn hret
  refine g_iload_n C 0 std_S_isUse_0 rfl ?_
  refine g_if_lt (tgt := 14) C std_S_isUse_1 (by decide) ⟨by omega, by omega⟩ (fun c1 => ?_) (fun c1 => ?_)
  · refine g_iconst C std_S_isUse_14 ?_
    exact hret _ _ _ () (by rw [bI_f (by omega)]) (by decide) std_S_isUse_15
  · refine g_iload_n C 0 std_S_isUse_4 rfl ?_
    refine g_bipush C std_S_isUse_5 (by decide) ?_
    refine g_icmp_gt (tgt := 14) C std_S_isUse_7 (by decide) ⟨by omega, by omega⟩ ⟨by omega, by omega⟩ (fun c2 => ?_) (fun c2 => ?_)
    · refine g_iconst C std_S_isUse_14 ?_
      exact hret _ _ _ () (by rw [bI_f (by omega)]) (by decide) std_S_isUse_15
    · refine g_iconst C std_S_isUse_10 ?_
      refine g_goto (tgt := 15) C std_S_isUse_11 (by decide) ?_
      exact hret _ _ _ () (by rw [bI_t (by omega)]) (by decide) std_S_isUse_15

abbrev sty_S_usedOfFirst : MethodName := ⟨"StateTables", "usedOfFirst", "(I)I"⟩
abbrev stc_S_usedOfFirst : ByteArray := prog_1_method_23_code
theorem sth_S_usedOfFirst : (sty_S_usedOfFirst).cls ≠ "java/lang/invoke/MethodHandle" ∧ (sty_S_usedOfFirst).cls ≠ "java/lang/invoke/VarHandle" ∧ (parseMethodDescriptor (sty_S_usedOfFirst).desc).map (fun d => d.parameters.length) = some 1 := by decide +kernel
theorem std_S_usedOfFirst_0 : decode stc_S_usedOfFirst 0 = .ok (.iload_n 0, 1) := by decide +kernel
theorem std_S_usedOfFirst_1 : decode stc_S_usedOfFirst 1 = .ok (.bipush 9, 2) := by decide +kernel
theorem std_S_usedOfFirst_3 : decode stc_S_usedOfFirst 3 = .ok (.ishr, 1) := by decide +kernel
theorem std_S_usedOfFirst_4 : decode stc_S_usedOfFirst 4 = .ok (.ireturn, 1) := by decide +kernel
set_option maxHeartbeats 4000000 in
set_option maxRecDepth 100000 in
theorem c_usedOfFirst (l : Launch) (dC : Nat → ClassId) (dI : Nat → Nat → Nat) (cI cJ cZ : ClassId) (a : Int) (ka : rI a) : ∀ sz, Met l sty_S_usedOfFirst (Cond.code sty_S_usedOfFirst stc_S_usedOfFirst 1 (some .int) :: stGW) ({ frames := 0, cells := 0, slots := 0, locals := 0 } : Room) (va_Pc [.int (iI a)] (zPre (dC, dI) stCl [(cI, .int), (cJ, .long), (cZ, .boolean)] st_nw [] sz)) (va_Qi (fun (r : Int32) (_ : Unit) => r = iI (a / 512)) (zPost (dC, dI) stCl [(cI, .int), (cJ, .long), (cZ, .boolean)] [] sz (fun _ : Unit => [])) (va_A [] sz)) 0 0 (va_A [] sz) := by
  refine met_i (by decide) rfl (Nat.le_of_ble_eq_true rfl) ?_
  intro p e s m below meth c A Q C hmn hret
  refine g_iload_n C 0 std_S_usedOfFirst_0 rfl ?_
  refine g_bipush C std_S_usedOfFirst_1 (by decide) ?_
  refine g_ishr C (d := 512) std_S_usedOfFirst_3 ⟨by omega, by omega⟩ (by decide) (by decide) (by decide) ?_
  exact hret _ _ _ () (rfl) std_S_usedOfFirst_4

abbrev sty_S_usedOfSecond : MethodName := ⟨"StateTables", "usedOfSecond", "(I)I"⟩
abbrev stc_S_usedOfSecond : ByteArray := prog_1_method_24_code
theorem sth_S_usedOfSecond : (sty_S_usedOfSecond).cls ≠ "java/lang/invoke/MethodHandle" ∧ (sty_S_usedOfSecond).cls ≠ "java/lang/invoke/VarHandle" ∧ (parseMethodDescriptor (sty_S_usedOfSecond).desc).map (fun d => d.parameters.length) = some 1 := by decide +kernel
theorem std_S_usedOfSecond_0 : decode stc_S_usedOfSecond 0 = .ok (.iload_n 0, 1) := by decide +kernel
theorem std_S_usedOfSecond_1 : decode stc_S_usedOfSecond 1 = .ok (.iconst 3, 1) := by decide +kernel
theorem std_S_usedOfSecond_2 : decode stc_S_usedOfSecond 2 = .ok (.ishr, 1) := by decide +kernel
theorem std_S_usedOfSecond_3 : decode stc_S_usedOfSecond 3 = .ok (.bipush 63, 2) := by decide +kernel
theorem std_S_usedOfSecond_5 : decode stc_S_usedOfSecond 5 = .ok (.iand, 1) := by decide +kernel
theorem std_S_usedOfSecond_6 : decode stc_S_usedOfSecond 6 = .ok (.ireturn, 1) := by decide +kernel
set_option maxHeartbeats 4000000 in
set_option maxRecDepth 100000 in
theorem c_usedOfSecond (l : Launch) (dC : Nat → ClassId) (dI : Nat → Nat → Nat) (cI cJ cZ : ClassId) (a : Int) (ka : rI a) : ∀ sz, Met l sty_S_usedOfSecond (Cond.code sty_S_usedOfSecond stc_S_usedOfSecond 1 (some .int) :: stGW) ({ frames := 0, cells := 0, slots := 0, locals := 0 } : Room) (va_Pc [.int (iI a)] (zPre (dC, dI) stCl [(cI, .int), (cJ, .long), (cZ, .boolean)] st_nw [] sz)) (va_Qi (fun (r : Int32) (_ : Unit) => r = iI ((a / 8) % 64)) (zPost (dC, dI) stCl [(cI, .int), (cJ, .long), (cZ, .boolean)] [] sz (fun _ : Unit => [])) (va_A [] sz)) 0 0 (va_A [] sz) := by
  refine met_i (by decide) rfl (Nat.le_of_ble_eq_true rfl) ?_
  intro p e s m below meth c A Q C hmn hret
  refine g_iload_n C 0 std_S_usedOfSecond_0 rfl ?_
  refine g_iconst C std_S_usedOfSecond_1 ?_
  refine g_ishr C (d := 8) std_S_usedOfSecond_2 ⟨by omega, by omega⟩ (by decide) (by decide) (by decide) ?_
  refine g_bipush C std_S_usedOfSecond_3 (by decide) ?_
  refine g_iand C std_S_usedOfSecond_5 (iI_andK (d := 64) 6 (by decide) (by decide) (by decide)) ?_
  exact hret _ _ _ () (rfl) std_S_usedOfSecond_6

abbrev sty_S_lastChoice : MethodName := ⟨"StateTables", "lastChoice", "(I)I"⟩
abbrev stc_S_lastChoice : ByteArray := prog_1_method_25_code
theorem sth_S_lastChoice : (sty_S_lastChoice).cls ≠ "java/lang/invoke/MethodHandle" ∧ (sty_S_lastChoice).cls ≠ "java/lang/invoke/VarHandle" ∧ (parseMethodDescriptor (sty_S_lastChoice).desc).map (fun d => d.parameters.length) = some 1 := by decide +kernel
theorem std_S_lastChoice_0 : decode stc_S_lastChoice 0 = .ok (.iload_n 0, 1) := by decide +kernel
theorem std_S_lastChoice_1 : decode stc_S_lastChoice 1 = .ok (.bipush 7, 2) := by decide +kernel
theorem std_S_lastChoice_3 : decode stc_S_lastChoice 3 = .ok (.iand, 1) := by decide +kernel
theorem std_S_lastChoice_4 : decode stc_S_lastChoice 4 = .ok (.iconst 1, 1) := by decide +kernel
theorem std_S_lastChoice_5 : decode stc_S_lastChoice 5 = .ok (.isub, 1) := by decide +kernel
theorem std_S_lastChoice_6 : decode stc_S_lastChoice 6 = .ok (.ireturn, 1) := by decide +kernel
set_option maxHeartbeats 4000000 in
set_option maxRecDepth 100000 in
theorem c_lastChoice (l : Launch) (dC : Nat → ClassId) (dI : Nat → Nat → Nat) (cI cJ cZ : ClassId) (a : Int)  : ∀ sz, Met l sty_S_lastChoice (Cond.code sty_S_lastChoice stc_S_lastChoice 1 (some .int) :: stGW) ({ frames := 0, cells := 0, slots := 0, locals := 0 } : Room) (va_Pc [.int (iI a)] (zPre (dC, dI) stCl [(cI, .int), (cJ, .long), (cZ, .boolean)] st_nw [] sz)) (va_Qi (fun (r : Int32) (_ : Unit) => r = iI ((a % 8) - 1)) (zPost (dC, dI) stCl [(cI, .int), (cJ, .long), (cZ, .boolean)] [] sz (fun _ : Unit => [])) (va_A [] sz)) 0 0 (va_A [] sz) := by
  refine met_i (by decide) rfl (Nat.le_of_ble_eq_true rfl) ?_
  intro p e s m below meth c A Q C hmn hret
  refine g_iload_n C 0 std_S_lastChoice_0 rfl ?_
  refine g_bipush C std_S_lastChoice_1 (by decide) ?_
  refine g_iand C std_S_lastChoice_3 (iI_andK (d := 8) 3 (by decide) (by decide) (by decide)) ?_
  refine g_iconst C std_S_lastChoice_4 ?_
  refine g_isub C std_S_lastChoice_5 ?_
  exact hret _ _ _ () (rfl) std_S_lastChoice_6

abbrev sty_S_keyOf : MethodName := ⟨"StateTables", "keyOf", "(III)I"⟩
abbrev stc_S_keyOf : ByteArray := prog_1_method_26_code
theorem sth_S_keyOf : (sty_S_keyOf).cls ≠ "java/lang/invoke/MethodHandle" ∧ (sty_S_keyOf).cls ≠ "java/lang/invoke/VarHandle" ∧ (parseMethodDescriptor (sty_S_keyOf).desc).map (fun d => d.parameters.length) = some 3 := by decide +kernel
theorem std_S_keyOf_0 : decode stc_S_keyOf 0 = .ok (.iload_n 0, 1) := by decide +kernel
theorem std_S_keyOf_1 : decode stc_S_keyOf 1 = .ok (.bipush 9, 2) := by decide +kernel
theorem std_S_keyOf_3 : decode stc_S_keyOf 3 = .ok (.ishl, 1) := by decide +kernel
theorem std_S_keyOf_4 : decode stc_S_keyOf 4 = .ok (.iload_n 1, 1) := by decide +kernel
theorem std_S_keyOf_5 : decode stc_S_keyOf 5 = .ok (.iconst 3, 1) := by decide +kernel
theorem std_S_keyOf_6 : decode stc_S_keyOf 6 = .ok (.ishl, 1) := by decide +kernel
theorem std_S_keyOf_7 : decode stc_S_keyOf 7 = .ok (.ior, 1) := by decide +kernel
theorem std_S_keyOf_8 : decode stc_S_keyOf 8 = .ok (.iload_n 2, 1) := by decide +kernel
theorem std_S_keyOf_9 : decode stc_S_keyOf 9 = .ok (.iconst 1, 1) := by decide +kernel
theorem std_S_keyOf_10 : decode stc_S_keyOf 10 = .ok (.iadd, 1) := by decide +kernel
theorem std_S_keyOf_11 : decode stc_S_keyOf 11 = .ok (.ior, 1) := by decide +kernel
theorem std_S_keyOf_12 : decode stc_S_keyOf 12 = .ok (.ireturn, 1) := by decide +kernel
set_option maxHeartbeats 4000000 in
set_option maxRecDepth 100000 in
theorem c_keyOf (l : Launch) (dC : Nat → ClassId) (dI : Nat → Nat → Nat) (cI cJ cZ : ClassId) (a : Int) (b : Int) (d : Int) (ka : 0 ≤ a ∧ a ≤ 1000000) (kb : 0 ≤ b ∧ b ≤ 63) (kd : -1 ≤ d ∧ d ≤ 6) : ∀ sz, Met l sty_S_keyOf (Cond.code sty_S_keyOf stc_S_keyOf 3 (some .int) :: stGW) ({ frames := 0, cells := 0, slots := 0, locals := 0 } : Room) (va_Pc [.int (iI a), .int (iI b), .int (iI d)] (zPre (dC, dI) stCl [(cI, .int), (cJ, .long), (cZ, .boolean)] st_nw [] sz)) (va_Qi (fun (r : Int32) (_ : Unit) => r = iI (((a * 512) + (b * 8)) + (d + 1))) (zPost (dC, dI) stCl [(cI, .int), (cJ, .long), (cZ, .boolean)] [] sz (fun _ : Unit => [])) (va_A [] sz)) 0 0 (va_A [] sz) := by
  refine met_i (by decide) rfl (Nat.le_of_ble_eq_true rfl) ?_
  intro p e s m below meth c A Q C hmn hret
  refine g_iload_n C 0 std_S_keyOf_0 rfl ?_
  refine g_bipush C std_S_keyOf_1 (by decide) ?_
  refine g_ishl C (d := 512) std_S_keyOf_3 (by decide) (by decide) (by decide) ?_
  refine g_iload_n C 1 std_S_keyOf_4 rfl ?_
  refine g_iconst C std_S_keyOf_5 ?_
  refine g_ishl C (d := 8) std_S_keyOf_6 (by decide) (by decide) (by decide) ?_
  refine g_ior C (z := ((a * 512) + (b * 8))) std_S_keyOf_7 (iI_orK (q := a) (d := 512) 9 (by decide) rfl (by omega) (by omega) (by omega) (by omega)) ?_
  refine g_iload_n C 2 std_S_keyOf_8 rfl ?_
  refine g_iconst C std_S_keyOf_9 ?_
  refine g_iadd C std_S_keyOf_10 ?_
  refine g_ior C (z := (((a * 512) + (b * 8)) + (d + 1))) std_S_keyOf_11 (iI_orK (q := a * 64 + b) (d := 8) 3 (by decide) (by omega) (by omega) (by omega) (by omega) (by omega)) ?_
  exact hret _ _ _ () (rfl) std_S_keyOf_12
end
section
/-! Told -/
abbrev sty_T_hasStep : MethodName := ⟨"StateTables$Told", "hasStep", "(I)Z"⟩
abbrev stc_T_hasStep : ByteArray := prog_5_method_2_code
theorem sth_T_hasStep : (sty_T_hasStep).cls ≠ "java/lang/invoke/MethodHandle" ∧ (sty_T_hasStep).cls ≠ "java/lang/invoke/VarHandle" ∧ (parseMethodDescriptor (sty_T_hasStep).desc).map (fun d => d.parameters.length) = some 1 := by decide +kernel
theorem std_T_hasStep_0 : decode stc_T_hasStep 0 = .ok (.iload_n 1, 1) := by decide +kernel
theorem std_T_hasStep_1 : decode stc_T_hasStep 1 = .ok (.ifCond .lt 15, 3) := by decide +kernel
theorem std_T_hasStep_16 : decode stc_T_hasStep 16 = .ok (.iconst 0, 1) := by decide +kernel
theorem std_T_hasStep_17 : decode stc_T_hasStep 17 = .ok (.ireturn, 1) := by decide +kernel
theorem std_T_hasStep_4 : decode stc_T_hasStep 4 = .ok (.iload_n 1, 1) := by decide +kernel
theorem std_T_hasStep_5 : decode stc_T_hasStep 5 = .ok (.aload_n 0, 1) := by decide +kernel
theorem std_T_hasStep_6 : decode stc_T_hasStep 6 = .ok (.getfield 33, 3) := by decide +kernel
theorem kw_1_25 : Cond.fieldLink "StateTables$Told" 33 "StateTables$Told" "steps" "I" ∈ stGW := st_t1 (List.mem_of_getElem? (i := 25) (by decide +kernel)) (by decide +kernel)
theorem std_T_hasStep_9 : decode stc_T_hasStep 9 = .ok (.if_icmp .ge 7, 3) := by decide +kernel
theorem std_T_hasStep_12 : decode stc_T_hasStep 12 = .ok (.iconst 1, 1) := by decide +kernel
theorem std_T_hasStep_13 : decode stc_T_hasStep 13 = .ok (.goto 4, 3) := by decide +kernel
set_option maxHeartbeats 4000000 in
set_option maxRecDepth 100000 in
theorem c_hasStep (l : Launch) (dC : Nat → ClassId) (dI : Nat → Nat → Nat) (cI cJ cZ : ClassId) (t0 : Nat) (hs : Nat) (hc : Nat) (hf : Nat) (hg : Nat) (hb : Nat) (he : Nat) (hm : Nat) (steps : Int) (choices : Int) (bars : Int) (a : Int) (kst : 0 ≤ steps ∧ steps ≤ 12) (ka : rI a) : ∀ sz, Met l sty_T_hasStep (Cond.code sty_T_hasStep stc_T_hasStep 2 (some .boolean) :: stGW) ({ frames := 0, cells := 0, slots := 0, locals := 0 } : Room) (va_Pc [.ref t0, .int (iI a)] (zPre (dC, dI) stCl [(cI, .int), (cJ, .long), (cZ, .boolean)] st_nw [(t0, .inr (1, [.int (iI steps), .int (iI choices), .int (iI bars), .ref hs, .ref hc, .ref hf, .ref hg, .ref hb, .ref he, .ref hm]))] sz)) (va_Qi (fun (r : Int32) (_ : Unit) => r = iI (bI (0 ≤ a ∧ a < steps))) (zPost (dC, dI) stCl [(cI, .int), (cJ, .long), (cZ, .boolean)] [(t0, .inr (1, [.int (iI steps), .int (iI choices), .int (iI bars), .ref hs, .ref hc, .ref hf, .ref hg, .ref hb, .ref he, .ref hm]))] sz (fun _ : Unit => [(t0, .inr (1, [.int (iI steps), .int (iI choices), .int (iI bars), .ref hs, .ref hc, .ref hf, .ref hg, .ref hb, .ref he, .ref hm]))])) (va_A [(t0, .inr (1, [.int (iI steps), .int (iI choices), .int (iI bars), .ref hs, .ref hc, .ref hf, .ref hg, .ref hb, .ref he, .ref hm]))] sz)) 0 0 (va_A [(t0, .inr (1, [.int (iI steps), .int (iI choices), .int (iI bars), .ref hs, .ref hc, .ref hf, .ref hg, .ref hb, .ref he, .ref hm]))] sz) := by
  refine met_z (by decide) rfl (Nat.le_of_ble_eq_true rfl) ?_
  intro p e s m below meth c A Q C hmn hret
  refine g_iload_n C 1 std_T_hasStep_0 rfl ?_
  refine g_if_lt (tgt := 16) C std_T_hasStep_1 (by decide) ⟨by omega, by omega⟩ (fun c1 => ?_) (fun c1 => ?_)
  · refine g_iconst C std_T_hasStep_16 ?_
    exact hret _ _ _ () (by rw [bI_f (by omega)]) (by decide) std_T_hasStep_17
  · refine g_iload_n C 1 std_T_hasStep_4 rfl ?_
    refine g_aload_n C 0 std_T_hasStep_5 rfl ?_
    refine g_get C (st_sub sti_T) 0 rfl rfl 0 (by decide) (List.mem_cons_of_mem _ kw_1_25) rfl rfl std_T_hasStep_6 ?_
    refine g_icmp_ge (tgt := 16) C std_T_hasStep_9 (by decide) ⟨by omega, by omega⟩ ⟨by omega, by omega⟩ (fun c2 => ?_) (fun c2 => ?_)
    · refine g_iconst C std_T_hasStep_16 ?_
      exact hret _ _ _ () (by rw [bI_f (by omega)]) (by decide) std_T_hasStep_17
    · refine g_iconst C std_T_hasStep_12 ?_
      refine g_goto (tgt := 17) C std_T_hasStep_13 (by decide) ?_
      exact hret _ _ _ () (by rw [bI_t (by omega)]) (by decide) std_T_hasStep_17

abbrev sty_T_hasChoice : MethodName := ⟨"StateTables$Told", "hasChoice", "(II)Z"⟩
abbrev stc_T_hasChoice : ByteArray := prog_5_method_3_code
theorem sth_T_hasChoice : (sty_T_hasChoice).cls ≠ "java/lang/invoke/MethodHandle" ∧ (sty_T_hasChoice).cls ≠ "java/lang/invoke/VarHandle" ∧ (parseMethodDescriptor (sty_T_hasChoice).desc).map (fun d => d.parameters.length) = some 2 := by decide +kernel
theorem std_T_hasChoice_0 : decode stc_T_hasChoice 0 = .ok (.aload_n 0, 1) := by decide +kernel
theorem std_T_hasChoice_1 : decode stc_T_hasChoice 1 = .ok (.iload_n 1, 1) := by decide +kernel
theorem std_T_hasChoice_2 : decode stc_T_hasChoice 2 = .ok (.invokevirtual 37, 3) := by decide +kernel
theorem kw_1_221 : Cond.code sty_T_hasStep stc_T_hasStep 2 (some .boolean) ∈ stGW := st_t1 (List.mem_of_getElem? (i := 221) (by decide +kernel)) (by decide +kernel)
theorem kw_1_2 : Cond.initialized "StateTables$Told" ∈ stGW := st_t1 (List.mem_of_getElem? (i := 2) (by decide +kernel)) (by decide +kernel)
theorem kw_2_4 : Cond.methodLink "StateTables$Told" 37 (sty_T_hasStep) ∈ stGW := st_t2 (List.mem_of_getElem? (i := 4) (by decide +kernel)) (by decide +kernel)
theorem kw_1_219 : Cond.instanceMethod (sty_T_hasStep) ∈ stGW := st_t1 (List.mem_of_getElem? (i := 219) (by decide +kernel)) (by decide +kernel)
theorem kw_1_220 : Cond.selects "StateTables$Told" (sty_T_hasStep) (sty_T_hasStep) ∈ stGW := st_t1 (List.mem_of_getElem? (i := 220) (by decide +kernel)) (by decide +kernel)
theorem std_T_hasChoice_5 : decode stc_T_hasChoice 5 = .ok (.ifCond .eq 21, 3) := by decide +kernel
theorem std_T_hasChoice_26 : decode stc_T_hasChoice 26 = .ok (.iconst 0, 1) := by decide +kernel
theorem std_T_hasChoice_27 : decode stc_T_hasChoice 27 = .ok (.ireturn, 1) := by decide +kernel
theorem std_T_hasChoice_8 : decode stc_T_hasChoice 8 = .ok (.iload_n 2, 1) := by decide +kernel
theorem std_T_hasChoice_9 : decode stc_T_hasChoice 9 = .ok (.ifCond .lt 17, 3) := by decide +kernel
theorem std_T_hasChoice_12 : decode stc_T_hasChoice 12 = .ok (.iload_n 2, 1) := by decide +kernel
theorem std_T_hasChoice_13 : decode stc_T_hasChoice 13 = .ok (.aload_n 0, 1) := by decide +kernel
theorem std_T_hasChoice_14 : decode stc_T_hasChoice 14 = .ok (.getfield 9, 3) := by decide +kernel
theorem kw_1_33 : Cond.fieldLink "StateTables$Told" 9 "StateTables$Told" "sizes" "[I" ∈ stGW := st_t1 (List.mem_of_getElem? (i := 33) (by decide +kernel)) (by decide +kernel)
theorem std_T_hasChoice_17 : decode stc_T_hasChoice 17 = .ok (.iload_n 1, 1) := by decide +kernel
theorem std_T_hasChoice_18 : decode stc_T_hasChoice 18 = .ok (.iaload, 1) := by decide +kernel
theorem std_T_hasChoice_19 : decode stc_T_hasChoice 19 = .ok (.if_icmp .ge 7, 3) := by decide +kernel
theorem std_T_hasChoice_22 : decode stc_T_hasChoice 22 = .ok (.iconst 1, 1) := by decide +kernel
theorem std_T_hasChoice_23 : decode stc_T_hasChoice 23 = .ok (.goto 4, 3) := by decide +kernel
set_option maxHeartbeats 4000000 in
set_option maxRecDepth 100000 in
theorem c_hasChoice (l : Launch) (dC : Nat → ClassId) (dI : Nat → Nat → Nat) (cI cJ cZ : ClassId) (t0 : Nat) (hs : Nat) (hc : Nat) (hf : Nat) (hg : Nat) (hb : Nat) (he : Nat) (hm : Nat) (steps : Int) (choices : Int) (bars : Int) (fsz : Int → Int) (a : Int) (b : Int) (kst : 0 ≤ steps ∧ steps ≤ 12) (ksz : ∀ j, 0 ≤ j → j < 12 → 0 ≤ fsz j ∧ fsz j ≤ 6) (ka : rI a) (kb : rI b) : ∀ sz, Met l sty_T_hasChoice (Cond.code sty_T_hasChoice stc_T_hasChoice 3 (some .boolean) :: stGW) ({ frames := 1, cells := 0, slots := 0, locals := 21 } : Room) (va_Pc [.ref t0, .int (iI a), .int (iI b)] (zPre (dC, dI) stCl [(cI, .int), (cJ, .long), (cZ, .boolean)] st_nw [(t0, .inr (1, [.int (iI steps), .int (iI choices), .int (iI bars), .ref hs, .ref hc, .ref hf, .ref hg, .ref hb, .ref he, .ref hm])), (hs, .inl (cI, aI 12 fsz))] sz)) (va_Qi (fun (r : Int32) (_ : Unit) => r = iI (bI ((0 ≤ a ∧ a < steps) ∧ 0 ≤ b ∧ b < fsz a))) (zPost (dC, dI) stCl [(cI, .int), (cJ, .long), (cZ, .boolean)] [(t0, .inr (1, [.int (iI steps), .int (iI choices), .int (iI bars), .ref hs, .ref hc, .ref hf, .ref hg, .ref hb, .ref he, .ref hm])), (hs, .inl (cI, aI 12 fsz))] sz (fun _ : Unit => [(t0, .inr (1, [.int (iI steps), .int (iI choices), .int (iI bars), .ref hs, .ref hc, .ref hf, .ref hg, .ref hb, .ref he, .ref hm])), (hs, .inl (cI, aI 12 fsz))])) (va_A [(t0, .inr (1, [.int (iI steps), .int (iI choices), .int (iI bars), .ref hs, .ref hc, .ref hf, .ref hg, .ref hb, .ref he, .ref hm])), (hs, .inl (cI, aI 12 fsz))] sz)) 0 0 (va_A [(t0, .inr (1, [.int (iI steps), .int (iI choices), .int (iI bars), .ref hs, .ref hc, .ref hf, .ref hg, .ref hb, .ref he, .ref hm])), (hs, .inl (cI, aI 12 fsz))] sz) := by
  refine met_z (by decide) rfl (Nat.le_of_ble_eq_true rfl) ?_
  intro p e s m below meth c A Q C hmn hret
  refine g_aload_n C 0 std_T_hasChoice_0 rfl ?_
  refine g_iload_n C 1 std_T_hasChoice_1 rfl ?_
  refine g_V_i (wc := [(t0, .inr (1, [.int (iI steps), .int (iI choices), .int (iI bars), .ref hs, .ref hc, .ref hf, .ref hg, .ref hb, .ref he, .ref hm]))]) (wr := [(hs, .inl (cI, aI 12 fsz))]) (rest := []) C (c_hasStep l dC dI cI cJ cZ t0 hs hc hf hg hb he hm steps choices bars a (by omega) (by omega)) (st_cV C kw_1_221 kw_2_4 kw_1_2 kw_1_219 kw_1_220 sth_T_hasStep ⟨Nat.le_of_ble_eq_true rfl, Nat.le_of_ble_eq_true rfl⟩) 0 rfl rfl rfl rfl (Nat.le_of_ble_eq_true rfl) std_T_hasChoice_2 ⟨Nat.le_of_ble_eq_true rfl, Nat.le_of_ble_eq_true rfl⟩ [0] [1] rfl rfl rfl rfl (by decide) (fun r1 u2 h3 => ?_)
  subst h3
  refine g_ws (ws' := [(hs, .inl (cI, aI 12 fsz)), (t0, .inr (1, [.int (iI steps), .int (iI choices), .int (iI bars), .ref hs, .ref hc, .ref hf, .ref hg, .ref hb, .ref he, .ref hm]))]) rfl ?_
  refine g_ifeq_b (tgt := 26) C std_T_hasChoice_5 (by decide) (fun c4 => ?_) (fun c4 => ?_)
  · refine g_iconst C std_T_hasChoice_26 ?_
    refine g_sub (ws' := [(t0, .inr (1, [.int (iI steps), .int (iI choices), .int (iI bars), .ref hs, .ref hc, .ref hf, .ref hg, .ref hb, .ref he, .ref hm])), (hs, .inl (cI, aI 12 fsz))]) [1, 0] rfl rfl ?_
    refine g_wide (k := 0) (n := 0) (Nat.le_of_ble_eq_true rfl) (Nat.le_of_ble_eq_true rfl) ?_
    exact hret _ _ _ () (by rw [bI_f (by omega)]) (by decide) std_T_hasChoice_27
  · refine g_iload_n C 2 std_T_hasChoice_8 rfl ?_
    refine g_if_lt (tgt := 26) C std_T_hasChoice_9 (by decide) ⟨by omega, by omega⟩ (fun c5 => ?_) (fun c5 => ?_)
    · refine g_iconst C std_T_hasChoice_26 ?_
      refine g_sub (ws' := [(t0, .inr (1, [.int (iI steps), .int (iI choices), .int (iI bars), .ref hs, .ref hc, .ref hf, .ref hg, .ref hb, .ref he, .ref hm])), (hs, .inl (cI, aI 12 fsz))]) [1, 0] rfl rfl ?_
      refine g_wide (k := 0) (n := 0) (Nat.le_of_ble_eq_true rfl) (Nat.le_of_ble_eq_true rfl) ?_
      exact hret _ _ _ () (by rw [bI_f (by omega)]) (by decide) std_T_hasChoice_27
    · refine g_iload_n C 2 std_T_hasChoice_12 rfl ?_
      refine g_aload_n C 0 std_T_hasChoice_13 rfl ?_
      refine g_get C (st_sub sti_T) 1 rfl rfl 3 (by decide) (List.mem_cons_of_mem _ kw_1_33) rfl rfl std_T_hasChoice_14 ?_
      refine g_iload_n C 1 std_T_hasChoice_17 rfl ?_
      refine g_iald C 0 0 rfl rfl (by omega) (by omega) (by omega) std_T_hasChoice_18 ?_
      have hq := ksz a (by omega) (by omega)
      refine g_icmp_ge (tgt := 26) C std_T_hasChoice_19 (by decide) ⟨by omega, by omega⟩ ⟨by omega, by omega⟩ (fun c6 => ?_) (fun c6 => ?_)
      · refine g_iconst C std_T_hasChoice_26 ?_
        refine g_sub (ws' := [(t0, .inr (1, [.int (iI steps), .int (iI choices), .int (iI bars), .ref hs, .ref hc, .ref hf, .ref hg, .ref hb, .ref he, .ref hm])), (hs, .inl (cI, aI 12 fsz))]) [1, 0] rfl rfl ?_
        refine g_wide (k := 0) (n := 0) (Nat.le_of_ble_eq_true rfl) (Nat.le_of_ble_eq_true rfl) ?_
        exact hret _ _ _ () (by rw [bI_f (by omega)]) (by decide) std_T_hasChoice_27
      · refine g_iconst C std_T_hasChoice_22 ?_
        refine g_goto (tgt := 27) C std_T_hasChoice_23 (by decide) ?_
        refine g_sub (ws' := [(t0, .inr (1, [.int (iI steps), .int (iI choices), .int (iI bars), .ref hs, .ref hc, .ref hf, .ref hg, .ref hb, .ref he, .ref hm])), (hs, .inl (cI, aI 12 fsz))]) [1, 0] rfl rfl ?_
        refine g_wide (k := 0) (n := 0) (Nat.le_of_ble_eq_true rfl) (Nat.le_of_ble_eq_true rfl) ?_
        exact hret _ _ _ () (by rw [bI_t (by omega)]) (by decide) std_T_hasChoice_27

abbrev sty_T_isWithinMost : MethodName := ⟨"StateTables$Told", "isWithinMost", "(II)Z"⟩
abbrev stc_T_isWithinMost : ByteArray := prog_5_method_9_code
theorem sth_T_isWithinMost : (sty_T_isWithinMost).cls ≠ "java/lang/invoke/MethodHandle" ∧ (sty_T_isWithinMost).cls ≠ "java/lang/invoke/VarHandle" ∧ (parseMethodDescriptor (sty_T_isWithinMost).desc).map (fun d => d.parameters.length) = some 2 := by decide +kernel
theorem std_T_isWithinMost_0 : decode stc_T_isWithinMost 0 = .ok (.iload_n 1, 1) := by decide +kernel
theorem std_T_isWithinMost_1 : decode stc_T_isWithinMost 1 = .ok (.aload_n 0, 1) := by decide +kernel
theorem std_T_isWithinMost_2 : decode stc_T_isWithinMost 2 = .ok (.getfield 30, 3) := by decide +kernel
theorem kw_1_53 : Cond.fieldLink "StateTables$Told" 30 "StateTables$Told" "most" "[I" ∈ stGW := st_t1 (List.mem_of_getElem? (i := 53) (by decide +kernel)) (by decide +kernel)
theorem std_T_isWithinMost_5 : decode stc_T_isWithinMost 5 = .ok (.iconst 0, 1) := by decide +kernel
theorem std_T_isWithinMost_6 : decode stc_T_isWithinMost 6 = .ok (.iaload, 1) := by decide +kernel
theorem std_T_isWithinMost_7 : decode stc_T_isWithinMost 7 = .ok (.if_icmp .gt 17, 3) := by decide +kernel
theorem std_T_isWithinMost_24 : decode stc_T_isWithinMost 24 = .ok (.iconst 0, 1) := by decide +kernel
theorem std_T_isWithinMost_25 : decode stc_T_isWithinMost 25 = .ok (.ireturn, 1) := by decide +kernel
theorem std_T_isWithinMost_10 : decode stc_T_isWithinMost 10 = .ok (.iload_n 2, 1) := by decide +kernel
theorem std_T_isWithinMost_11 : decode stc_T_isWithinMost 11 = .ok (.aload_n 0, 1) := by decide +kernel
theorem std_T_isWithinMost_12 : decode stc_T_isWithinMost 12 = .ok (.getfield 30, 3) := by decide +kernel
theorem std_T_isWithinMost_15 : decode stc_T_isWithinMost 15 = .ok (.iconst 1, 1) := by decide +kernel
theorem std_T_isWithinMost_16 : decode stc_T_isWithinMost 16 = .ok (.iaload, 1) := by decide +kernel
theorem std_T_isWithinMost_17 : decode stc_T_isWithinMost 17 = .ok (.if_icmp .gt 7, 3) := by decide +kernel
theorem std_T_isWithinMost_20 : decode stc_T_isWithinMost 20 = .ok (.iconst 1, 1) := by decide +kernel
theorem std_T_isWithinMost_21 : decode stc_T_isWithinMost 21 = .ok (.goto 4, 3) := by decide +kernel
set_option maxHeartbeats 4000000 in
set_option maxRecDepth 100000 in
theorem c_isWithinMost (l : Launch) (dC : Nat → ClassId) (dI : Nat → Nat → Nat) (cI cJ cZ : ClassId) (t0 : Nat) (hs : Nat) (hc : Nat) (hf : Nat) (hg : Nat) (hb : Nat) (he : Nat) (hm : Nat) (steps : Int) (choices : Int) (bars : Int) (fmo : Int → Int) (a : Int) (b : Int) (kmo : ∀ j, 0 ≤ j → j < 2 → 0 ≤ fmo j ∧ fmo j ≤ 40) (ka : rI a) (kb : rI b) : ∀ sz, Met l sty_T_isWithinMost (Cond.code sty_T_isWithinMost stc_T_isWithinMost 3 (some .boolean) :: stGW) ({ frames := 0, cells := 0, slots := 0, locals := 0 } : Room) (va_Pc [.ref t0, .int (iI a), .int (iI b)] (zPre (dC, dI) stCl [(cI, .int), (cJ, .long), (cZ, .boolean)] st_nw [(t0, .inr (1, [.int (iI steps), .int (iI choices), .int (iI bars), .ref hs, .ref hc, .ref hf, .ref hg, .ref hb, .ref he, .ref hm])), (hm, .inl (cI, aI 2 fmo))] sz)) (va_Qi (fun (r : Int32) (_ : Unit) => r = iI (bI (a ≤ fmo 0 ∧ b ≤ fmo 1))) (zPost (dC, dI) stCl [(cI, .int), (cJ, .long), (cZ, .boolean)] [(t0, .inr (1, [.int (iI steps), .int (iI choices), .int (iI bars), .ref hs, .ref hc, .ref hf, .ref hg, .ref hb, .ref he, .ref hm])), (hm, .inl (cI, aI 2 fmo))] sz (fun _ : Unit => [(t0, .inr (1, [.int (iI steps), .int (iI choices), .int (iI bars), .ref hs, .ref hc, .ref hf, .ref hg, .ref hb, .ref he, .ref hm])), (hm, .inl (cI, aI 2 fmo))])) (va_A [(t0, .inr (1, [.int (iI steps), .int (iI choices), .int (iI bars), .ref hs, .ref hc, .ref hf, .ref hg, .ref hb, .ref he, .ref hm])), (hm, .inl (cI, aI 2 fmo))] sz)) 0 0 (va_A [(t0, .inr (1, [.int (iI steps), .int (iI choices), .int (iI bars), .ref hs, .ref hc, .ref hf, .ref hg, .ref hb, .ref he, .ref hm])), (hm, .inl (cI, aI 2 fmo))] sz) := by
  refine met_z (by decide) rfl (Nat.le_of_ble_eq_true rfl) ?_
  intro p e s m below meth c A Q C hmn hret
  have hq0 := kmo 0 (by omega) (by omega)
  have hq1 := kmo 1 (by omega) (by omega)
  refine g_iload_n C 1 std_T_isWithinMost_0 rfl ?_
  refine g_aload_n C 0 std_T_isWithinMost_1 rfl ?_
  refine g_get C (st_sub sti_T) 0 rfl rfl 9 (by decide) (List.mem_cons_of_mem _ kw_1_53) rfl rfl std_T_isWithinMost_2 ?_
  refine g_iconst C std_T_isWithinMost_5 ?_
  refine g_iald C 1 0 rfl rfl (by omega) (by omega) (by omega) std_T_isWithinMost_6 ?_
  refine g_icmp_gt (tgt := 24) C std_T_isWithinMost_7 (by decide) ⟨by omega, by omega⟩ ⟨by omega, by omega⟩ (fun c1 => ?_) (fun c1 => ?_)
  · refine g_iconst C std_T_isWithinMost_24 ?_
    exact hret _ _ _ () (by rw [bI_f (by omega)]) (by decide) std_T_isWithinMost_25
  · refine g_iload_n C 2 std_T_isWithinMost_10 rfl ?_
    refine g_aload_n C 0 std_T_isWithinMost_11 rfl ?_
    refine g_get C (st_sub sti_T) 0 rfl rfl 9 (by decide) (List.mem_cons_of_mem _ kw_1_53) rfl rfl std_T_isWithinMost_12 ?_
    refine g_iconst C std_T_isWithinMost_15 ?_
    refine g_iald C 1 0 rfl rfl (by omega) (by omega) (by omega) std_T_isWithinMost_16 ?_
    refine g_icmp_gt (tgt := 24) C std_T_isWithinMost_17 (by decide) ⟨by omega, by omega⟩ ⟨by omega, by omega⟩ (fun c2 => ?_) (fun c2 => ?_)
    · refine g_iconst C std_T_isWithinMost_24 ?_
      exact hret _ _ _ () (by rw [bI_f (by omega)]) (by decide) std_T_isWithinMost_25
    · refine g_iconst C std_T_isWithinMost_20 ?_
      refine g_goto (tgt := 25) C std_T_isWithinMost_21 (by decide) ?_
      exact hret _ _ _ () (by rw [bI_t (by omega)]) (by decide) std_T_isWithinMost_25

abbrev sty_T_isEnough : MethodName := ⟨"StateTables$Told", "isEnough", "(II)Z"⟩
abbrev stc_T_isEnough : ByteArray := prog_5_method_10_code
theorem sth_T_isEnough : (sty_T_isEnough).cls ≠ "java/lang/invoke/MethodHandle" ∧ (sty_T_isEnough).cls ≠ "java/lang/invoke/VarHandle" ∧ (parseMethodDescriptor (sty_T_isEnough).desc).map (fun d => d.parameters.length) = some 2 := by decide +kernel
theorem std_T_isEnough_0 : decode stc_T_isEnough 0 = .ok (.iload_n 1, 1) := by decide +kernel
theorem std_T_isEnough_1 : decode stc_T_isEnough 1 = .ok (.aload_n 0, 1) := by decide +kernel
theorem std_T_isEnough_2 : decode stc_T_isEnough 2 = .ok (.getfield 27, 3) := by decide +kernel
theorem kw_1_51 : Cond.fieldLink "StateTables$Told" 27 "StateTables$Told" "least" "[I" ∈ stGW := st_t1 (List.mem_of_getElem? (i := 51) (by decide +kernel)) (by decide +kernel)
theorem std_T_isEnough_5 : decode stc_T_isEnough 5 = .ok (.iconst 0, 1) := by decide +kernel
theorem std_T_isEnough_6 : decode stc_T_isEnough 6 = .ok (.iaload, 1) := by decide +kernel
theorem std_T_isEnough_7 : decode stc_T_isEnough 7 = .ok (.if_icmp .lt 17, 3) := by decide +kernel
theorem std_T_isEnough_24 : decode stc_T_isEnough 24 = .ok (.iconst 0, 1) := by decide +kernel
theorem std_T_isEnough_25 : decode stc_T_isEnough 25 = .ok (.ireturn, 1) := by decide +kernel
theorem std_T_isEnough_10 : decode stc_T_isEnough 10 = .ok (.iload_n 2, 1) := by decide +kernel
theorem std_T_isEnough_11 : decode stc_T_isEnough 11 = .ok (.aload_n 0, 1) := by decide +kernel
theorem std_T_isEnough_12 : decode stc_T_isEnough 12 = .ok (.getfield 27, 3) := by decide +kernel
theorem std_T_isEnough_15 : decode stc_T_isEnough 15 = .ok (.iconst 1, 1) := by decide +kernel
theorem std_T_isEnough_16 : decode stc_T_isEnough 16 = .ok (.iaload, 1) := by decide +kernel
theorem std_T_isEnough_17 : decode stc_T_isEnough 17 = .ok (.if_icmp .lt 7, 3) := by decide +kernel
theorem std_T_isEnough_20 : decode stc_T_isEnough 20 = .ok (.iconst 1, 1) := by decide +kernel
theorem std_T_isEnough_21 : decode stc_T_isEnough 21 = .ok (.goto 4, 3) := by decide +kernel
set_option maxHeartbeats 4000000 in
set_option maxRecDepth 100000 in
theorem c_isEnough (l : Launch) (dC : Nat → ClassId) (dI : Nat → Nat → Nat) (cI cJ cZ : ClassId) (t0 : Nat) (hs : Nat) (hc : Nat) (hf : Nat) (hg : Nat) (hb : Nat) (he : Nat) (hm : Nat) (steps : Int) (choices : Int) (bars : Int) (fle : Int → Int) (a : Int) (b : Int) (kle : ∀ j, 0 ≤ j → j < 2 → 0 ≤ fle j ∧ fle j ≤ 40) (ka : rI a) (kb : rI b) : ∀ sz, Met l sty_T_isEnough (Cond.code sty_T_isEnough stc_T_isEnough 3 (some .boolean) :: stGW) ({ frames := 0, cells := 0, slots := 0, locals := 0 } : Room) (va_Pc [.ref t0, .int (iI a), .int (iI b)] (zPre (dC, dI) stCl [(cI, .int), (cJ, .long), (cZ, .boolean)] st_nw [(t0, .inr (1, [.int (iI steps), .int (iI choices), .int (iI bars), .ref hs, .ref hc, .ref hf, .ref hg, .ref hb, .ref he, .ref hm])), (he, .inl (cI, aI 2 fle))] sz)) (va_Qi (fun (r : Int32) (_ : Unit) => r = iI (bI (fle 0 ≤ a ∧ fle 1 ≤ b))) (zPost (dC, dI) stCl [(cI, .int), (cJ, .long), (cZ, .boolean)] [(t0, .inr (1, [.int (iI steps), .int (iI choices), .int (iI bars), .ref hs, .ref hc, .ref hf, .ref hg, .ref hb, .ref he, .ref hm])), (he, .inl (cI, aI 2 fle))] sz (fun _ : Unit => [(t0, .inr (1, [.int (iI steps), .int (iI choices), .int (iI bars), .ref hs, .ref hc, .ref hf, .ref hg, .ref hb, .ref he, .ref hm])), (he, .inl (cI, aI 2 fle))])) (va_A [(t0, .inr (1, [.int (iI steps), .int (iI choices), .int (iI bars), .ref hs, .ref hc, .ref hf, .ref hg, .ref hb, .ref he, .ref hm])), (he, .inl (cI, aI 2 fle))] sz)) 0 0 (va_A [(t0, .inr (1, [.int (iI steps), .int (iI choices), .int (iI bars), .ref hs, .ref hc, .ref hf, .ref hg, .ref hb, .ref he, .ref hm])), (he, .inl (cI, aI 2 fle))] sz) := by
  refine met_z (by decide) rfl (Nat.le_of_ble_eq_true rfl) ?_
  intro p e s m below meth c A Q C hmn hret
  have hq0 := kle 0 (by omega) (by omega)
  have hq1 := kle 1 (by omega) (by omega)
  refine g_iload_n C 1 std_T_isEnough_0 rfl ?_
  refine g_aload_n C 0 std_T_isEnough_1 rfl ?_
  refine g_get C (st_sub sti_T) 0 rfl rfl 8 (by decide) (List.mem_cons_of_mem _ kw_1_51) rfl rfl std_T_isEnough_2 ?_
  refine g_iconst C std_T_isEnough_5 ?_
  refine g_iald C 1 0 rfl rfl (by omega) (by omega) (by omega) std_T_isEnough_6 ?_
  refine g_icmp_lt (tgt := 24) C std_T_isEnough_7 (by decide) ⟨by omega, by omega⟩ ⟨by omega, by omega⟩ (fun c1 => ?_) (fun c1 => ?_)
  · refine g_iconst C std_T_isEnough_24 ?_
    exact hret _ _ _ () (by rw [bI_f (by omega)]) (by decide) std_T_isEnough_25
  · refine g_iload_n C 2 std_T_isEnough_10 rfl ?_
    refine g_aload_n C 0 std_T_isEnough_11 rfl ?_
    refine g_get C (st_sub sti_T) 0 rfl rfl 8 (by decide) (List.mem_cons_of_mem _ kw_1_51) rfl rfl std_T_isEnough_12 ?_
    refine g_iconst C std_T_isEnough_15 ?_
    refine g_iald C 1 0 rfl rfl (by omega) (by omega) (by omega) std_T_isEnough_16 ?_
    refine g_icmp_lt (tgt := 24) C std_T_isEnough_17 (by decide) ⟨by omega, by omega⟩ ⟨by omega, by omega⟩ (fun c2 => ?_) (fun c2 => ?_)
    · refine g_iconst C std_T_isEnough_24 ?_
      exact hret _ _ _ () (by rw [bI_f (by omega)]) (by decide) std_T_isEnough_25
    · refine g_iconst C std_T_isEnough_20 ?_
      refine g_goto (tgt := 25) C std_T_isEnough_21 (by decide) ?_
      exact hret _ _ _ () (by rw [bI_t (by omega)]) (by decide) std_T_isEnough_25

abbrev sty_T_addStep : MethodName := ⟨"StateTables$Told", "addStep", "()I"⟩
abbrev stc_T_addStep : ByteArray := prog_5_method_4_code
theorem sth_T_addStep : (sty_T_addStep).cls ≠ "java/lang/invoke/MethodHandle" ∧ (sty_T_addStep).cls ≠ "java/lang/invoke/VarHandle" ∧ (parseMethodDescriptor (sty_T_addStep).desc).map (fun d => d.parameters.length) = some 0 := by decide +kernel
theorem std_T_addStep_0 : decode stc_T_addStep 0 = .ok (.aload_n 0, 1) := by decide +kernel
theorem std_T_addStep_1 : decode stc_T_addStep 1 = .ok (.getfield 9, 3) := by decide +kernel
theorem std_T_addStep_4 : decode stc_T_addStep 4 = .ok (.aload_n 0, 1) := by decide +kernel
theorem std_T_addStep_5 : decode stc_T_addStep 5 = .ok (.getfield 33, 3) := by decide +kernel
theorem std_T_addStep_8 : decode stc_T_addStep 8 = .ok (.iconst 0, 1) := by decide +kernel
theorem std_T_addStep_9 : decode stc_T_addStep 9 = .ok (.iastore, 1) := by decide +kernel
theorem std_T_addStep_10 : decode stc_T_addStep 10 = .ok (.aload_n 0, 1) := by decide +kernel
theorem std_T_addStep_11 : decode stc_T_addStep 11 = .ok (.dup, 1) := by decide +kernel
theorem std_T_addStep_12 : decode stc_T_addStep 12 = .ok (.getfield 33, 3) := by decide +kernel
theorem std_T_addStep_15 : decode stc_T_addStep 15 = .ok (.iconst 1, 1) := by decide +kernel
theorem std_T_addStep_16 : decode stc_T_addStep 16 = .ok (.iadd, 1) := by decide +kernel
theorem std_T_addStep_17 : decode stc_T_addStep 17 = .ok (.putfield 33, 3) := by decide +kernel
theorem std_T_addStep_20 : decode stc_T_addStep 20 = .ok (.aload_n 0, 1) := by decide +kernel
theorem std_T_addStep_21 : decode stc_T_addStep 21 = .ok (.getfield 33, 3) := by decide +kernel
theorem std_T_addStep_24 : decode stc_T_addStep 24 = .ok (.iconst 1, 1) := by decide +kernel
theorem std_T_addStep_25 : decode stc_T_addStep 25 = .ok (.isub, 1) := by decide +kernel
theorem std_T_addStep_26 : decode stc_T_addStep 26 = .ok (.ireturn, 1) := by decide +kernel
set_option maxHeartbeats 4000000 in
set_option maxRecDepth 100000 in
theorem c_addStep (l : Launch) (dC : Nat → ClassId) (dI : Nat → Nat → Nat) (cI cJ cZ : ClassId) (t0 : Nat) (hs : Nat) (hc : Nat) (hf : Nat) (hg : Nat) (hb : Nat) (he : Nat) (hm : Nat) (steps : Int) (choices : Int) (bars : Int) (fsz : Int → Int) (kst : 0 ≤ steps ∧ steps < 12) : ∀ sz, Met l sty_T_addStep (Cond.code sty_T_addStep stc_T_addStep 1 (some .int) :: stGW) ({ frames := 0, cells := 0, slots := 0, locals := 0 } : Room) (va_Pc [.ref t0] (zPre (dC, dI) stCl [(cI, .int), (cJ, .long), (cZ, .boolean)] st_nw [(t0, .inr (1, [.int (iI steps), .int (iI choices), .int (iI bars), .ref hs, .ref hc, .ref hf, .ref hg, .ref hb, .ref he, .ref hm])), (hs, .inl (cI, aI 12 fsz))] sz)) (va_Qi (fun (r : Int32) (_ : Unit) => r = iI ((steps + 1) - 1)) (zPost (dC, dI) stCl [(cI, .int), (cJ, .long), (cZ, .boolean)] [(t0, .inr (1, [.int (iI steps), .int (iI choices), .int (iI bars), .ref hs, .ref hc, .ref hf, .ref hg, .ref hb, .ref he, .ref hm])), (hs, .inl (cI, aI 12 fsz))] sz (fun _ : Unit => [(t0, .inr (1, [.int (iI (steps + 1)), .int (iI choices), .int (iI bars), .ref hs, .ref hc, .ref hf, .ref hg, .ref hb, .ref he, .ref hm])), (hs, .inl (cI, aI 12 (uZ fsz steps 0)))])) (va_A [(t0, .inr (1, [.int (iI steps), .int (iI choices), .int (iI bars), .ref hs, .ref hc, .ref hf, .ref hg, .ref hb, .ref he, .ref hm])), (hs, .inl (cI, aI 12 fsz))] sz)) 0 0 (va_A [(t0, .inr (1, [.int (iI steps), .int (iI choices), .int (iI bars), .ref hs, .ref hc, .ref hf, .ref hg, .ref hb, .ref he, .ref hm])), (hs, .inl (cI, aI 12 fsz))] sz) := by
  refine met_i (by decide) rfl (Nat.le_of_ble_eq_true rfl) ?_
  intro p e s m below meth c A Q C hmn hret
  refine g_aload_n C 0 std_T_addStep_0 rfl ?_
  refine g_get C (st_sub sti_T) 0 rfl rfl 3 (by decide) (List.mem_cons_of_mem _ kw_1_33) rfl rfl std_T_addStep_1 ?_
  refine g_aload_n C 0 std_T_addStep_4 rfl ?_
  refine g_get C (st_sub sti_T) 0 rfl rfl 0 (by decide) (List.mem_cons_of_mem _ kw_1_25) rfl rfl std_T_addStep_5 ?_
  refine g_iconst C std_T_addStep_8 ?_
  refine g_iast C (ws' := [(t0, .inr (1, [.int (iI steps), .int (iI choices), .int (iI bars), .ref hs, .ref hc, .ref hf, .ref hg, .ref hb, .ref he, .ref hm])), (hs, .inl (cI, aI 12 (uZ fsz steps 0)))]) 1 0 rfl rfl (by omega) (by omega) (by omega) std_T_addStep_9 rfl ?_
  refine g_aload_n C 0 std_T_addStep_10 rfl ?_
  refine g_dup C std_T_addStep_11 rfl ?_
  refine g_get C (st_sub sti_T) 0 rfl rfl 0 (by decide) (List.mem_cons_of_mem _ kw_1_25) rfl rfl std_T_addStep_12 ?_
  refine g_iconst C std_T_addStep_15 ?_
  refine g_iadd C std_T_addStep_16 ?_
  refine g_put C (ws' := [(t0, .inr (1, [.int (iI (steps + 1)), .int (iI choices), .int (iI bars), .ref hs, .ref hc, .ref hf, .ref hg, .ref hb, .ref he, .ref hm])), (hs, .inl (cI, aI 12 (uZ fsz steps 0)))]) (st_sub sti_T) stt_T sto_T stn_T 0 rfl rfl 0 (by decide) (List.mem_cons_of_mem _ kw_1_25) rfl rfl rfl rfl (Nat.le_of_ble_eq_true rfl) std_T_addStep_17 rfl ?_
  refine g_aload_n C 0 std_T_addStep_20 rfl ?_
  refine g_get C (st_sub sti_T) 0 rfl rfl 0 (by decide) (List.mem_cons_of_mem _ kw_1_25) rfl rfl std_T_addStep_21 ?_
  refine g_iconst C std_T_addStep_24 ?_
  refine g_isub C std_T_addStep_25 ?_
  exact hret _ _ _ () (rfl) std_T_addStep_26

abbrev sty_T_addChoice : MethodName := ⟨"StateTables$Told", "addChoice", "(IIII)I"⟩
abbrev stc_T_addChoice : ByteArray := prog_5_method_5_code
theorem sth_T_addChoice : (sty_T_addChoice).cls ≠ "java/lang/invoke/MethodHandle" ∧ (sty_T_addChoice).cls ≠ "java/lang/invoke/VarHandle" ∧ (parseMethodDescriptor (sty_T_addChoice).desc).map (fun d => d.parameters.length) = some 4 := by decide +kernel
theorem std_T_addChoice_0 : decode stc_T_addChoice 0 = .ok (.aload_n 0, 1) := by decide +kernel
theorem std_T_addChoice_1 : decode stc_T_addChoice 1 = .ok (.getfield 9, 3) := by decide +kernel
theorem std_T_addChoice_4 : decode stc_T_addChoice 4 = .ok (.iload_n 1, 1) := by decide +kernel
theorem std_T_addChoice_5 : decode stc_T_addChoice 5 = .ok (.iaload, 1) := by decide +kernel
theorem std_T_addChoice_6 : decode stc_T_addChoice 6 = .ok (.istore 5, 2) := by decide +kernel
theorem std_T_addChoice_8 : decode stc_T_addChoice 8 = .ok (.iload_n 1, 1) := by decide +kernel
theorem std_T_addChoice_9 : decode stc_T_addChoice 9 = .ok (.iload 5, 2) := by decide +kernel
theorem std_T_addChoice_11 : decode stc_T_addChoice 11 = .ok (.invokestatic 41, 3) := by decide +kernel
theorem kw_1_235 : Cond.code sty_S_placeOf stc_S_placeOf 2 (some .int) ∈ stGW := st_t1 (List.mem_of_getElem? (i := 235) (by decide +kernel)) (by decide +kernel)
theorem kw_1_1 : Cond.initialized "StateTables" ∈ stGW := st_t1 (List.mem_of_getElem? (i := 1) (by decide +kernel)) (by decide +kernel)
theorem kw_1_234 : Cond.static (sty_S_placeOf) ∈ stGW := st_t1 (List.mem_of_getElem? (i := 234) (by decide +kernel)) (by decide +kernel)
theorem std_T_addChoice_14 : decode stc_T_addChoice 14 = .ok (.istore 6, 2) := by decide +kernel
theorem std_T_addChoice_16 : decode stc_T_addChoice 16 = .ok (.aload_n 0, 1) := by decide +kernel
theorem std_T_addChoice_17 : decode stc_T_addChoice 17 = .ok (.getfield 15, 3) := by decide +kernel
theorem kw_1_38 : Cond.fieldLink "StateTables$Told" 15 "StateTables$Told" "costs" "[I" ∈ stGW := st_t1 (List.mem_of_getElem? (i := 38) (by decide +kernel)) (by decide +kernel)
theorem std_T_addChoice_20 : decode stc_T_addChoice 20 = .ok (.iload 6, 2) := by decide +kernel
theorem std_T_addChoice_22 : decode stc_T_addChoice 22 = .ok (.iload_n 2, 1) := by decide +kernel
theorem std_T_addChoice_23 : decode stc_T_addChoice 23 = .ok (.iastore, 1) := by decide +kernel
theorem std_T_addChoice_24 : decode stc_T_addChoice 24 = .ok (.aload_n 0, 1) := by decide +kernel
theorem std_T_addChoice_25 : decode stc_T_addChoice 25 = .ok (.getfield 18, 3) := by decide +kernel
theorem kw_1_42 : Cond.fieldLink "StateTables$Told" 18 "StateTables$Told" "firstUses" "[I" ∈ stGW := st_t1 (List.mem_of_getElem? (i := 42) (by decide +kernel)) (by decide +kernel)
theorem std_T_addChoice_28 : decode stc_T_addChoice 28 = .ok (.iload 6, 2) := by decide +kernel
theorem std_T_addChoice_30 : decode stc_T_addChoice 30 = .ok (.iload_n 3, 1) := by decide +kernel
theorem std_T_addChoice_31 : decode stc_T_addChoice 31 = .ok (.iastore, 1) := by decide +kernel
theorem std_T_addChoice_32 : decode stc_T_addChoice 32 = .ok (.aload_n 0, 1) := by decide +kernel
theorem std_T_addChoice_33 : decode stc_T_addChoice 33 = .ok (.getfield 21, 3) := by decide +kernel
theorem kw_1_45 : Cond.fieldLink "StateTables$Told" 21 "StateTables$Told" "secondUses" "[I" ∈ stGW := st_t1 (List.mem_of_getElem? (i := 45) (by decide +kernel)) (by decide +kernel)
theorem std_T_addChoice_36 : decode stc_T_addChoice 36 = .ok (.iload 6, 2) := by decide +kernel
theorem std_T_addChoice_38 : decode stc_T_addChoice 38 = .ok (.iload 4, 2) := by decide +kernel
theorem std_T_addChoice_40 : decode stc_T_addChoice 40 = .ok (.iastore, 1) := by decide +kernel
theorem std_T_addChoice_41 : decode stc_T_addChoice 41 = .ok (.aload_n 0, 1) := by decide +kernel
theorem std_T_addChoice_42 : decode stc_T_addChoice 42 = .ok (.getfield 9, 3) := by decide +kernel
theorem std_T_addChoice_45 : decode stc_T_addChoice 45 = .ok (.iload_n 1, 1) := by decide +kernel
theorem std_T_addChoice_46 : decode stc_T_addChoice 46 = .ok (.dup2, 1) := by decide +kernel
theorem std_T_addChoice_47 : decode stc_T_addChoice 47 = .ok (.iaload, 1) := by decide +kernel
theorem std_T_addChoice_48 : decode stc_T_addChoice 48 = .ok (.iconst 1, 1) := by decide +kernel
theorem std_T_addChoice_49 : decode stc_T_addChoice 49 = .ok (.iadd, 1) := by decide +kernel
theorem std_T_addChoice_50 : decode stc_T_addChoice 50 = .ok (.iastore, 1) := by decide +kernel
theorem std_T_addChoice_51 : decode stc_T_addChoice 51 = .ok (.aload_n 0, 1) := by decide +kernel
theorem std_T_addChoice_52 : decode stc_T_addChoice 52 = .ok (.dup, 1) := by decide +kernel
theorem std_T_addChoice_53 : decode stc_T_addChoice 53 = .ok (.getfield 45, 3) := by decide +kernel
theorem kw_1_29 : Cond.fieldLink "StateTables$Told" 45 "StateTables$Told" "choices" "I" ∈ stGW := st_t1 (List.mem_of_getElem? (i := 29) (by decide +kernel)) (by decide +kernel)
theorem std_T_addChoice_56 : decode stc_T_addChoice 56 = .ok (.iconst 1, 1) := by decide +kernel
theorem std_T_addChoice_57 : decode stc_T_addChoice 57 = .ok (.iadd, 1) := by decide +kernel
theorem std_T_addChoice_58 : decode stc_T_addChoice 58 = .ok (.putfield 45, 3) := by decide +kernel
theorem std_T_addChoice_61 : decode stc_T_addChoice 61 = .ok (.iload 5, 2) := by decide +kernel
theorem std_T_addChoice_63 : decode stc_T_addChoice 63 = .ok (.ireturn, 1) := by decide +kernel
set_option maxHeartbeats 4000000 in
set_option maxRecDepth 100000 in
theorem c_addChoice (l : Launch) (dC : Nat → ClassId) (dI : Nat → Nat → Nat) (cI cJ cZ : ClassId) (t0 : Nat) (hs : Nat) (hc : Nat) (hf : Nat) (hg : Nat) (hb : Nat) (he : Nat) (hm : Nat) (steps : Int) (choices : Int) (bars : Int) (fsz : Int → Int) (fco : Int → Int) (ffu : Int → Int) (fsu : Int → Int) (a : Int) (x : Int) (y : Int) (z : Int) (ka : 0 ≤ a ∧ a < 12) (ksa : 0 ≤ fsz a ∧ fsz a < 6) : ∀ sz, Met l sty_T_addChoice (Cond.code sty_T_addChoice stc_T_addChoice 7 (some .int) :: stGW) ({ frames := 1, cells := 0, slots := 0, locals := 21 } : Room) (va_Pc [.ref t0, .int (iI a), .int (iI x), .int (iI y), .int (iI z)] (zPre (dC, dI) stCl [(cI, .int), (cJ, .long), (cZ, .boolean)] st_nw [(t0, .inr (1, [.int (iI steps), .int (iI choices), .int (iI bars), .ref hs, .ref hc, .ref hf, .ref hg, .ref hb, .ref he, .ref hm])), (hs, .inl (cI, aI 12 fsz)), (hc, .inl (cI, aI 72 fco)), (hf, .inl (cI, aI 72 ffu)), (hg, .inl (cI, aI 72 fsu))] sz)) (va_Qi (fun (r : Int32) (_ : Unit) => r = iI (fsz a)) (zPost (dC, dI) stCl [(cI, .int), (cJ, .long), (cZ, .boolean)] [(t0, .inr (1, [.int (iI steps), .int (iI choices), .int (iI bars), .ref hs, .ref hc, .ref hf, .ref hg, .ref hb, .ref he, .ref hm])), (hs, .inl (cI, aI 12 fsz)), (hc, .inl (cI, aI 72 fco)), (hf, .inl (cI, aI 72 ffu)), (hg, .inl (cI, aI 72 fsu))] sz (fun _ : Unit => [(t0, .inr (1, [.int (iI steps), .int (iI (choices + 1)), .int (iI bars), .ref hs, .ref hc, .ref hf, .ref hg, .ref hb, .ref he, .ref hm])), (hs, .inl (cI, aI 12 (uZ fsz a ((fsz a) + 1)))), (hc, .inl (cI, aI 72 (uZ fco ((a * 6) + (fsz a)) x))), (hf, .inl (cI, aI 72 (uZ ffu ((a * 6) + (fsz a)) y))), (hg, .inl (cI, aI 72 (uZ fsu ((a * 6) + (fsz a)) z)))])) (va_A [(t0, .inr (1, [.int (iI steps), .int (iI choices), .int (iI bars), .ref hs, .ref hc, .ref hf, .ref hg, .ref hb, .ref he, .ref hm])), (hs, .inl (cI, aI 12 fsz)), (hc, .inl (cI, aI 72 fco)), (hf, .inl (cI, aI 72 ffu)), (hg, .inl (cI, aI 72 fsu))] sz)) 0 0 (va_A [(t0, .inr (1, [.int (iI steps), .int (iI choices), .int (iI bars), .ref hs, .ref hc, .ref hf, .ref hg, .ref hb, .ref he, .ref hm])), (hs, .inl (cI, aI 12 fsz)), (hc, .inl (cI, aI 72 fco)), (hf, .inl (cI, aI 72 ffu)), (hg, .inl (cI, aI 72 fsu))] sz) := by
  refine met_i (by decide) rfl (Nat.le_of_ble_eq_true rfl) ?_
  intro p e s m below meth c A Q C hmn hret
  refine g_aload_n C 0 std_T_addChoice_0 rfl ?_
  refine g_get C (st_sub sti_T) 0 rfl rfl 3 (by decide) (List.mem_cons_of_mem _ kw_1_33) rfl rfl std_T_addChoice_1 ?_
  refine g_iload_n C 1 std_T_addChoice_4 rfl ?_
  refine g_iald C 1 0 rfl rfl (by omega) (by omega) (by omega) std_T_addChoice_5 ?_
  refine g_istore C (lv' := [(5, .int (iI (fsz a))), (0, .ref t0), (1, .int (iI a)), (2, .int (iI x)), (3, .int (iI y)), (4, .int (iI z))]) std_T_addChoice_6 (by decide) rfl ?_
  refine g_iload_n C 2 std_T_addChoice_8 rfl ?_
  refine g_iload C 0 std_T_addChoice_9 rfl ?_
  refine g_SN_i (wc := []) (wr := [(t0, .inr (1, [.int (iI steps), .int (iI choices), .int (iI bars), .ref hs, .ref hc, .ref hf, .ref hg, .ref hb, .ref he, .ref hm])), (hs, .inl (cI, aI 12 fsz)), (hc, .inl (cI, aI 72 fco)), (hf, .inl (cI, aI 72 ffu)), (hg, .inl (cI, aI 72 fsu))]) (rest := []) C (c_placeOf l dC dI cI cJ cZ a (fsz a) ) (st_cSN C kw_1_235 (List.mem_of_getElem? (i := 1) rfl) kw_1_1 kw_1_234 sth_S_placeOf ⟨Nat.le_of_ble_eq_true rfl, Nat.le_of_ble_eq_true rfl⟩) rfl rfl (Nat.le_of_ble_eq_true rfl) std_T_addChoice_11 ⟨Nat.le_of_ble_eq_true rfl, Nat.le_of_ble_eq_true rfl⟩ [] [0, 1, 2, 3, 4] rfl rfl rfl rfl (by decide) (fun r1 u2 h3 => ?_)
  subst h3
  refine g_ws (ws' := [(t0, .inr (1, [.int (iI steps), .int (iI choices), .int (iI bars), .ref hs, .ref hc, .ref hf, .ref hg, .ref hb, .ref he, .ref hm])), (hs, .inl (cI, aI 12 fsz)), (hc, .inl (cI, aI 72 fco)), (hf, .inl (cI, aI 72 ffu)), (hg, .inl (cI, aI 72 fsu))]) rfl ?_
  refine g_istore C (lv' := [(6, .int (iI ((a * 6) + (fsz a)))), (5, .int (iI (fsz a))), (0, .ref t0), (1, .int (iI a)), (2, .int (iI x)), (3, .int (iI y)), (4, .int (iI z))]) std_T_addChoice_14 (by decide) rfl ?_
  refine g_aload_n C 2 std_T_addChoice_16 rfl ?_
  refine g_get C (st_sub sti_T) 0 rfl rfl 4 (by decide) (List.mem_cons_of_mem _ kw_1_38) rfl rfl std_T_addChoice_17 ?_
  refine g_iload C 0 std_T_addChoice_20 rfl ?_
  refine g_iload_n C 4 std_T_addChoice_22 rfl ?_
  refine g_iast C (ws' := [(t0, .inr (1, [.int (iI steps), .int (iI choices), .int (iI bars), .ref hs, .ref hc, .ref hf, .ref hg, .ref hb, .ref he, .ref hm])), (hs, .inl (cI, aI 12 fsz)), (hc, .inl (cI, aI 72 (uZ fco ((a * 6) + (fsz a)) x))), (hf, .inl (cI, aI 72 ffu)), (hg, .inl (cI, aI 72 fsu))]) 2 0 rfl rfl (by omega) (by omega) (by omega) std_T_addChoice_23 rfl ?_
  refine g_aload_n C 2 std_T_addChoice_24 rfl ?_
  refine g_get C (st_sub sti_T) 0 rfl rfl 5 (by decide) (List.mem_cons_of_mem _ kw_1_42) rfl rfl std_T_addChoice_25 ?_
  refine g_iload C 0 std_T_addChoice_28 rfl ?_
  refine g_iload_n C 5 std_T_addChoice_30 rfl ?_
  refine g_iast C (ws' := [(t0, .inr (1, [.int (iI steps), .int (iI choices), .int (iI bars), .ref hs, .ref hc, .ref hf, .ref hg, .ref hb, .ref he, .ref hm])), (hs, .inl (cI, aI 12 fsz)), (hc, .inl (cI, aI 72 (uZ fco ((a * 6) + (fsz a)) x))), (hf, .inl (cI, aI 72 (uZ ffu ((a * 6) + (fsz a)) y))), (hg, .inl (cI, aI 72 fsu))]) 3 0 rfl rfl (by omega) (by omega) (by omega) std_T_addChoice_31 rfl ?_
  refine g_aload_n C 2 std_T_addChoice_32 rfl ?_
  refine g_get C (st_sub sti_T) 0 rfl rfl 6 (by decide) (List.mem_cons_of_mem _ kw_1_45) rfl rfl std_T_addChoice_33 ?_
  refine g_iload C 0 std_T_addChoice_36 rfl ?_
  refine g_iload C 6 std_T_addChoice_38 rfl ?_
  refine g_iast C (ws' := [(t0, .inr (1, [.int (iI steps), .int (iI choices), .int (iI bars), .ref hs, .ref hc, .ref hf, .ref hg, .ref hb, .ref he, .ref hm])), (hs, .inl (cI, aI 12 fsz)), (hc, .inl (cI, aI 72 (uZ fco ((a * 6) + (fsz a)) x))), (hf, .inl (cI, aI 72 (uZ ffu ((a * 6) + (fsz a)) y))), (hg, .inl (cI, aI 72 (uZ fsu ((a * 6) + (fsz a)) z)))]) 4 0 rfl rfl (by omega) (by omega) (by omega) std_T_addChoice_40 rfl ?_
  refine g_aload_n C 2 std_T_addChoice_41 rfl ?_
  refine g_get C (st_sub sti_T) 0 rfl rfl 3 (by decide) (List.mem_cons_of_mem _ kw_1_33) rfl rfl std_T_addChoice_42 ?_
  refine g_iload_n C 3 std_T_addChoice_45 rfl ?_
  refine g_dup2 C std_T_addChoice_46 rfl rfl ?_
  refine g_iald C 1 0 rfl rfl (by omega) (by omega) (by omega) std_T_addChoice_47 ?_
  refine g_iconst C std_T_addChoice_48 ?_
  refine g_iadd C std_T_addChoice_49 ?_
  refine g_iast C (ws' := [(t0, .inr (1, [.int (iI steps), .int (iI choices), .int (iI bars), .ref hs, .ref hc, .ref hf, .ref hg, .ref hb, .ref he, .ref hm])), (hs, .inl (cI, aI 12 (uZ fsz a ((fsz a) + 1)))), (hc, .inl (cI, aI 72 (uZ fco ((a * 6) + (fsz a)) x))), (hf, .inl (cI, aI 72 (uZ ffu ((a * 6) + (fsz a)) y))), (hg, .inl (cI, aI 72 (uZ fsu ((a * 6) + (fsz a)) z)))]) 1 0 rfl rfl (by omega) (by omega) (by omega) std_T_addChoice_50 rfl ?_
  refine g_aload_n C 2 std_T_addChoice_51 rfl ?_
  refine g_dup C std_T_addChoice_52 rfl ?_
  refine g_get C (st_sub sti_T) 0 rfl rfl 1 (by decide) (List.mem_cons_of_mem _ kw_1_29) rfl rfl std_T_addChoice_53 ?_
  refine g_iconst C std_T_addChoice_56 ?_
  refine g_iadd C std_T_addChoice_57 ?_
  refine g_put C (ws' := [(t0, .inr (1, [.int (iI steps), .int (iI (choices + 1)), .int (iI bars), .ref hs, .ref hc, .ref hf, .ref hg, .ref hb, .ref he, .ref hm])), (hs, .inl (cI, aI 12 (uZ fsz a ((fsz a) + 1)))), (hc, .inl (cI, aI 72 (uZ fco ((a * 6) + (fsz a)) x))), (hf, .inl (cI, aI 72 (uZ ffu ((a * 6) + (fsz a)) y))), (hg, .inl (cI, aI 72 (uZ fsu ((a * 6) + (fsz a)) z)))]) (st_sub sti_T) stt_T sto_T stn_T 0 rfl rfl 1 (by decide) (List.mem_cons_of_mem _ kw_1_29) rfl rfl rfl rfl (Nat.le_of_ble_eq_true rfl) std_T_addChoice_58 rfl ?_
  refine g_iload C 1 std_T_addChoice_61 rfl ?_
  refine g_wide (k := 0) (n := 0) (Nat.le_of_ble_eq_true rfl) (Nat.le_of_ble_eq_true rfl) ?_
  exact hret _ _ _ () (rfl) std_T_addChoice_63

abbrev sty_T_changeCost : MethodName := ⟨"StateTables$Told", "changeCost", "(III)I"⟩
abbrev stc_T_changeCost : ByteArray := prog_5_method_6_code
theorem sth_T_changeCost : (sty_T_changeCost).cls ≠ "java/lang/invoke/MethodHandle" ∧ (sty_T_changeCost).cls ≠ "java/lang/invoke/VarHandle" ∧ (parseMethodDescriptor (sty_T_changeCost).desc).map (fun d => d.parameters.length) = some 3 := by decide +kernel
theorem std_T_changeCost_0 : decode stc_T_changeCost 0 = .ok (.iload_n 1, 1) := by decide +kernel
theorem std_T_changeCost_1 : decode stc_T_changeCost 1 = .ok (.iload_n 2, 1) := by decide +kernel
theorem std_T_changeCost_2 : decode stc_T_changeCost 2 = .ok (.invokestatic 41, 3) := by decide +kernel
theorem std_T_changeCost_5 : decode stc_T_changeCost 5 = .ok (.istore 4, 2) := by decide +kernel
theorem std_T_changeCost_7 : decode stc_T_changeCost 7 = .ok (.aload_n 0, 1) := by decide +kernel
theorem std_T_changeCost_8 : decode stc_T_changeCost 8 = .ok (.getfield 15, 3) := by decide +kernel
theorem std_T_changeCost_11 : decode stc_T_changeCost 11 = .ok (.iload 4, 2) := by decide +kernel
theorem std_T_changeCost_13 : decode stc_T_changeCost 13 = .ok (.iaload, 1) := by decide +kernel
theorem std_T_changeCost_14 : decode stc_T_changeCost 14 = .ok (.istore 5, 2) := by decide +kernel
theorem std_T_changeCost_16 : decode stc_T_changeCost 16 = .ok (.aload_n 0, 1) := by decide +kernel
theorem std_T_changeCost_17 : decode stc_T_changeCost 17 = .ok (.getfield 15, 3) := by decide +kernel
theorem std_T_changeCost_20 : decode stc_T_changeCost 20 = .ok (.iload 4, 2) := by decide +kernel
theorem std_T_changeCost_22 : decode stc_T_changeCost 22 = .ok (.iload_n 3, 1) := by decide +kernel
theorem std_T_changeCost_23 : decode stc_T_changeCost 23 = .ok (.iastore, 1) := by decide +kernel
theorem std_T_changeCost_24 : decode stc_T_changeCost 24 = .ok (.iload 5, 2) := by decide +kernel
theorem std_T_changeCost_26 : decode stc_T_changeCost 26 = .ok (.ireturn, 1) := by decide +kernel
set_option maxHeartbeats 4000000 in
set_option maxRecDepth 100000 in
theorem c_changeCost (l : Launch) (dC : Nat → ClassId) (dI : Nat → Nat → Nat) (cI cJ cZ : ClassId) (t0 : Nat) (hs : Nat) (hc : Nat) (hf : Nat) (hg : Nat) (hb : Nat) (he : Nat) (hm : Nat) (steps : Int) (choices : Int) (bars : Int) (fco : Int → Int) (a : Int) (b : Int) (x : Int) (ka : 0 ≤ a ∧ a < 12) (kb : 0 ≤ b ∧ b < 6) : ∀ sz, Met l sty_T_changeCost (Cond.code sty_T_changeCost stc_T_changeCost 6 (some .int) :: stGW) ({ frames := 1, cells := 0, slots := 0, locals := 21 } : Room) (va_Pc [.ref t0, .int (iI a), .int (iI b), .int (iI x)] (zPre (dC, dI) stCl [(cI, .int), (cJ, .long), (cZ, .boolean)] st_nw [(t0, .inr (1, [.int (iI steps), .int (iI choices), .int (iI bars), .ref hs, .ref hc, .ref hf, .ref hg, .ref hb, .ref he, .ref hm])), (hc, .inl (cI, aI 72 fco))] sz)) (va_Qi (fun (r : Int32) (_ : Unit) => r = iI (fco ((a * 6) + b))) (zPost (dC, dI) stCl [(cI, .int), (cJ, .long), (cZ, .boolean)] [(t0, .inr (1, [.int (iI steps), .int (iI choices), .int (iI bars), .ref hs, .ref hc, .ref hf, .ref hg, .ref hb, .ref he, .ref hm])), (hc, .inl (cI, aI 72 fco))] sz (fun _ : Unit => [(t0, .inr (1, [.int (iI steps), .int (iI choices), .int (iI bars), .ref hs, .ref hc, .ref hf, .ref hg, .ref hb, .ref he, .ref hm])), (hc, .inl (cI, aI 72 (uZ fco ((a * 6) + b) x)))])) (va_A [(t0, .inr (1, [.int (iI steps), .int (iI choices), .int (iI bars), .ref hs, .ref hc, .ref hf, .ref hg, .ref hb, .ref he, .ref hm])), (hc, .inl (cI, aI 72 fco))] sz)) 0 0 (va_A [(t0, .inr (1, [.int (iI steps), .int (iI choices), .int (iI bars), .ref hs, .ref hc, .ref hf, .ref hg, .ref hb, .ref he, .ref hm])), (hc, .inl (cI, aI 72 fco))] sz) := by
  refine met_i (by decide) rfl (Nat.le_of_ble_eq_true rfl) ?_
  intro p e s m below meth c A Q C hmn hret
  refine g_iload_n C 1 std_T_changeCost_0 rfl ?_
  refine g_iload_n C 2 std_T_changeCost_1 rfl ?_
  refine g_SN_i (wc := []) (wr := [(t0, .inr (1, [.int (iI steps), .int (iI choices), .int (iI bars), .ref hs, .ref hc, .ref hf, .ref hg, .ref hb, .ref he, .ref hm])), (hc, .inl (cI, aI 72 fco))]) (rest := []) C (c_placeOf l dC dI cI cJ cZ a b ) (st_cSN C kw_1_235 (List.mem_of_getElem? (i := 1) rfl) kw_1_1 kw_1_234 sth_S_placeOf ⟨Nat.le_of_ble_eq_true rfl, Nat.le_of_ble_eq_true rfl⟩) rfl rfl (Nat.le_of_ble_eq_true rfl) std_T_changeCost_2 ⟨Nat.le_of_ble_eq_true rfl, Nat.le_of_ble_eq_true rfl⟩ [] [0, 1] rfl rfl rfl rfl (by decide) (fun r1 u2 h3 => ?_)
  subst h3
  refine g_ws (ws' := [(t0, .inr (1, [.int (iI steps), .int (iI choices), .int (iI bars), .ref hs, .ref hc, .ref hf, .ref hg, .ref hb, .ref he, .ref hm])), (hc, .inl (cI, aI 72 fco))]) rfl ?_
  refine g_istore C (lv' := [(4, .int (iI ((a * 6) + b))), (0, .ref t0), (1, .int (iI a)), (2, .int (iI b)), (3, .int (iI x))]) std_T_changeCost_5 (by decide) rfl ?_
  refine g_aload_n C 1 std_T_changeCost_7 rfl ?_
  refine g_get C (st_sub sti_T) 0 rfl rfl 4 (by decide) (List.mem_cons_of_mem _ kw_1_38) rfl rfl std_T_changeCost_8 ?_
  refine g_iload C 0 std_T_changeCost_11 rfl ?_
  refine g_iald C 1 0 rfl rfl (by omega) (by omega) (by omega) std_T_changeCost_13 ?_
  refine g_istore C (lv' := [(5, .int (iI (fco ((a * 6) + b)))), (4, .int (iI ((a * 6) + b))), (0, .ref t0), (1, .int (iI a)), (2, .int (iI b)), (3, .int (iI x))]) std_T_changeCost_14 (by decide) rfl ?_
  refine g_aload_n C 2 std_T_changeCost_16 rfl ?_
  refine g_get C (st_sub sti_T) 0 rfl rfl 4 (by decide) (List.mem_cons_of_mem _ kw_1_38) rfl rfl std_T_changeCost_17 ?_
  refine g_iload C 1 std_T_changeCost_20 rfl ?_
  refine g_iload_n C 5 std_T_changeCost_22 rfl ?_
  refine g_iast C (ws' := [(t0, .inr (1, [.int (iI steps), .int (iI choices), .int (iI bars), .ref hs, .ref hc, .ref hf, .ref hg, .ref hb, .ref he, .ref hm])), (hc, .inl (cI, aI 72 (uZ fco ((a * 6) + b) x)))]) 1 0 rfl rfl (by omega) (by omega) (by omega) std_T_changeCost_23 rfl ?_
  refine g_iload C 0 std_T_changeCost_24 rfl ?_
  refine g_wide (k := 0) (n := 0) (Nat.le_of_ble_eq_true rfl) (Nat.le_of_ble_eq_true rfl) ?_
  exact hret _ _ _ () (rfl) std_T_changeCost_26

abbrev sty_T_changeLimits : MethodName := ⟨"StateTables$Told", "changeLimits", "(III)I"⟩
abbrev stc_T_changeLimits : ByteArray := prog_5_method_7_code
theorem sth_T_changeLimits : (sty_T_changeLimits).cls ≠ "java/lang/invoke/MethodHandle" ∧ (sty_T_changeLimits).cls ≠ "java/lang/invoke/VarHandle" ∧ (parseMethodDescriptor (sty_T_changeLimits).desc).map (fun d => d.parameters.length) = some 3 := by decide +kernel
theorem std_T_changeLimits_0 : decode stc_T_changeLimits 0 = .ok (.bipush 100, 2) := by decide +kernel
theorem std_T_changeLimits_2 : decode stc_T_changeLimits 2 = .ok (.aload_n 0, 1) := by decide +kernel
theorem std_T_changeLimits_3 : decode stc_T_changeLimits 3 = .ok (.getfield 27, 3) := by decide +kernel
theorem std_T_changeLimits_6 : decode stc_T_changeLimits 6 = .ok (.iload_n 1, 1) := by decide +kernel
theorem std_T_changeLimits_7 : decode stc_T_changeLimits 7 = .ok (.iaload, 1) := by decide +kernel
theorem std_T_changeLimits_8 : decode stc_T_changeLimits 8 = .ok (.imul, 1) := by decide +kernel
theorem std_T_changeLimits_9 : decode stc_T_changeLimits 9 = .ok (.aload_n 0, 1) := by decide +kernel
theorem std_T_changeLimits_10 : decode stc_T_changeLimits 10 = .ok (.getfield 30, 3) := by decide +kernel
theorem std_T_changeLimits_13 : decode stc_T_changeLimits 13 = .ok (.iload_n 1, 1) := by decide +kernel
theorem std_T_changeLimits_14 : decode stc_T_changeLimits 14 = .ok (.iaload, 1) := by decide +kernel
theorem std_T_changeLimits_15 : decode stc_T_changeLimits 15 = .ok (.iadd, 1) := by decide +kernel
theorem std_T_changeLimits_16 : decode stc_T_changeLimits 16 = .ok (.istore 4, 2) := by decide +kernel
theorem std_T_changeLimits_18 : decode stc_T_changeLimits 18 = .ok (.aload_n 0, 1) := by decide +kernel
theorem std_T_changeLimits_19 : decode stc_T_changeLimits 19 = .ok (.getfield 27, 3) := by decide +kernel
theorem std_T_changeLimits_22 : decode stc_T_changeLimits 22 = .ok (.iload_n 1, 1) := by decide +kernel
theorem std_T_changeLimits_23 : decode stc_T_changeLimits 23 = .ok (.iload_n 2, 1) := by decide +kernel
theorem std_T_changeLimits_24 : decode stc_T_changeLimits 24 = .ok (.iastore, 1) := by decide +kernel
theorem std_T_changeLimits_25 : decode stc_T_changeLimits 25 = .ok (.aload_n 0, 1) := by decide +kernel
theorem std_T_changeLimits_26 : decode stc_T_changeLimits 26 = .ok (.getfield 30, 3) := by decide +kernel
theorem std_T_changeLimits_29 : decode stc_T_changeLimits 29 = .ok (.iload_n 1, 1) := by decide +kernel
theorem std_T_changeLimits_30 : decode stc_T_changeLimits 30 = .ok (.iload_n 3, 1) := by decide +kernel
theorem std_T_changeLimits_31 : decode stc_T_changeLimits 31 = .ok (.iastore, 1) := by decide +kernel
theorem std_T_changeLimits_32 : decode stc_T_changeLimits 32 = .ok (.iload 4, 2) := by decide +kernel
theorem std_T_changeLimits_34 : decode stc_T_changeLimits 34 = .ok (.ireturn, 1) := by decide +kernel
set_option maxHeartbeats 4000000 in
set_option maxRecDepth 100000 in
theorem c_changeLimits (l : Launch) (dC : Nat → ClassId) (dI : Nat → Nat → Nat) (cI cJ cZ : ClassId) (t0 : Nat) (hs : Nat) (hc : Nat) (hf : Nat) (hg : Nat) (hb : Nat) (he : Nat) (hm : Nat) (steps : Int) (choices : Int) (bars : Int) (fle : Int → Int) (fmo : Int → Int) (a : Int) (x : Int) (y : Int) (ka : 0 ≤ a ∧ a < 2) : ∀ sz, Met l sty_T_changeLimits (Cond.code sty_T_changeLimits stc_T_changeLimits 5 (some .int) :: stGW) ({ frames := 0, cells := 0, slots := 0, locals := 0 } : Room) (va_Pc [.ref t0, .int (iI a), .int (iI x), .int (iI y)] (zPre (dC, dI) stCl [(cI, .int), (cJ, .long), (cZ, .boolean)] st_nw [(t0, .inr (1, [.int (iI steps), .int (iI choices), .int (iI bars), .ref hs, .ref hc, .ref hf, .ref hg, .ref hb, .ref he, .ref hm])), (he, .inl (cI, aI 2 fle)), (hm, .inl (cI, aI 2 fmo))] sz)) (va_Qi (fun (r : Int32) (_ : Unit) => r = iI ((100 * (fle a)) + (fmo a))) (zPost (dC, dI) stCl [(cI, .int), (cJ, .long), (cZ, .boolean)] [(t0, .inr (1, [.int (iI steps), .int (iI choices), .int (iI bars), .ref hs, .ref hc, .ref hf, .ref hg, .ref hb, .ref he, .ref hm])), (he, .inl (cI, aI 2 fle)), (hm, .inl (cI, aI 2 fmo))] sz (fun _ : Unit => [(t0, .inr (1, [.int (iI steps), .int (iI choices), .int (iI bars), .ref hs, .ref hc, .ref hf, .ref hg, .ref hb, .ref he, .ref hm])), (he, .inl (cI, aI 2 (uZ fle a x))), (hm, .inl (cI, aI 2 (uZ fmo a y)))])) (va_A [(t0, .inr (1, [.int (iI steps), .int (iI choices), .int (iI bars), .ref hs, .ref hc, .ref hf, .ref hg, .ref hb, .ref he, .ref hm])), (he, .inl (cI, aI 2 fle)), (hm, .inl (cI, aI 2 fmo))] sz)) 0 0 (va_A [(t0, .inr (1, [.int (iI steps), .int (iI choices), .int (iI bars), .ref hs, .ref hc, .ref hf, .ref hg, .ref hb, .ref he, .ref hm])), (he, .inl (cI, aI 2 fle)), (hm, .inl (cI, aI 2 fmo))] sz) := by
  refine met_i (by decide) rfl (Nat.le_of_ble_eq_true rfl) ?_
  intro p e s m below meth c A Q C hmn hret
  refine g_bipush C std_T_changeLimits_0 (by decide) ?_
  refine g_aload_n C 0 std_T_changeLimits_2 rfl ?_
  refine g_get C (st_sub sti_T) 0 rfl rfl 8 (by decide) (List.mem_cons_of_mem _ kw_1_51) rfl rfl std_T_changeLimits_3 ?_
  refine g_iload_n C 1 std_T_changeLimits_6 rfl ?_
  refine g_iald C 1 0 rfl rfl (by omega) (by omega) (by omega) std_T_changeLimits_7 ?_
  refine g_imul C std_T_changeLimits_8 ?_
  refine g_aload_n C 0 std_T_changeLimits_9 rfl ?_
  refine g_get C (st_sub sti_T) 0 rfl rfl 9 (by decide) (List.mem_cons_of_mem _ kw_1_53) rfl rfl std_T_changeLimits_10 ?_
  refine g_iload_n C 1 std_T_changeLimits_13 rfl ?_
  refine g_iald C 2 0 rfl rfl (by omega) (by omega) (by omega) std_T_changeLimits_14 ?_
  refine g_iadd C std_T_changeLimits_15 ?_
  refine g_istore C (lv' := [(4, .int (iI ((100 * (fle a)) + (fmo a)))), (0, .ref t0), (1, .int (iI a)), (2, .int (iI x)), (3, .int (iI y))]) std_T_changeLimits_16 (by decide) rfl ?_
  refine g_aload_n C 1 std_T_changeLimits_18 rfl ?_
  refine g_get C (st_sub sti_T) 0 rfl rfl 8 (by decide) (List.mem_cons_of_mem _ kw_1_51) rfl rfl std_T_changeLimits_19 ?_
  refine g_iload_n C 2 std_T_changeLimits_22 rfl ?_
  refine g_iload_n C 3 std_T_changeLimits_23 rfl ?_
  refine g_iast C (ws' := [(t0, .inr (1, [.int (iI steps), .int (iI choices), .int (iI bars), .ref hs, .ref hc, .ref hf, .ref hg, .ref hb, .ref he, .ref hm])), (he, .inl (cI, aI 2 (uZ fle a x))), (hm, .inl (cI, aI 2 fmo))]) 1 0 rfl rfl (by omega) (by omega) (by omega) std_T_changeLimits_24 rfl ?_
  refine g_aload_n C 1 std_T_changeLimits_25 rfl ?_
  refine g_get C (st_sub sti_T) 0 rfl rfl 9 (by decide) (List.mem_cons_of_mem _ kw_1_53) rfl rfl std_T_changeLimits_26 ?_
  refine g_iload_n C 2 std_T_changeLimits_29 rfl ?_
  refine g_iload_n C 4 std_T_changeLimits_30 rfl ?_
  refine g_iast C (ws' := [(t0, .inr (1, [.int (iI steps), .int (iI choices), .int (iI bars), .ref hs, .ref hc, .ref hf, .ref hg, .ref hb, .ref he, .ref hm])), (he, .inl (cI, aI 2 (uZ fle a x))), (hm, .inl (cI, aI 2 (uZ fmo a y)))]) 2 0 rfl rfl (by omega) (by omega) (by omega) std_T_changeLimits_31 rfl ?_
  refine g_iload C 0 std_T_changeLimits_32 rfl ?_
  exact hret _ _ _ () (rfl) std_T_changeLimits_34

abbrev sty_T_changeBar : MethodName := ⟨"StateTables$Told", "changeBar", "(IIIZ)I"⟩
abbrev stc_T_changeBar : ByteArray := prog_5_method_8_code
theorem sth_T_changeBar : (sty_T_changeBar).cls ≠ "java/lang/invoke/MethodHandle" ∧ (sty_T_changeBar).cls ≠ "java/lang/invoke/VarHandle" ∧ (parseMethodDescriptor (sty_T_changeBar).desc).map (fun d => d.parameters.length) = some 4 := by decide +kernel
theorem std_T_changeBar_0 : decode stc_T_changeBar 0 = .ok (.iload_n 1, 1) := by decide +kernel
theorem std_T_changeBar_1 : decode stc_T_changeBar 1 = .ok (.iconst 1, 1) := by decide +kernel
theorem std_T_changeBar_2 : decode stc_T_changeBar 2 = .ok (.iadd, 1) := by decide +kernel
theorem std_T_changeBar_3 : decode stc_T_changeBar 3 = .ok (.iload_n 3, 1) := by decide +kernel
theorem std_T_changeBar_4 : decode stc_T_changeBar 4 = .ok (.invokestatic 41, 3) := by decide +kernel
theorem std_T_changeBar_7 : decode stc_T_changeBar 7 = .ok (.istore 5, 2) := by decide +kernel
theorem std_T_changeBar_9 : decode stc_T_changeBar 9 = .ok (.aload_n 0, 1) := by decide +kernel
theorem std_T_changeBar_10 : decode stc_T_changeBar 10 = .ok (.getfield 24, 3) := by decide +kernel
theorem kw_1_48 : Cond.fieldLink "StateTables$Told" 24 "StateTables$Told" "barredBehind" "[I" ∈ stGW := st_t1 (List.mem_of_getElem? (i := 48) (by decide +kernel)) (by decide +kernel)
theorem std_T_changeBar_13 : decode stc_T_changeBar 13 = .ok (.iload 5, 2) := by decide +kernel
theorem std_T_changeBar_15 : decode stc_T_changeBar 15 = .ok (.iaload, 1) := by decide +kernel
theorem std_T_changeBar_16 : decode stc_T_changeBar 16 = .ok (.iload_n 2, 1) := by decide +kernel
theorem std_T_changeBar_17 : decode stc_T_changeBar 17 = .ok (.ishr, 1) := by decide +kernel
theorem std_T_changeBar_18 : decode stc_T_changeBar 18 = .ok (.iconst 1, 1) := by decide +kernel
theorem std_T_changeBar_19 : decode stc_T_changeBar 19 = .ok (.iand, 1) := by decide +kernel
theorem std_T_changeBar_20 : decode stc_T_changeBar 20 = .ok (.istore 6, 2) := by decide +kernel
theorem std_T_changeBar_22 : decode stc_T_changeBar 22 = .ok (.iload 4, 2) := by decide +kernel
theorem std_T_changeBar_24 : decode stc_T_changeBar 24 = .ok (.ifCond .eq 7, 3) := by decide +kernel
theorem std_T_changeBar_31 : decode stc_T_changeBar 31 = .ok (.iconst 0, 1) := by decide +kernel
theorem std_T_changeBar_32 : decode stc_T_changeBar 32 = .ok (.istore 7, 2) := by decide +kernel
theorem std_T_changeBar_34 : decode stc_T_changeBar 34 = .ok (.aload_n 0, 1) := by decide +kernel
theorem std_T_changeBar_35 : decode stc_T_changeBar 35 = .ok (.getfield 24, 3) := by decide +kernel
theorem std_T_changeBar_38 : decode stc_T_changeBar 38 = .ok (.iload 5, 2) := by decide +kernel
theorem std_T_changeBar_40 : decode stc_T_changeBar 40 = .ok (.dup2, 1) := by decide +kernel
theorem std_T_changeBar_41 : decode stc_T_changeBar 41 = .ok (.iaload, 1) := by decide +kernel
theorem std_T_changeBar_42 : decode stc_T_changeBar 42 = .ok (.iload 6, 2) := by decide +kernel
theorem std_T_changeBar_44 : decode stc_T_changeBar 44 = .ok (.iload 7, 2) := by decide +kernel
theorem std_T_changeBar_46 : decode stc_T_changeBar 46 = .ok (.ixor, 1) := by decide +kernel
theorem std_T_changeBar_47 : decode stc_T_changeBar 47 = .ok (.iload_n 2, 1) := by decide +kernel
theorem std_T_changeBar_48 : decode stc_T_changeBar 48 = .ok (.ishl, 1) := by decide +kernel
theorem std_T_changeBar_49 : decode stc_T_changeBar 49 = .ok (.ixor, 1) := by decide +kernel
theorem std_T_changeBar_50 : decode stc_T_changeBar 50 = .ok (.iastore, 1) := by decide +kernel
theorem std_T_changeBar_51 : decode stc_T_changeBar 51 = .ok (.aload_n 0, 1) := by decide +kernel
theorem std_T_changeBar_52 : decode stc_T_changeBar 52 = .ok (.dup, 1) := by decide +kernel
theorem std_T_changeBar_53 : decode stc_T_changeBar 53 = .ok (.getfield 48, 3) := by decide +kernel
theorem kw_1_31 : Cond.fieldLink "StateTables$Told" 48 "StateTables$Told" "bars" "I" ∈ stGW := st_t1 (List.mem_of_getElem? (i := 31) (by decide +kernel)) (by decide +kernel)
theorem std_T_changeBar_56 : decode stc_T_changeBar 56 = .ok (.iload 7, 2) := by decide +kernel
theorem std_T_changeBar_58 : decode stc_T_changeBar 58 = .ok (.iload 6, 2) := by decide +kernel
theorem std_T_changeBar_60 : decode stc_T_changeBar 60 = .ok (.isub, 1) := by decide +kernel
theorem std_T_changeBar_61 : decode stc_T_changeBar 61 = .ok (.iadd, 1) := by decide +kernel
theorem std_T_changeBar_62 : decode stc_T_changeBar 62 = .ok (.putfield 48, 3) := by decide +kernel
theorem std_T_changeBar_65 : decode stc_T_changeBar 65 = .ok (.iload 6, 2) := by decide +kernel
theorem std_T_changeBar_67 : decode stc_T_changeBar 67 = .ok (.ireturn, 1) := by decide +kernel
theorem std_T_changeBar_27 : decode stc_T_changeBar 27 = .ok (.iconst 1, 1) := by decide +kernel
theorem std_T_changeBar_28 : decode stc_T_changeBar 28 = .ok (.goto 4, 3) := by decide +kernel
set_option maxHeartbeats 4000000 in
set_option maxRecDepth 100000 in
theorem c_changeBar (l : Launch) (dC : Nat → ClassId) (dI : Nat → Nat → Nat) (cI cJ cZ : ClassId) (t0 : Nat) (hs : Nat) (hc : Nat) (hf : Nat) (hg : Nat) (hb : Nat) (he : Nat) (hm : Nat) (steps : Int) (choices : Int) (bars : Int) (fbb : Int → Int) (a : Int) (x : Int) (b : Int) (v : Prop) (ka : 0 ≤ a ∧ a < 11) (kx : 0 ≤ x ∧ x < 6) (kb : 0 ≤ b ∧ b < 6) (kbb : 0 ≤ fbb (((a + 1) * 6) + b) ∧ fbb (((a + 1) * 6) + b) < 64) : ∀ sz, Met l sty_T_changeBar (Cond.code sty_T_changeBar stc_T_changeBar 8 (some .int) :: stGW) ({ frames := 1, cells := 0, slots := 0, locals := 21 } : Room) (va_Pc [.ref t0, .int (iI a), .int (iI x), .int (iI b), .int (iI (bI v))] (zPre (dC, dI) stCl [(cI, .int), (cJ, .long), (cZ, .boolean)] st_nw [(t0, .inr (1, [.int (iI steps), .int (iI choices), .int (iI bars), .ref hs, .ref hc, .ref hf, .ref hg, .ref hb, .ref he, .ref hm])), (hb, .inl (cI, aI 72 fbb))] sz)) (va_Qi (fun (r : Int32) (_ : Unit) => r = iI ((((fbb (((a + 1) * 6) + b)) / (2 ^ (x).toNat)) % 2))) (zPost (dC, dI) stCl [(cI, .int), (cJ, .long), (cZ, .boolean)] [(t0, .inr (1, [.int (iI steps), .int (iI choices), .int (iI bars), .ref hs, .ref hc, .ref hf, .ref hg, .ref hb, .ref he, .ref hm])), (hb, .inl (cI, aI 72 fbb))] sz (fun _ : Unit => [(t0, .inr (1, [.int (iI steps), .int (iI choices), .int (iI (bars + ((bI v) - (((fbb (((a + 1) * 6) + b)) / (2 ^ (x).toNat)) % 2)))), .ref hs, .ref hc, .ref hf, .ref hg, .ref hb, .ref he, .ref hm])), (hb, .inl (cI, aI 72 (uZ fbb (((a + 1) * 6) + b) ((fbb (((a + 1) * 6) + b)) + (((bI v) - (((fbb (((a + 1) * 6) + b)) / (2 ^ (x).toNat)) % 2)) * (2 ^ (x).toNat))))))])) (va_A [(t0, .inr (1, [.int (iI steps), .int (iI choices), .int (iI bars), .ref hs, .ref hc, .ref hf, .ref hg, .ref hb, .ref he, .ref hm])), (hb, .inl (cI, aI 72 fbb))] sz)) 0 0 (va_A [(t0, .inr (1, [.int (iI steps), .int (iI choices), .int (iI bars), .ref hs, .ref hc, .ref hf, .ref hg, .ref hb, .ref he, .ref hm])), (hb, .inl (cI, aI 72 fbb))] sz) := by
  refine met_i (by decide) rfl (Nat.le_of_ble_eq_true rfl) ?_
  intro p e s m below meth c A Q C hmn hret
  refine g_iload_n C 1 std_T_changeBar_0 rfl ?_
  refine g_iconst C std_T_changeBar_1 ?_
  refine g_iadd C std_T_changeBar_2 ?_
  refine g_iload_n C 3 std_T_changeBar_3 rfl ?_
  refine g_SN_i (wc := []) (wr := [(t0, .inr (1, [.int (iI steps), .int (iI choices), .int (iI bars), .ref hs, .ref hc, .ref hf, .ref hg, .ref hb, .ref he, .ref hm])), (hb, .inl (cI, aI 72 fbb))]) (rest := []) C (c_placeOf l dC dI cI cJ cZ (a + 1) b ) (st_cSN C kw_1_235 (List.mem_of_getElem? (i := 1) rfl) kw_1_1 kw_1_234 sth_S_placeOf ⟨Nat.le_of_ble_eq_true rfl, Nat.le_of_ble_eq_true rfl⟩) rfl rfl (Nat.le_of_ble_eq_true rfl) std_T_changeBar_4 ⟨Nat.le_of_ble_eq_true rfl, Nat.le_of_ble_eq_true rfl⟩ [] [0, 1] rfl rfl rfl rfl (by decide) (fun r1 u2 h3 => ?_)
  subst h3
  refine g_ws (ws' := [(t0, .inr (1, [.int (iI steps), .int (iI choices), .int (iI bars), .ref hs, .ref hc, .ref hf, .ref hg, .ref hb, .ref he, .ref hm])), (hb, .inl (cI, aI 72 fbb))]) rfl ?_
  refine g_istore C (lv' := [(5, .int (iI (((a + 1) * 6) + b))), (0, .ref t0), (1, .int (iI a)), (2, .int (iI x)), (3, .int (iI b)), (4, .int (iI (bI v)))]) std_T_changeBar_7 (by decide) rfl ?_
  refine g_aload_n C 1 std_T_changeBar_9 rfl ?_
  refine g_get C (st_sub sti_T) 0 rfl rfl 7 (by decide) (List.mem_cons_of_mem _ kw_1_48) rfl rfl std_T_changeBar_10 ?_
  refine g_iload C 0 std_T_changeBar_13 rfl ?_
  refine g_iald C 1 0 rfl rfl (by omega) (by omega) (by omega) std_T_changeBar_15 ?_
  refine g_iload_n C 3 std_T_changeBar_16 rfl ?_
  refine g_ishr C (d := (2 ^ (x).toNat)) std_T_changeBar_17 ⟨by omega, by omega⟩ (by omega) (by omega) rfl ?_
  refine g_iconst C std_T_changeBar_18 ?_
  refine g_iand C std_T_changeBar_19 (iI_andK (d := 2) 1 (by decide) (by decide) (by decide)) ?_
  refine g_istore C (lv' := [(6, .int (iI (((fbb (((a + 1) * 6) + b)) / (2 ^ (x).toNat)) % 2))), (5, .int (iI (((a + 1) * 6) + b))), (0, .ref t0), (1, .int (iI a)), (2, .int (iI x)), (3, .int (iI b)), (4, .int (iI (bI v)))]) std_T_changeBar_20 (by decide) rfl ?_
  refine g_iload C 6 std_T_changeBar_22 rfl ?_
  refine g_ifeq_b (tgt := 31) C std_T_changeBar_24 (by decide) (fun c4 => ?_) (fun c4 => ?_)
  · refine g_iconst C std_T_changeBar_31 ?_
    refine g_istore C (lv' := [(7, .int (iI 0)), (6, .int (iI (((fbb (((a + 1) * 6) + b)) / (2 ^ (x).toNat)) % 2))), (5, .int (iI (((a + 1) * 6) + b))), (0, .ref t0), (1, .int (iI a)), (2, .int (iI x)), (3, .int (iI b)), (4, .int (iI (bI v)))]) std_T_changeBar_32 (by decide) rfl ?_
    refine g_aload_n C 3 std_T_changeBar_34 rfl ?_
    refine g_get C (st_sub sti_T) 0 rfl rfl 7 (by decide) (List.mem_cons_of_mem _ kw_1_48) rfl rfl std_T_changeBar_35 ?_
    refine g_iload C 2 std_T_changeBar_38 rfl ?_
    refine g_dup2 C std_T_changeBar_40 rfl rfl ?_
    refine g_iald C 1 0 rfl rfl (by omega) (by omega) (by omega) std_T_changeBar_41 ?_
    refine g_iload C 1 std_T_changeBar_42 rfl ?_
    refine g_iload C 0 std_T_changeBar_44 rfl ?_
    refine g_ixor C (z := (((fbb (((a + 1) * 6) + b)) / (2 ^ (x).toNat)) % 2)) std_T_changeBar_46 (x00 _) ?_
    refine g_iload_n C 5 std_T_changeBar_47 rfl ?_
    refine g_ishl C (d := (2 ^ (x).toNat)) std_T_changeBar_48 (by omega) (by omega) rfl ?_
    refine g_ixor C (z := ((fbb (((a + 1) * 6) + b)) + ((0 - (((fbb (((a + 1) * 6) + b)) / (2 ^ (x).toNat)) % 2)) * (2 ^ (x).toNat)))) std_T_changeBar_49 (xbit0 (by omega) (by omega) (by omega) (by omega)) ?_
    refine g_iast C (ws' := [(t0, .inr (1, [.int (iI steps), .int (iI choices), .int (iI bars), .ref hs, .ref hc, .ref hf, .ref hg, .ref hb, .ref he, .ref hm])), (hb, .inl (cI, aI 72 (uZ fbb (((a + 1) * 6) + b) ((fbb (((a + 1) * 6) + b)) + ((0 - (((fbb (((a + 1) * 6) + b)) / (2 ^ (x).toNat)) % 2)) * (2 ^ (x).toNat))))))]) 1 0 rfl rfl (by omega) (by omega) (by omega) std_T_changeBar_50 rfl ?_
    refine g_aload_n C 3 std_T_changeBar_51 rfl ?_
    refine g_dup C std_T_changeBar_52 rfl ?_
    refine g_get C (st_sub sti_T) 0 rfl rfl 2 (by decide) (List.mem_cons_of_mem _ kw_1_31) rfl rfl std_T_changeBar_53 ?_
    refine g_iload C 0 std_T_changeBar_56 rfl ?_
    refine g_iload C 1 std_T_changeBar_58 rfl ?_
    refine g_isub C std_T_changeBar_60 ?_
    refine g_iadd C std_T_changeBar_61 ?_
    refine g_put C (ws' := [(t0, .inr (1, [.int (iI steps), .int (iI choices), .int (iI (bars + (0 - (((fbb (((a + 1) * 6) + b)) / (2 ^ (x).toNat)) % 2)))), .ref hs, .ref hc, .ref hf, .ref hg, .ref hb, .ref he, .ref hm])), (hb, .inl (cI, aI 72 (uZ fbb (((a + 1) * 6) + b) ((fbb (((a + 1) * 6) + b)) + ((0 - (((fbb (((a + 1) * 6) + b)) / (2 ^ (x).toNat)) % 2)) * (2 ^ (x).toNat))))))]) (st_sub sti_T) stt_T sto_T stn_T 0 rfl rfl 2 (by decide) (List.mem_cons_of_mem _ kw_1_31) rfl rfl rfl rfl (Nat.le_of_ble_eq_true rfl) std_T_changeBar_62 rfl ?_
    refine g_iload C 1 std_T_changeBar_65 rfl ?_
    refine g_wide (k := 0) (n := 0) (Nat.le_of_ble_eq_true rfl) (Nat.le_of_ble_eq_true rfl) ?_
    refine g_ws (ws' := [(t0, .inr (1, [.int (iI steps), .int (iI choices), .int (iI (bars + ((bI v) - (((fbb (((a + 1) * 6) + b)) / (2 ^ (x).toNat)) % 2)))), .ref hs, .ref hc, .ref hf, .ref hg, .ref hb, .ref he, .ref hm])), (hb, .inl (cI, aI 72 (uZ fbb (((a + 1) * 6) + b) ((fbb (((a + 1) * 6) + b)) + (((bI v) - (((fbb (((a + 1) * 6) + b)) / (2 ^ (x).toNat)) % 2)) * (2 ^ (x).toNat))))))]) (by rw [bI_f c4]) ?_
    exact hret _ _ _ () (rfl) std_T_changeBar_67
  · refine g_iconst C std_T_changeBar_27 ?_
    refine g_goto (tgt := 32) C std_T_changeBar_28 (by decide) ?_
    refine g_istore C (lv' := [(7, .int (iI 1)), (6, .int (iI (((fbb (((a + 1) * 6) + b)) / (2 ^ (x).toNat)) % 2))), (5, .int (iI (((a + 1) * 6) + b))), (0, .ref t0), (1, .int (iI a)), (2, .int (iI x)), (3, .int (iI b)), (4, .int (iI (bI v)))]) std_T_changeBar_32 (by decide) rfl ?_
    refine g_aload_n C 3 std_T_changeBar_34 rfl ?_
    refine g_get C (st_sub sti_T) 0 rfl rfl 7 (by decide) (List.mem_cons_of_mem _ kw_1_48) rfl rfl std_T_changeBar_35 ?_
    refine g_iload C 2 std_T_changeBar_38 rfl ?_
    refine g_dup2 C std_T_changeBar_40 rfl rfl ?_
    refine g_iald C 1 0 rfl rfl (by omega) (by omega) (by omega) std_T_changeBar_41 ?_
    refine g_iload C 1 std_T_changeBar_42 rfl ?_
    refine g_iload C 0 std_T_changeBar_44 rfl ?_
    refine g_ixor C (z := (1 - (((fbb (((a + 1) * 6) + b)) / (2 ^ (x).toNat)) % 2))) std_T_changeBar_46 (x01 _) ?_
    refine g_iload_n C 5 std_T_changeBar_47 rfl ?_
    refine g_ishl C (d := (2 ^ (x).toNat)) std_T_changeBar_48 (by omega) (by omega) rfl ?_
    refine g_ixor C (z := ((fbb (((a + 1) * 6) + b)) + ((1 - (((fbb (((a + 1) * 6) + b)) / (2 ^ (x).toNat)) % 2)) * (2 ^ (x).toNat)))) std_T_changeBar_49 (xbit1 (by omega) (by omega) (by omega) (by omega)) ?_
    refine g_iast C (ws' := [(t0, .inr (1, [.int (iI steps), .int (iI choices), .int (iI bars), .ref hs, .ref hc, .ref hf, .ref hg, .ref hb, .ref he, .ref hm])), (hb, .inl (cI, aI 72 (uZ fbb (((a + 1) * 6) + b) ((fbb (((a + 1) * 6) + b)) + ((1 - (((fbb (((a + 1) * 6) + b)) / (2 ^ (x).toNat)) % 2)) * (2 ^ (x).toNat))))))]) 1 0 rfl rfl (by omega) (by omega) (by omega) std_T_changeBar_50 rfl ?_
    refine g_aload_n C 3 std_T_changeBar_51 rfl ?_
    refine g_dup C std_T_changeBar_52 rfl ?_
    refine g_get C (st_sub sti_T) 0 rfl rfl 2 (by decide) (List.mem_cons_of_mem _ kw_1_31) rfl rfl std_T_changeBar_53 ?_
    refine g_iload C 0 std_T_changeBar_56 rfl ?_
    refine g_iload C 1 std_T_changeBar_58 rfl ?_
    refine g_isub C std_T_changeBar_60 ?_
    refine g_iadd C std_T_changeBar_61 ?_
    refine g_put C (ws' := [(t0, .inr (1, [.int (iI steps), .int (iI choices), .int (iI (bars + (1 - (((fbb (((a + 1) * 6) + b)) / (2 ^ (x).toNat)) % 2)))), .ref hs, .ref hc, .ref hf, .ref hg, .ref hb, .ref he, .ref hm])), (hb, .inl (cI, aI 72 (uZ fbb (((a + 1) * 6) + b) ((fbb (((a + 1) * 6) + b)) + ((1 - (((fbb (((a + 1) * 6) + b)) / (2 ^ (x).toNat)) % 2)) * (2 ^ (x).toNat))))))]) (st_sub sti_T) stt_T sto_T stn_T 0 rfl rfl 2 (by decide) (List.mem_cons_of_mem _ kw_1_31) rfl rfl rfl rfl (Nat.le_of_ble_eq_true rfl) std_T_changeBar_62 rfl ?_
    refine g_iload C 1 std_T_changeBar_65 rfl ?_
    refine g_wide (k := 0) (n := 0) (Nat.le_of_ble_eq_true rfl) (Nat.le_of_ble_eq_true rfl) ?_
    refine g_ws (ws' := [(t0, .inr (1, [.int (iI steps), .int (iI choices), .int (iI (bars + ((bI v) - (((fbb (((a + 1) * 6) + b)) / (2 ^ (x).toNat)) % 2)))), .ref hs, .ref hc, .ref hf, .ref hg, .ref hb, .ref he, .ref hm])), (hb, .inl (cI, aI 72 (uZ fbb (((a + 1) * 6) + b) ((fbb (((a + 1) * 6) + b)) + (((bI v) - (((fbb (((a + 1) * 6) + b)) / (2 ^ (x).toNat)) % 2)) * (2 ^ (x).toNat))))))]) (by rw [bI_t c4]) ?_
    exact hret _ _ _ () (rfl) std_T_changeBar_67
end
section
/-! Layers: reads -/
abbrev sty_Y_hasLayer : MethodName := ⟨"StateTables$Layers", "hasLayer", "(I)Z"⟩
abbrev stc_Y_hasLayer : ByteArray := prog_3_method_2_code
theorem sth_Y_hasLayer : (sty_Y_hasLayer).cls ≠ "java/lang/invoke/MethodHandle" ∧ (sty_Y_hasLayer).cls ≠ "java/lang/invoke/VarHandle" ∧ (parseMethodDescriptor (sty_Y_hasLayer).desc).map (fun d => d.parameters.length) = some 1 := by decide +kernel
theorem std_Y_hasLayer_0 : decode stc_Y_hasLayer 0 = .ok (.iload_n 1, 1) := by decide +kernel
theorem std_Y_hasLayer_1 : decode stc_Y_hasLayer 1 = .ok (.ifCond .lt 18, 3) := by decide +kernel
theorem std_Y_hasLayer_19 : decode stc_Y_hasLayer 19 = .ok (.iconst 0, 1) := by decide +kernel
theorem std_Y_hasLayer_20 : decode stc_Y_hasLayer 20 = .ok (.ireturn, 1) := by decide +kernel
theorem std_Y_hasLayer_4 : decode stc_Y_hasLayer 4 = .ok (.iload_n 1, 1) := by decide +kernel
theorem std_Y_hasLayer_5 : decode stc_Y_hasLayer 5 = .ok (.aload_n 0, 1) := by decide +kernel
theorem std_Y_hasLayer_6 : decode stc_Y_hasLayer 6 = .ok (.getfield 37, 3) := by decide +kernel
theorem kw_1_83 : Cond.fieldLink "StateTables$Layers" 37 "StateTables$Layers" "told" "LStateTables$Told;" ∈ stGW := st_t1 (List.mem_of_getElem? (i := 83) (by decide +kernel)) (by decide +kernel)
theorem std_Y_hasLayer_9 : decode stc_Y_hasLayer 9 = .ok (.getfield 41, 3) := by decide +kernel
theorem kw_1_26 : Cond.fieldLink "StateTables$Layers" 41 "StateTables$Told" "steps" "I" ∈ stGW := st_t1 (List.mem_of_getElem? (i := 26) (by decide +kernel)) (by decide +kernel)
theorem std_Y_hasLayer_12 : decode stc_Y_hasLayer 12 = .ok (.if_icmp .gt 7, 3) := by decide +kernel
theorem std_Y_hasLayer_15 : decode stc_Y_hasLayer 15 = .ok (.iconst 1, 1) := by decide +kernel
theorem std_Y_hasLayer_16 : decode stc_Y_hasLayer 16 = .ok (.goto 4, 3) := by decide +kernel
set_option maxHeartbeats 4000000 in
set_option maxRecDepth 100000 in
theorem c_hasLayer (l : Launch) (dC : Nat → ClassId) (dI : Nat → Nat → Nat) (cI cJ cZ : ClassId) (y0 : Nat) (ys : Nat) (yk : Nat) (yc : Nat) (yd : Nat) (yw : Nat) (yx : Nat) (yb : Nat) (yu : Nat) (total : Int) (t0 : Nat) (hs : Nat) (hc : Nat) (hf : Nat) (hg : Nat) (hb : Nat) (he : Nat) (hm : Nat) (steps : Int) (choices : Int) (bars : Int) (a : Int) (kst : 0 ≤ steps ∧ steps ≤ 12) (ka : rI a) : ∀ sz, Met l sty_Y_hasLayer (Cond.code sty_Y_hasLayer stc_Y_hasLayer 2 (some .boolean) :: stGW) ({ frames := 0, cells := 0, slots := 0, locals := 0 } : Room) (va_Pc [.ref y0, .int (iI a)] (zPre (dC, dI) stCl [(cI, .int), (cJ, .long), (cZ, .boolean)] st_nw [(y0, .inr (2, [.ref t0, .int (iI total), .ref ys, .ref yk, .ref yc, .ref yd, .ref yw, .ref yx, .ref yb, .ref yu])), (t0, .inr (1, [.int (iI steps), .int (iI choices), .int (iI bars), .ref hs, .ref hc, .ref hf, .ref hg, .ref hb, .ref he, .ref hm]))] sz)) (va_Qi (fun (r : Int32) (_ : Unit) => r = iI (bI (0 ≤ a ∧ a ≤ steps))) (zPost (dC, dI) stCl [(cI, .int), (cJ, .long), (cZ, .boolean)] [(y0, .inr (2, [.ref t0, .int (iI total), .ref ys, .ref yk, .ref yc, .ref yd, .ref yw, .ref yx, .ref yb, .ref yu])), (t0, .inr (1, [.int (iI steps), .int (iI choices), .int (iI bars), .ref hs, .ref hc, .ref hf, .ref hg, .ref hb, .ref he, .ref hm]))] sz (fun _ : Unit => [(y0, .inr (2, [.ref t0, .int (iI total), .ref ys, .ref yk, .ref yc, .ref yd, .ref yw, .ref yx, .ref yb, .ref yu])), (t0, .inr (1, [.int (iI steps), .int (iI choices), .int (iI bars), .ref hs, .ref hc, .ref hf, .ref hg, .ref hb, .ref he, .ref hm]))])) (va_A [(y0, .inr (2, [.ref t0, .int (iI total), .ref ys, .ref yk, .ref yc, .ref yd, .ref yw, .ref yx, .ref yb, .ref yu])), (t0, .inr (1, [.int (iI steps), .int (iI choices), .int (iI bars), .ref hs, .ref hc, .ref hf, .ref hg, .ref hb, .ref he, .ref hm]))] sz)) 0 0 (va_A [(y0, .inr (2, [.ref t0, .int (iI total), .ref ys, .ref yk, .ref yc, .ref yd, .ref yw, .ref yx, .ref yb, .ref yu])), (t0, .inr (1, [.int (iI steps), .int (iI choices), .int (iI bars), .ref hs, .ref hc, .ref hf, .ref hg, .ref hb, .ref he, .ref hm]))] sz) := by
  refine met_z (by decide) rfl (Nat.le_of_ble_eq_true rfl) ?_
  intro p e s m below meth c A Q C hmn hret
  refine g_iload_n C 1 std_Y_hasLayer_0 rfl ?_
  refine g_if_lt (tgt := 19) C std_Y_hasLayer_1 (by decide) ⟨by omega, by omega⟩ (fun c1 => ?_) (fun c1 => ?_)
  · refine g_iconst C std_Y_hasLayer_19 ?_
    exact hret _ _ _ () (by rw [bI_f (by omega)]) (by decide) std_Y_hasLayer_20
  · refine g_iload_n C 1 std_Y_hasLayer_4 rfl ?_
    refine g_aload_n C 0 std_Y_hasLayer_5 rfl ?_
    refine g_get C (st_sub sti_Y) 0 rfl rfl 0 (by decide) (List.mem_cons_of_mem _ kw_1_83) rfl rfl std_Y_hasLayer_6 ?_
    refine g_get C (st_sub sti_T) 1 rfl rfl 0 (by decide) (List.mem_cons_of_mem _ kw_1_26) rfl rfl std_Y_hasLayer_9 ?_
    refine g_icmp_gt (tgt := 19) C std_Y_hasLayer_12 (by decide) ⟨by omega, by omega⟩ ⟨by omega, by omega⟩ (fun c2 => ?_) (fun c2 => ?_)
    · refine g_iconst C std_Y_hasLayer_19 ?_
      exact hret _ _ _ () (by rw [bI_f (by omega)]) (by decide) std_Y_hasLayer_20
    · refine g_iconst C std_Y_hasLayer_15 ?_
      refine g_goto (tgt := 20) C std_Y_hasLayer_16 (by decide) ?_
      exact hret _ _ _ () (by rw [bI_t (by omega)]) (by decide) std_Y_hasLayer_20

abbrev sty_Y_sizeOf : MethodName := ⟨"StateTables$Layers", "sizeOf", "(I)I"⟩
abbrev stc_Y_sizeOf : ByteArray := prog_3_method_4_code
theorem sth_Y_sizeOf : (sty_Y_sizeOf).cls ≠ "java/lang/invoke/MethodHandle" ∧ (sty_Y_sizeOf).cls ≠ "java/lang/invoke/VarHandle" ∧ (parseMethodDescriptor (sty_Y_sizeOf).desc).map (fun d => d.parameters.length) = some 1 := by decide +kernel
theorem std_Y_sizeOf_0 : decode stc_Y_sizeOf 0 = .ok (.aload_n 0, 1) := by decide +kernel
theorem std_Y_sizeOf_1 : decode stc_Y_sizeOf 1 = .ok (.getfield 9, 3) := by decide +kernel
theorem kw_1_86 : Cond.fieldLink "StateTables$Layers" 9 "StateTables$Layers" "start" "[I" ∈ stGW := st_t1 (List.mem_of_getElem? (i := 86) (by decide +kernel)) (by decide +kernel)
theorem std_Y_sizeOf_4 : decode stc_Y_sizeOf 4 = .ok (.iload_n 1, 1) := by decide +kernel
theorem std_Y_sizeOf_5 : decode stc_Y_sizeOf 5 = .ok (.iconst 1, 1) := by decide +kernel
theorem std_Y_sizeOf_6 : decode stc_Y_sizeOf 6 = .ok (.iadd, 1) := by decide +kernel
theorem std_Y_sizeOf_7 : decode stc_Y_sizeOf 7 = .ok (.iaload, 1) := by decide +kernel
theorem std_Y_sizeOf_8 : decode stc_Y_sizeOf 8 = .ok (.aload_n 0, 1) := by decide +kernel
theorem std_Y_sizeOf_9 : decode stc_Y_sizeOf 9 = .ok (.getfield 9, 3) := by decide +kernel
theorem std_Y_sizeOf_12 : decode stc_Y_sizeOf 12 = .ok (.iload_n 1, 1) := by decide +kernel
theorem std_Y_sizeOf_13 : decode stc_Y_sizeOf 13 = .ok (.iaload, 1) := by decide +kernel
theorem std_Y_sizeOf_14 : decode stc_Y_sizeOf 14 = .ok (.isub, 1) := by decide +kernel
theorem std_Y_sizeOf_15 : decode stc_Y_sizeOf 15 = .ok (.ireturn, 1) := by decide +kernel
set_option maxHeartbeats 4000000 in
set_option maxRecDepth 100000 in
theorem c_sizeOf (l : Launch) (dC : Nat → ClassId) (dI : Nat → Nat → Nat) (cI cJ cZ : ClassId) (y0 : Nat) (ys : Nat) (yk : Nat) (yc : Nat) (yd : Nat) (yw : Nat) (yx : Nat) (yb : Nat) (yu : Nat) (total : Int) (t0 : Nat) (gst : Int → Int) (a : Int) (ka : 0 ≤ a ∧ a < 13) : ∀ sz, Met l sty_Y_sizeOf (Cond.code sty_Y_sizeOf stc_Y_sizeOf 2 (some .int) :: stGW) ({ frames := 0, cells := 0, slots := 0, locals := 0 } : Room) (va_Pc [.ref y0, .int (iI a)] (zPre (dC, dI) stCl [(cI, .int), (cJ, .long), (cZ, .boolean)] st_nw [(y0, .inr (2, [.ref t0, .int (iI total), .ref ys, .ref yk, .ref yc, .ref yd, .ref yw, .ref yx, .ref yb, .ref yu])), (ys, .inl (cI, aI 14 gst))] sz)) (va_Qi (fun (r : Int32) (_ : Unit) => r = iI ((gst (a + 1)) - (gst a))) (zPost (dC, dI) stCl [(cI, .int), (cJ, .long), (cZ, .boolean)] [(y0, .inr (2, [.ref t0, .int (iI total), .ref ys, .ref yk, .ref yc, .ref yd, .ref yw, .ref yx, .ref yb, .ref yu])), (ys, .inl (cI, aI 14 gst))] sz (fun _ : Unit => [(y0, .inr (2, [.ref t0, .int (iI total), .ref ys, .ref yk, .ref yc, .ref yd, .ref yw, .ref yx, .ref yb, .ref yu])), (ys, .inl (cI, aI 14 gst))])) (va_A [(y0, .inr (2, [.ref t0, .int (iI total), .ref ys, .ref yk, .ref yc, .ref yd, .ref yw, .ref yx, .ref yb, .ref yu])), (ys, .inl (cI, aI 14 gst))] sz)) 0 0 (va_A [(y0, .inr (2, [.ref t0, .int (iI total), .ref ys, .ref yk, .ref yc, .ref yd, .ref yw, .ref yx, .ref yb, .ref yu])), (ys, .inl (cI, aI 14 gst))] sz) := by
  refine met_i (by decide) rfl (Nat.le_of_ble_eq_true rfl) ?_
  intro p e s m below meth c A Q C hmn hret
  refine g_aload_n C 0 std_Y_sizeOf_0 rfl ?_
  refine g_get C (st_sub sti_Y) 0 rfl rfl 2 (by decide) (List.mem_cons_of_mem _ kw_1_86) rfl rfl std_Y_sizeOf_1 ?_
  refine g_iload_n C 1 std_Y_sizeOf_4 rfl ?_
  refine g_iconst C std_Y_sizeOf_5 ?_
  refine g_iadd C std_Y_sizeOf_6 ?_
  refine g_iald C 1 0 rfl rfl (by omega) (by omega) (by omega) std_Y_sizeOf_7 ?_
  refine g_aload_n C 0 std_Y_sizeOf_8 rfl ?_
  refine g_get C (st_sub sti_Y) 0 rfl rfl 2 (by decide) (List.mem_cons_of_mem _ kw_1_86) rfl rfl std_Y_sizeOf_9 ?_
  refine g_iload_n C 1 std_Y_sizeOf_12 rfl ?_
  refine g_iald C 1 0 rfl rfl (by omega) (by omega) (by omega) std_Y_sizeOf_13 ?_
  refine g_isub C std_Y_sizeOf_14 ?_
  exact hret _ _ _ () (rfl) std_Y_sizeOf_15

abbrev sty_Y_hasNode : MethodName := ⟨"StateTables$Layers", "hasNode", "(II)Z"⟩
abbrev stc_Y_hasNode : ByteArray := prog_3_method_3_code
theorem sth_Y_hasNode : (sty_Y_hasNode).cls ≠ "java/lang/invoke/MethodHandle" ∧ (sty_Y_hasNode).cls ≠ "java/lang/invoke/VarHandle" ∧ (parseMethodDescriptor (sty_Y_hasNode).desc).map (fun d => d.parameters.length) = some 2 := by decide +kernel
theorem std_Y_hasNode_0 : decode stc_Y_hasNode 0 = .ok (.aload_n 0, 1) := by decide +kernel
theorem std_Y_hasNode_1 : decode stc_Y_hasNode 1 = .ok (.iload_n 1, 1) := by decide +kernel
theorem std_Y_hasNode_2 : decode stc_Y_hasNode 2 = .ok (.invokevirtual 47, 3) := by decide +kernel
theorem kw_2_181 : Cond.code sty_Y_hasLayer stc_Y_hasLayer 2 (some .boolean) ∈ stGW := st_t2 (List.mem_of_getElem? (i := 181) (by decide +kernel)) (by decide +kernel)
theorem kw_1_3 : Cond.initialized "StateTables$Layers" ∈ stGW := st_t1 (List.mem_of_getElem? (i := 3) (by decide +kernel)) (by decide +kernel)
theorem kw_2_191 : Cond.methodLink "StateTables$Layers" 47 (sty_Y_hasLayer) ∈ stGW := st_t2 (List.mem_of_getElem? (i := 191) (by decide +kernel)) (by decide +kernel)
theorem kw_2_179 : Cond.instanceMethod (sty_Y_hasLayer) ∈ stGW := st_t2 (List.mem_of_getElem? (i := 179) (by decide +kernel)) (by decide +kernel)
theorem kw_2_180 : Cond.selects "StateTables$Layers" (sty_Y_hasLayer) (sty_Y_hasLayer) ∈ stGW := st_t2 (List.mem_of_getElem? (i := 180) (by decide +kernel)) (by decide +kernel)
theorem std_Y_hasNode_5 : decode stc_Y_hasNode 5 = .ok (.ifCond .eq 20, 3) := by decide +kernel
theorem std_Y_hasNode_25 : decode stc_Y_hasNode 25 = .ok (.iconst 0, 1) := by decide +kernel
theorem std_Y_hasNode_26 : decode stc_Y_hasNode 26 = .ok (.ireturn, 1) := by decide +kernel
theorem std_Y_hasNode_8 : decode stc_Y_hasNode 8 = .ok (.iload_n 2, 1) := by decide +kernel
theorem std_Y_hasNode_9 : decode stc_Y_hasNode 9 = .ok (.ifCond .lt 16, 3) := by decide +kernel
theorem std_Y_hasNode_12 : decode stc_Y_hasNode 12 = .ok (.iload_n 2, 1) := by decide +kernel
theorem std_Y_hasNode_13 : decode stc_Y_hasNode 13 = .ok (.aload_n 0, 1) := by decide +kernel
theorem std_Y_hasNode_14 : decode stc_Y_hasNode 14 = .ok (.iload_n 1, 1) := by decide +kernel
theorem std_Y_hasNode_15 : decode stc_Y_hasNode 15 = .ok (.invokevirtual 51, 3) := by decide +kernel
theorem kw_2_43 : Cond.code sty_Y_sizeOf stc_Y_sizeOf 2 (some .int) ∈ stGW := st_t2 (List.mem_of_getElem? (i := 43) (by decide +kernel)) (by decide +kernel)
theorem kw_2_40 : Cond.methodLink "StateTables$Layers" 51 (sty_Y_sizeOf) ∈ stGW := st_t2 (List.mem_of_getElem? (i := 40) (by decide +kernel)) (by decide +kernel)
theorem kw_2_41 : Cond.instanceMethod (sty_Y_sizeOf) ∈ stGW := st_t2 (List.mem_of_getElem? (i := 41) (by decide +kernel)) (by decide +kernel)
theorem kw_2_42 : Cond.selects "StateTables$Layers" (sty_Y_sizeOf) (sty_Y_sizeOf) ∈ stGW := st_t2 (List.mem_of_getElem? (i := 42) (by decide +kernel)) (by decide +kernel)
theorem std_Y_hasNode_18 : decode stc_Y_hasNode 18 = .ok (.if_icmp .ge 7, 3) := by decide +kernel
theorem std_Y_hasNode_21 : decode stc_Y_hasNode 21 = .ok (.iconst 1, 1) := by decide +kernel
theorem std_Y_hasNode_22 : decode stc_Y_hasNode 22 = .ok (.goto 4, 3) := by decide +kernel
set_option maxHeartbeats 4000000 in
set_option maxRecDepth 100000 in
theorem c_hasNode (l : Launch) (dC : Nat → ClassId) (dI : Nat → Nat → Nat) (cI cJ cZ : ClassId) (y0 : Nat) (ys : Nat) (yk : Nat) (yc : Nat) (yd : Nat) (yw : Nat) (yx : Nat) (yb : Nat) (yu : Nat) (total : Int) (t0 : Nat) (hs : Nat) (hc : Nat) (hf : Nat) (hg : Nat) (hb : Nat) (he : Nat) (hm : Nat) (steps : Int) (choices : Int) (bars : Int) (cap : Nat) (gst : Int → Int) (a : Int) (b : Int) (kst : 0 ≤ steps ∧ steps ≤ 12) (kcap : cap ≤ 4801) (kgst : ∀ j, 0 ≤ j → j < 14 → 0 ≤ gst j ∧ gst j ≤ cap) (ka : rI a) (kb : rI b) : ∀ sz, Met l sty_Y_hasNode (Cond.code sty_Y_hasNode stc_Y_hasNode 3 (some .boolean) :: stGW) ({ frames := 1, cells := 0, slots := 0, locals := 21 } : Room) (va_Pc [.ref y0, .int (iI a), .int (iI b)] (zPre (dC, dI) stCl [(cI, .int), (cJ, .long), (cZ, .boolean)] st_nw [(y0, .inr (2, [.ref t0, .int (iI total), .ref ys, .ref yk, .ref yc, .ref yd, .ref yw, .ref yx, .ref yb, .ref yu])), (t0, .inr (1, [.int (iI steps), .int (iI choices), .int (iI bars), .ref hs, .ref hc, .ref hf, .ref hg, .ref hb, .ref he, .ref hm])), (ys, .inl (cI, aI 14 gst))] sz)) (va_Qi (fun (r : Int32) (_ : Unit) => r = iI (bI ((0 ≤ a ∧ a ≤ steps) ∧ 0 ≤ b ∧ b < (gst (a + 1)) - (gst a)))) (zPost (dC, dI) stCl [(cI, .int), (cJ, .long), (cZ, .boolean)] [(y0, .inr (2, [.ref t0, .int (iI total), .ref ys, .ref yk, .ref yc, .ref yd, .ref yw, .ref yx, .ref yb, .ref yu])), (t0, .inr (1, [.int (iI steps), .int (iI choices), .int (iI bars), .ref hs, .ref hc, .ref hf, .ref hg, .ref hb, .ref he, .ref hm])), (ys, .inl (cI, aI 14 gst))] sz (fun _ : Unit => [(y0, .inr (2, [.ref t0, .int (iI total), .ref ys, .ref yk, .ref yc, .ref yd, .ref yw, .ref yx, .ref yb, .ref yu])), (t0, .inr (1, [.int (iI steps), .int (iI choices), .int (iI bars), .ref hs, .ref hc, .ref hf, .ref hg, .ref hb, .ref he, .ref hm])), (ys, .inl (cI, aI 14 gst))])) (va_A [(y0, .inr (2, [.ref t0, .int (iI total), .ref ys, .ref yk, .ref yc, .ref yd, .ref yw, .ref yx, .ref yb, .ref yu])), (t0, .inr (1, [.int (iI steps), .int (iI choices), .int (iI bars), .ref hs, .ref hc, .ref hf, .ref hg, .ref hb, .ref he, .ref hm])), (ys, .inl (cI, aI 14 gst))] sz)) 0 0 (va_A [(y0, .inr (2, [.ref t0, .int (iI total), .ref ys, .ref yk, .ref yc, .ref yd, .ref yw, .ref yx, .ref yb, .ref yu])), (t0, .inr (1, [.int (iI steps), .int (iI choices), .int (iI bars), .ref hs, .ref hc, .ref hf, .ref hg, .ref hb, .ref he, .ref hm])), (ys, .inl (cI, aI 14 gst))] sz) := by
  refine met_z (by decide) rfl (Nat.le_of_ble_eq_true rfl) ?_
  intro p e s m below meth c A Q C hmn hret
  refine g_aload_n C 0 std_Y_hasNode_0 rfl ?_
  refine g_iload_n C 1 std_Y_hasNode_1 rfl ?_
  refine g_V_i (wc := [(y0, .inr (2, [.ref t0, .int (iI total), .ref ys, .ref yk, .ref yc, .ref yd, .ref yw, .ref yx, .ref yb, .ref yu])), (t0, .inr (1, [.int (iI steps), .int (iI choices), .int (iI bars), .ref hs, .ref hc, .ref hf, .ref hg, .ref hb, .ref he, .ref hm]))]) (wr := [(ys, .inl (cI, aI 14 gst))]) (rest := []) C (c_hasLayer l dC dI cI cJ cZ y0 ys yk yc yd yw yx yb yu total t0 hs hc hf hg hb he hm steps choices bars a (by omega) (by omega)) (st_cV C kw_2_181 kw_2_191 kw_1_3 kw_2_179 kw_2_180 sth_Y_hasLayer ⟨Nat.le_of_ble_eq_true rfl, Nat.le_of_ble_eq_true rfl⟩) 0 rfl rfl rfl rfl (Nat.le_of_ble_eq_true rfl) std_Y_hasNode_2 ⟨Nat.le_of_ble_eq_true rfl, Nat.le_of_ble_eq_true rfl⟩ [0, 1] [2] rfl rfl rfl rfl (by decide) (fun r1 u2 h3 => ?_)
  subst h3
  refine g_ws (ws' := [(ys, .inl (cI, aI 14 gst)), (y0, .inr (2, [.ref t0, .int (iI total), .ref ys, .ref yk, .ref yc, .ref yd, .ref yw, .ref yx, .ref yb, .ref yu])), (t0, .inr (1, [.int (iI steps), .int (iI choices), .int (iI bars), .ref hs, .ref hc, .ref hf, .ref hg, .ref hb, .ref he, .ref hm]))]) rfl ?_
  refine g_ifeq_b (tgt := 25) C std_Y_hasNode_5 (by decide) (fun c4 => ?_) (fun c4 => ?_)
  · refine g_iconst C std_Y_hasNode_25 ?_
    refine g_sub (ws' := [(y0, .inr (2, [.ref t0, .int (iI total), .ref ys, .ref yk, .ref yc, .ref yd, .ref yw, .ref yx, .ref yb, .ref yu])), (t0, .inr (1, [.int (iI steps), .int (iI choices), .int (iI bars), .ref hs, .ref hc, .ref hf, .ref hg, .ref hb, .ref he, .ref hm])), (ys, .inl (cI, aI 14 gst))]) [1, 2, 0] rfl rfl ?_
    refine g_wide (k := 0) (n := 0) (Nat.le_of_ble_eq_true rfl) (Nat.le_of_ble_eq_true rfl) ?_
    exact hret _ _ _ () (by rw [bI_f (by omega)]) (by decide) std_Y_hasNode_26
  · refine g_iload_n C 2 std_Y_hasNode_8 rfl ?_
    refine g_if_lt (tgt := 25) C std_Y_hasNode_9 (by decide) ⟨by omega, by omega⟩ (fun c5 => ?_) (fun c5 => ?_)
    · refine g_iconst C std_Y_hasNode_25 ?_
      refine g_sub (ws' := [(y0, .inr (2, [.ref t0, .int (iI total), .ref ys, .ref yk, .ref yc, .ref yd, .ref yw, .ref yx, .ref yb, .ref yu])), (t0, .inr (1, [.int (iI steps), .int (iI choices), .int (iI bars), .ref hs, .ref hc, .ref hf, .ref hg, .ref hb, .ref he, .ref hm])), (ys, .inl (cI, aI 14 gst))]) [1, 2, 0] rfl rfl ?_
      refine g_wide (k := 0) (n := 0) (Nat.le_of_ble_eq_true rfl) (Nat.le_of_ble_eq_true rfl) ?_
      exact hret _ _ _ () (by rw [bI_f (by omega)]) (by decide) std_Y_hasNode_26
    · refine g_iload_n C 2 std_Y_hasNode_12 rfl ?_
      refine g_aload_n C 0 std_Y_hasNode_13 rfl ?_
      refine g_iload_n C 1 std_Y_hasNode_14 rfl ?_
      refine g_V_i (wc := [(y0, .inr (2, [.ref t0, .int (iI total), .ref ys, .ref yk, .ref yc, .ref yd, .ref yw, .ref yx, .ref yb, .ref yu])), (ys, .inl (cI, aI 14 gst))]) (wr := [(t0, .inr (1, [.int (iI steps), .int (iI choices), .int (iI bars), .ref hs, .ref hc, .ref hf, .ref hg, .ref hb, .ref he, .ref hm]))]) (rest := [.int (iI b)]) C (c_sizeOf l dC dI cI cJ cZ y0 ys yk yc yd yw yx yb yu total t0 gst a (by omega)) (st_cV C kw_2_43 kw_2_40 kw_1_3 kw_2_41 kw_2_42 sth_Y_sizeOf ⟨Nat.le_of_ble_eq_true rfl, Nat.le_of_ble_eq_true rfl⟩) 0 rfl rfl rfl rfl (Nat.le_of_ble_eq_true rfl) std_Y_hasNode_15 ⟨Nat.le_of_ble_eq_true rfl, Nat.le_of_ble_eq_true rfl⟩ [1, 0] [2] rfl rfl rfl rfl (by decide) (fun r6 u7 h8 => ?_)
      subst h8
      refine g_ws (ws' := [(t0, .inr (1, [.int (iI steps), .int (iI choices), .int (iI bars), .ref hs, .ref hc, .ref hf, .ref hg, .ref hb, .ref he, .ref hm])), (y0, .inr (2, [.ref t0, .int (iI total), .ref ys, .ref yk, .ref yc, .ref yd, .ref yw, .ref yx, .ref yb, .ref yu])), (ys, .inl (cI, aI 14 gst))]) rfl ?_
      have hq0 := kgst a (by omega) (by omega)
      have hq1 := kgst (a + 1) (by omega) (by omega)
      refine g_icmp_ge (tgt := 25) C std_Y_hasNode_18 (by decide) ⟨by omega, by omega⟩ ⟨by omega, by omega⟩ (fun c9 => ?_) (fun c9 => ?_)
      · refine g_iconst C std_Y_hasNode_25 ?_
        refine g_sub (ws' := [(y0, .inr (2, [.ref t0, .int (iI total), .ref ys, .ref yk, .ref yc, .ref yd, .ref yw, .ref yx, .ref yb, .ref yu])), (t0, .inr (1, [.int (iI steps), .int (iI choices), .int (iI bars), .ref hs, .ref hc, .ref hf, .ref hg, .ref hb, .ref he, .ref hm])), (ys, .inl (cI, aI 14 gst))]) [1, 0, 2] rfl rfl ?_
        refine g_wide (k := 0) (n := 0) (Nat.le_of_ble_eq_true rfl) (Nat.le_of_ble_eq_true rfl) ?_
        exact hret _ _ _ () (by rw [bI_f (by omega)]) (by decide) std_Y_hasNode_26
      · refine g_iconst C std_Y_hasNode_21 ?_
        refine g_goto (tgt := 26) C std_Y_hasNode_22 (by decide) ?_
        refine g_sub (ws' := [(y0, .inr (2, [.ref t0, .int (iI total), .ref ys, .ref yk, .ref yc, .ref yd, .ref yw, .ref yx, .ref yb, .ref yu])), (t0, .inr (1, [.int (iI steps), .int (iI choices), .int (iI bars), .ref hs, .ref hc, .ref hf, .ref hg, .ref hb, .ref he, .ref hm])), (ys, .inl (cI, aI 14 gst))]) [1, 0, 2] rfl rfl ?_
        refine g_wide (k := 0) (n := 0) (Nat.le_of_ble_eq_true rfl) (Nat.le_of_ble_eq_true rfl) ?_
        exact hret _ _ _ () (by rw [bI_t (by omega)]) (by decide) std_Y_hasNode_26

abbrev sty_Y_nodeBehind : MethodName := ⟨"StateTables$Layers", "nodeBehind", "(II)I"⟩
abbrev stc_Y_nodeBehind : ByteArray := prog_3_method_5_code
theorem sth_Y_nodeBehind : (sty_Y_nodeBehind).cls ≠ "java/lang/invoke/MethodHandle" ∧ (sty_Y_nodeBehind).cls ≠ "java/lang/invoke/VarHandle" ∧ (parseMethodDescriptor (sty_Y_nodeBehind).desc).map (fun d => d.parameters.length) = some 2 := by decide +kernel
theorem std_Y_nodeBehind_0 : decode stc_Y_nodeBehind 0 = .ok (.aload_n 0, 1) := by decide +kernel
theorem std_Y_nodeBehind_1 : decode stc_Y_nodeBehind 1 = .ok (.getfield 31, 3) := by decide +kernel
theorem kw_1_99 : Cond.fieldLink "StateTables$Layers" 31 "StateTables$Layers" "behind" "[I" ∈ stGW := st_t1 (List.mem_of_getElem? (i := 99) (by decide +kernel)) (by decide +kernel)
theorem std_Y_nodeBehind_4 : decode stc_Y_nodeBehind 4 = .ok (.iload_n 1, 1) := by decide +kernel
theorem std_Y_nodeBehind_5 : decode stc_Y_nodeBehind 5 = .ok (.bipush 6, 2) := by decide +kernel
theorem std_Y_nodeBehind_7 : decode stc_Y_nodeBehind 7 = .ok (.imul, 1) := by decide +kernel
theorem std_Y_nodeBehind_8 : decode stc_Y_nodeBehind 8 = .ok (.iload_n 2, 1) := by decide +kernel
theorem std_Y_nodeBehind_9 : decode stc_Y_nodeBehind 9 = .ok (.iadd, 1) := by decide +kernel
theorem std_Y_nodeBehind_10 : decode stc_Y_nodeBehind 10 = .ok (.iaload, 1) := by decide +kernel
theorem std_Y_nodeBehind_11 : decode stc_Y_nodeBehind 11 = .ok (.ireturn, 1) := by decide +kernel
set_option maxHeartbeats 4000000 in
set_option maxRecDepth 100000 in
theorem c_nodeBehind (l : Launch) (dC : Nat → ClassId) (dI : Nat → Nat → Nat) (cI cJ cZ : ClassId) (y0 : Nat) (ys : Nat) (yk : Nat) (yc : Nat) (yd : Nat) (yw : Nat) (yx : Nat) (yb : Nat) (yu : Nat) (total : Int) (t0 : Nat) (cap : Nat) (gbe : Int → Int) (a : Int) (b : Int) (kcap : cap ≤ 4801) (ka : 0 ≤ (a * 6) + b ∧ (a * 6) + b < 6 * (cap : Int)) : ∀ sz, Met l sty_Y_nodeBehind (Cond.code sty_Y_nodeBehind stc_Y_nodeBehind 3 (some .int) :: stGW) ({ frames := 0, cells := 0, slots := 0, locals := 0 } : Room) (va_Pc [.ref y0, .int (iI a), .int (iI b)] (zPre (dC, dI) stCl [(cI, .int), (cJ, .long), (cZ, .boolean)] st_nw [(y0, .inr (2, [.ref t0, .int (iI total), .ref ys, .ref yk, .ref yc, .ref yd, .ref yw, .ref yx, .ref yb, .ref yu])), (yb, .inl (cI, aI (6 * cap) gbe))] sz)) (va_Qi (fun (r : Int32) (_ : Unit) => r = iI (gbe ((a * 6) + b))) (zPost (dC, dI) stCl [(cI, .int), (cJ, .long), (cZ, .boolean)] [(y0, .inr (2, [.ref t0, .int (iI total), .ref ys, .ref yk, .ref yc, .ref yd, .ref yw, .ref yx, .ref yb, .ref yu])), (yb, .inl (cI, aI (6 * cap) gbe))] sz (fun _ : Unit => [(y0, .inr (2, [.ref t0, .int (iI total), .ref ys, .ref yk, .ref yc, .ref yd, .ref yw, .ref yx, .ref yb, .ref yu])), (yb, .inl (cI, aI (6 * cap) gbe))])) (va_A [(y0, .inr (2, [.ref t0, .int (iI total), .ref ys, .ref yk, .ref yc, .ref yd, .ref yw, .ref yx, .ref yb, .ref yu])), (yb, .inl (cI, aI (6 * cap) gbe))] sz)) 0 0 (va_A [(y0, .inr (2, [.ref t0, .int (iI total), .ref ys, .ref yk, .ref yc, .ref yd, .ref yw, .ref yx, .ref yb, .ref yu])), (yb, .inl (cI, aI (6 * cap) gbe))] sz) := by
  refine met_i (by decide) rfl (Nat.le_of_ble_eq_true rfl) ?_
  intro p e s m below meth c A Q C hmn hret
  refine g_aload_n C 0 std_Y_nodeBehind_0 rfl ?_
  refine g_get C (st_sub sti_Y) 0 rfl rfl 8 (by decide) (List.mem_cons_of_mem _ kw_1_99) rfl rfl std_Y_nodeBehind_1 ?_
  refine g_iload_n C 1 std_Y_nodeBehind_4 rfl ?_
  refine g_bipush C std_Y_nodeBehind_5 (by decide) ?_
  refine g_imul C std_Y_nodeBehind_7 ?_
  refine g_iload_n C 2 std_Y_nodeBehind_8 rfl ?_
  refine g_iadd C std_Y_nodeBehind_9 ?_
  refine g_iald C 1 0 rfl rfl (by omega) (by omega) (by omega) std_Y_nodeBehind_10 ?_
  exact hret _ _ _ () (rfl) std_Y_nodeBehind_11

abbrev sty_Y_leastFrom : MethodName := ⟨"StateTables$Layers", "leastFrom", "(I)I"⟩
abbrev stc_Y_leastFrom : ByteArray := prog_3_method_6_code
theorem sth_Y_leastFrom : (sty_Y_leastFrom).cls ≠ "java/lang/invoke/MethodHandle" ∧ (sty_Y_leastFrom).cls ≠ "java/lang/invoke/VarHandle" ∧ (parseMethodDescriptor (sty_Y_leastFrom).desc).map (fun d => d.parameters.length) = some 1 := by decide +kernel
theorem std_Y_leastFrom_0 : decode stc_Y_leastFrom 0 = .ok (.aload_n 0, 1) := by decide +kernel
theorem std_Y_leastFrom_1 : decode stc_Y_leastFrom 1 = .ok (.getfield 28, 3) := by decide +kernel
theorem kw_1_96 : Cond.fieldLink "StateTables$Layers" 28 "StateTables$Layers" "waysFrom" "[J" ∈ stGW := st_t1 (List.mem_of_getElem? (i := 96) (by decide +kernel)) (by decide +kernel)
theorem std_Y_leastFrom_4 : decode stc_Y_leastFrom 4 = .ok (.iload_n 1, 1) := by decide +kernel
theorem std_Y_leastFrom_5 : decode stc_Y_leastFrom 5 = .ok (.laload, 1) := by decide +kernel
theorem std_Y_leastFrom_6 : decode stc_Y_leastFrom 6 = .ok (.lconst 0, 1) := by decide +kernel
theorem std_Y_leastFrom_7 : decode stc_Y_leastFrom 7 = .ok (.lcmp, 1) := by decide +kernel
theorem std_Y_leastFrom_8 : decode stc_Y_leastFrom 8 = .ok (.ifCond .le 12, 3) := by decide +kernel
theorem std_Y_leastFrom_20 : decode stc_Y_leastFrom 20 = .ok (.ldc 55, 2) := by decide +kernel
theorem kw_2_151 : Cond.constant "StateTables$Layers" 55 (-1000000) ∈ stGW := st_t2 (List.mem_of_getElem? (i := 151) (by decide +kernel)) (by decide +kernel)
theorem std_Y_leastFrom_22 : decode stc_Y_leastFrom 22 = .ok (.ireturn, 1) := by decide +kernel
theorem std_Y_leastFrom_11 : decode stc_Y_leastFrom 11 = .ok (.aload_n 0, 1) := by decide +kernel
theorem std_Y_leastFrom_12 : decode stc_Y_leastFrom 12 = .ok (.getfield 21, 3) := by decide +kernel
theorem kw_1_92 : Cond.fieldLink "StateTables$Layers" 21 "StateTables$Layers" "costFrom" "[I" ∈ stGW := st_t1 (List.mem_of_getElem? (i := 92) (by decide +kernel)) (by decide +kernel)
theorem std_Y_leastFrom_15 : decode stc_Y_leastFrom 15 = .ok (.iload_n 1, 1) := by decide +kernel
theorem std_Y_leastFrom_16 : decode stc_Y_leastFrom 16 = .ok (.iaload, 1) := by decide +kernel
theorem std_Y_leastFrom_17 : decode stc_Y_leastFrom 17 = .ok (.goto 5, 3) := by decide +kernel
set_option maxHeartbeats 4000000 in
set_option maxRecDepth 100000 in
theorem c_leastFrom (l : Launch) (dC : Nat → ClassId) (dI : Nat → Nat → Nat) (cI cJ cZ : ClassId) (y0 : Nat) (ys : Nat) (yk : Nat) (yc : Nat) (yd : Nat) (yw : Nat) (yx : Nat) (yb : Nat) (yu : Nat) (total : Int) (t0 : Nat) (cap : Nat) (gcf : Int → Int) (gwf : Int → Int) (a : Int) (kcap : cap ≤ 4801) (ka : 0 ≤ a ∧ a < (cap : Int)) (kw : rL (gwf a)) : ∀ sz, Met l sty_Y_leastFrom (Cond.code sty_Y_leastFrom stc_Y_leastFrom 2 (some .int) :: stGW) ({ frames := 0, cells := 0, slots := 0, locals := 0 } : Room) (va_Pc [.ref y0, .int (iI a)] (zPre (dC, dI) stCl [(cI, .int), (cJ, .long), (cZ, .boolean)] st_nw [(y0, .inr (2, [.ref t0, .int (iI total), .ref ys, .ref yk, .ref yc, .ref yd, .ref yw, .ref yx, .ref yb, .ref yu])), (yd, .inl (cI, aI cap gcf)), (yx, .inl (cJ, aL cap gwf))] sz)) (va_Qi (fun (r : Int32) (_ : Unit) => r = iI (if 0 < gwf a then gcf a else (-1000000))) (zPost (dC, dI) stCl [(cI, .int), (cJ, .long), (cZ, .boolean)] [(y0, .inr (2, [.ref t0, .int (iI total), .ref ys, .ref yk, .ref yc, .ref yd, .ref yw, .ref yx, .ref yb, .ref yu])), (yd, .inl (cI, aI cap gcf)), (yx, .inl (cJ, aL cap gwf))] sz (fun _ : Unit => [(y0, .inr (2, [.ref t0, .int (iI total), .ref ys, .ref yk, .ref yc, .ref yd, .ref yw, .ref yx, .ref yb, .ref yu])), (yd, .inl (cI, aI cap gcf)), (yx, .inl (cJ, aL cap gwf))])) (va_A [(y0, .inr (2, [.ref t0, .int (iI total), .ref ys, .ref yk, .ref yc, .ref yd, .ref yw, .ref yx, .ref yb, .ref yu])), (yd, .inl (cI, aI cap gcf)), (yx, .inl (cJ, aL cap gwf))] sz)) 0 0 (va_A [(y0, .inr (2, [.ref t0, .int (iI total), .ref ys, .ref yk, .ref yc, .ref yd, .ref yw, .ref yx, .ref yb, .ref yu])), (yd, .inl (cI, aI cap gcf)), (yx, .inl (cJ, aL cap gwf))] sz) := by
  refine met_i (by decide) rfl (Nat.le_of_ble_eq_true rfl) ?_
  intro p e s m below meth c A Q C hmn hret
  refine g_aload_n C 0 std_Y_leastFrom_0 rfl ?_
  refine g_get C (st_sub sti_Y) 0 rfl rfl 7 (by decide) (List.mem_cons_of_mem _ kw_1_96) rfl rfl std_Y_leastFrom_1 ?_
  refine g_iload_n C 1 std_Y_leastFrom_4 rfl ?_
  refine g_lald C 2 1 rfl rfl (by omega) (by omega) (by omega) std_Y_leastFrom_5 ?_
  refine g_lconst C (z := 0) std_Y_leastFrom_6 (by decide) ?_
  refine g_lcmp_le (tgt := 20) C std_Y_leastFrom_7 std_Y_leastFrom_8 (by decide) ⟨by omega, by omega⟩ ⟨by omega, by omega⟩ (fun c1 => ?_) (fun c1 => ?_)
  · refine g_ldc C (z := (-1000000)) (List.mem_cons_of_mem _ kw_2_151) (by decide) std_Y_leastFrom_20 ?_
    exact hret _ _ _ () (by rw [if_neg (by omega)]) std_Y_leastFrom_22
  · refine g_aload_n C 0 std_Y_leastFrom_11 rfl ?_
    refine g_get C (st_sub sti_Y) 0 rfl rfl 5 (by decide) (List.mem_cons_of_mem _ kw_1_92) rfl rfl std_Y_leastFrom_12 ?_
    refine g_iload_n C 1 std_Y_leastFrom_15 rfl ?_
    refine g_iald C 1 0 rfl rfl (by omega) (by omega) (by omega) std_Y_leastFrom_16 ?_
    refine g_goto (tgt := 22) C std_Y_leastFrom_17 (by decide) ?_
    exact hret _ _ _ () (by rw [if_pos (by omega)]) std_Y_leastFrom_22

abbrev sty_Y_isAsGoodOf : MethodName := ⟨"StateTables$Layers", "isAsGoodOf", "(III)Z"⟩
abbrev stc_Y_isAsGoodOf : ByteArray := prog_3_method_18_code
theorem sth_Y_isAsGoodOf : (sty_Y_isAsGoodOf).cls ≠ "java/lang/invoke/MethodHandle" ∧ (sty_Y_isAsGoodOf).cls ≠ "java/lang/invoke/VarHandle" ∧ (parseMethodDescriptor (sty_Y_isAsGoodOf).desc).map (fun d => d.parameters.length) = some 3 := by decide +kernel
theorem std_Y_isAsGoodOf_0 : decode stc_Y_isAsGoodOf 0 = .ok (.aload_n 0, 1) := by decide +kernel
theorem std_Y_isAsGoodOf_1 : decode stc_Y_isAsGoodOf 1 = .ok (.getfield 37, 3) := by decide +kernel
theorem std_Y_isAsGoodOf_4 : decode stc_Y_isAsGoodOf 4 = .ok (.getfield 148, 3) := by decide +kernel
theorem kw_1_52 : Cond.fieldLink "StateTables$Layers" 148 "StateTables$Told" "least" "[I" ∈ stGW := st_t1 (List.mem_of_getElem? (i := 52) (by decide +kernel)) (by decide +kernel)
theorem std_Y_isAsGoodOf_7 : decode stc_Y_isAsGoodOf 7 = .ok (.iload_n 1, 1) := by decide +kernel
theorem std_Y_isAsGoodOf_8 : decode stc_Y_isAsGoodOf 8 = .ok (.iaload, 1) := by decide +kernel
theorem std_Y_isAsGoodOf_9 : decode stc_Y_isAsGoodOf 9 = .ok (.ifCond .le 16, 3) := by decide +kernel
theorem std_Y_isAsGoodOf_25 : decode stc_Y_isAsGoodOf 25 = .ok (.iload_n 2, 1) := by decide +kernel
theorem std_Y_isAsGoodOf_26 : decode stc_Y_isAsGoodOf 26 = .ok (.iload_n 3, 1) := by decide +kernel
theorem std_Y_isAsGoodOf_27 : decode stc_Y_isAsGoodOf 27 = .ok (.if_icmp .gt 7, 3) := by decide +kernel
theorem std_Y_isAsGoodOf_34 : decode stc_Y_isAsGoodOf 34 = .ok (.iconst 0, 1) := by decide +kernel
theorem std_Y_isAsGoodOf_35 : decode stc_Y_isAsGoodOf 35 = .ok (.ireturn, 1) := by decide +kernel
theorem std_Y_isAsGoodOf_30 : decode stc_Y_isAsGoodOf 30 = .ok (.iconst 1, 1) := by decide +kernel
theorem std_Y_isAsGoodOf_31 : decode stc_Y_isAsGoodOf 31 = .ok (.goto 4, 3) := by decide +kernel
theorem std_Y_isAsGoodOf_12 : decode stc_Y_isAsGoodOf 12 = .ok (.iload_n 2, 1) := by decide +kernel
theorem std_Y_isAsGoodOf_13 : decode stc_Y_isAsGoodOf 13 = .ok (.iload_n 3, 1) := by decide +kernel
theorem std_Y_isAsGoodOf_14 : decode stc_Y_isAsGoodOf 14 = .ok (.if_icmp .ne 7, 3) := by decide +kernel
theorem std_Y_isAsGoodOf_21 : decode stc_Y_isAsGoodOf 21 = .ok (.iconst 0, 1) := by decide +kernel
theorem std_Y_isAsGoodOf_22 : decode stc_Y_isAsGoodOf 22 = .ok (.goto 13, 3) := by decide +kernel
theorem std_Y_isAsGoodOf_17 : decode stc_Y_isAsGoodOf 17 = .ok (.iconst 1, 1) := by decide +kernel
theorem std_Y_isAsGoodOf_18 : decode stc_Y_isAsGoodOf 18 = .ok (.goto 17, 3) := by decide +kernel
set_option maxHeartbeats 4000000 in
set_option maxRecDepth 100000 in
theorem c_isAsGoodOf (l : Launch) (dC : Nat → ClassId) (dI : Nat → Nat → Nat) (cI cJ cZ : ClassId) (y0 : Nat) (ys : Nat) (yk : Nat) (yc : Nat) (yd : Nat) (yw : Nat) (yx : Nat) (yb : Nat) (yu : Nat) (total : Int) (t0 : Nat) (hs : Nat) (hc : Nat) (hf : Nat) (hg : Nat) (hb : Nat) (he : Nat) (hm : Nat) (steps : Int) (choices : Int) (bars : Int) (fle : Int → Int) (k : Int) (a : Int) (b : Int) (kle : ∀ j, 0 ≤ j → j < 2 → 0 ≤ fle j ∧ fle j ≤ 40) (kk : 0 ≤ k ∧ k < 2) (ka : rI a) (kb : rI b) : ∀ sz, Met l sty_Y_isAsGoodOf (Cond.code sty_Y_isAsGoodOf stc_Y_isAsGoodOf 4 (some .boolean) :: stGW) ({ frames := 0, cells := 0, slots := 0, locals := 0 } : Room) (va_Pc [.ref y0, .int (iI k), .int (iI a), .int (iI b)] (zPre (dC, dI) stCl [(cI, .int), (cJ, .long), (cZ, .boolean)] st_nw [(y0, .inr (2, [.ref t0, .int (iI total), .ref ys, .ref yk, .ref yc, .ref yd, .ref yw, .ref yx, .ref yb, .ref yu])), (t0, .inr (1, [.int (iI steps), .int (iI choices), .int (iI bars), .ref hs, .ref hc, .ref hf, .ref hg, .ref hb, .ref he, .ref hm])), (he, .inl (cI, aI 2 fle))] sz)) (va_Qi (fun (r : Int32) (_ : Unit) => r = iI (bI ((0 < fle k ∧ a = b) ∨ (fle k ≤ 0 ∧ a ≤ b)))) (zPost (dC, dI) stCl [(cI, .int), (cJ, .long), (cZ, .boolean)] [(y0, .inr (2, [.ref t0, .int (iI total), .ref ys, .ref yk, .ref yc, .ref yd, .ref yw, .ref yx, .ref yb, .ref yu])), (t0, .inr (1, [.int (iI steps), .int (iI choices), .int (iI bars), .ref hs, .ref hc, .ref hf, .ref hg, .ref hb, .ref he, .ref hm])), (he, .inl (cI, aI 2 fle))] sz (fun _ : Unit => [(y0, .inr (2, [.ref t0, .int (iI total), .ref ys, .ref yk, .ref yc, .ref yd, .ref yw, .ref yx, .ref yb, .ref yu])), (t0, .inr (1, [.int (iI steps), .int (iI choices), .int (iI bars), .ref hs, .ref hc, .ref hf, .ref hg, .ref hb, .ref he, .ref hm])), (he, .inl (cI, aI 2 fle))])) (va_A [(y0, .inr (2, [.ref t0, .int (iI total), .ref ys, .ref yk, .ref yc, .ref yd, .ref yw, .ref yx, .ref yb, .ref yu])), (t0, .inr (1, [.int (iI steps), .int (iI choices), .int (iI bars), .ref hs, .ref hc, .ref hf, .ref hg, .ref hb, .ref he, .ref hm])), (he, .inl (cI, aI 2 fle))] sz)) 0 0 (va_A [(y0, .inr (2, [.ref t0, .int (iI total), .ref ys, .ref yk, .ref yc, .ref yd, .ref yw, .ref yx, .ref yb, .ref yu])), (t0, .inr (1, [.int (iI steps), .int (iI choices), .int (iI bars), .ref hs, .ref hc, .ref hf, .ref hg, .ref hb, .ref he, .ref hm])), (he, .inl (cI, aI 2 fle))] sz) := by
  refine met_z (by decide) rfl (Nat.le_of_ble_eq_true rfl) ?_
  intro p e s m below meth c A Q C hmn hret
  have hq := kle k (by omega) (by omega)
  refine g_aload_n C 0 std_Y_isAsGoodOf_0 rfl ?_
  refine g_get C (st_sub sti_Y) 0 rfl rfl 0 (by decide) (List.mem_cons_of_mem _ kw_1_83) rfl rfl std_Y_isAsGoodOf_1 ?_
  refine g_get C (st_sub sti_T) 1 rfl rfl 8 (by decide) (List.mem_cons_of_mem _ kw_1_52) rfl rfl std_Y_isAsGoodOf_4 ?_
  refine g_iload_n C 1 std_Y_isAsGoodOf_7 rfl ?_
  refine g_iald C 2 0 rfl rfl (by omega) (by omega) (by omega) std_Y_isAsGoodOf_8 ?_
  refine g_if_le (tgt := 25) C std_Y_isAsGoodOf_9 (by decide) ⟨by omega, by omega⟩ (fun c1 => ?_) (fun c1 => ?_)
  · refine g_iload_n C 2 std_Y_isAsGoodOf_25 rfl ?_
    refine g_iload_n C 3 std_Y_isAsGoodOf_26 rfl ?_
    refine g_icmp_gt (tgt := 34) C std_Y_isAsGoodOf_27 (by decide) ⟨by omega, by omega⟩ ⟨by omega, by omega⟩ (fun c2 => ?_) (fun c2 => ?_)
    · refine g_iconst C std_Y_isAsGoodOf_34 ?_
      exact hret _ _ _ () (by rw [bI_f (by omega)]) (by decide) std_Y_isAsGoodOf_35
    · refine g_iconst C std_Y_isAsGoodOf_30 ?_
      refine g_goto (tgt := 35) C std_Y_isAsGoodOf_31 (by decide) ?_
      exact hret _ _ _ () (by rw [bI_t (by omega)]) (by decide) std_Y_isAsGoodOf_35
  · refine g_iload_n C 2 std_Y_isAsGoodOf_12 rfl ?_
    refine g_iload_n C 3 std_Y_isAsGoodOf_13 rfl ?_
    refine g_icmp_ne (tgt := 21) C std_Y_isAsGoodOf_14 (by decide) ⟨by omega, by omega⟩ ⟨by omega, by omega⟩ (fun c3 => ?_) (fun c3 => ?_)
    · refine g_iconst C std_Y_isAsGoodOf_21 ?_
      refine g_goto (tgt := 35) C std_Y_isAsGoodOf_22 (by decide) ?_
      exact hret _ _ _ () (by rw [bI_f (by omega)]) (by decide) std_Y_isAsGoodOf_35
    · refine g_iconst C std_Y_isAsGoodOf_17 ?_
      refine g_goto (tgt := 35) C std_Y_isAsGoodOf_18 (by decide) ?_
      exact hret _ _ _ () (by rw [bI_t (by omega)]) (by decide) std_Y_isAsGoodOf_35

abbrev sty_Y_isAsGood : MethodName := ⟨"StateTables$Layers", "isAsGood", "(II)Z"⟩
abbrev stc_Y_isAsGood : ByteArray := prog_3_method_17_code
theorem sth_Y_isAsGood : (sty_Y_isAsGood).cls ≠ "java/lang/invoke/MethodHandle" ∧ (sty_Y_isAsGood).cls ≠ "java/lang/invoke/VarHandle" ∧ (parseMethodDescriptor (sty_Y_isAsGood).desc).map (fun d => d.parameters.length) = some 2 := by decide +kernel
theorem std_Y_isAsGood_0 : decode stc_Y_isAsGood 0 = .ok (.aload_n 0, 1) := by decide +kernel
theorem std_Y_isAsGood_1 : decode stc_Y_isAsGood 1 = .ok (.getfield 15, 3) := by decide +kernel
theorem kw_1_88 : Cond.fieldLink "StateTables$Layers" 15 "StateTables$Layers" "keys" "[I" ∈ stGW := st_t1 (List.mem_of_getElem? (i := 88) (by decide +kernel)) (by decide +kernel)
theorem std_Y_isAsGood_4 : decode stc_Y_isAsGood 4 = .ok (.iload_n 1, 1) := by decide +kernel
theorem std_Y_isAsGood_5 : decode stc_Y_isAsGood 5 = .ok (.iaload, 1) := by decide +kernel
theorem std_Y_isAsGood_6 : decode stc_Y_isAsGood 6 = .ok (.invokestatic 107, 3) := by decide +kernel
theorem kw_2_83 : Cond.code sty_S_lastChoice stc_S_lastChoice 1 (some .int) ∈ stGW := st_t2 (List.mem_of_getElem? (i := 83) (by decide +kernel)) (by decide +kernel)
theorem kw_2_82 : Cond.static (sty_S_lastChoice) ∈ stGW := st_t2 (List.mem_of_getElem? (i := 82) (by decide +kernel)) (by decide +kernel)
theorem std_Y_isAsGood_9 : decode stc_Y_isAsGood 9 = .ok (.aload_n 0, 1) := by decide +kernel
theorem std_Y_isAsGood_10 : decode stc_Y_isAsGood 10 = .ok (.getfield 15, 3) := by decide +kernel
theorem std_Y_isAsGood_13 : decode stc_Y_isAsGood 13 = .ok (.iload_n 2, 1) := by decide +kernel
theorem std_Y_isAsGood_14 : decode stc_Y_isAsGood 14 = .ok (.iaload, 1) := by decide +kernel
theorem std_Y_isAsGood_15 : decode stc_Y_isAsGood 15 = .ok (.invokestatic 107, 3) := by decide +kernel
theorem std_Y_isAsGood_18 : decode stc_Y_isAsGood 18 = .ok (.if_icmp .ne 74, 3) := by decide +kernel
theorem std_Y_isAsGood_92 : decode stc_Y_isAsGood 92 = .ok (.iconst 0, 1) := by decide +kernel
theorem std_Y_isAsGood_93 : decode stc_Y_isAsGood 93 = .ok (.ireturn, 1) := by decide +kernel
theorem std_Y_isAsGood_21 : decode stc_Y_isAsGood 21 = .ok (.aload_n 0, 1) := by decide +kernel
theorem std_Y_isAsGood_22 : decode stc_Y_isAsGood 22 = .ok (.getfield 18, 3) := by decide +kernel
theorem kw_1_90 : Cond.fieldLink "StateTables$Layers" 18 "StateTables$Layers" "costTo" "[I" ∈ stGW := st_t1 (List.mem_of_getElem? (i := 90) (by decide +kernel)) (by decide +kernel)
theorem std_Y_isAsGood_25 : decode stc_Y_isAsGood 25 = .ok (.iload_n 1, 1) := by decide +kernel
theorem std_Y_isAsGood_26 : decode stc_Y_isAsGood 26 = .ok (.iaload, 1) := by decide +kernel
theorem std_Y_isAsGood_27 : decode stc_Y_isAsGood 27 = .ok (.aload_n 0, 1) := by decide +kernel
theorem std_Y_isAsGood_28 : decode stc_Y_isAsGood 28 = .ok (.getfield 18, 3) := by decide +kernel
theorem std_Y_isAsGood_31 : decode stc_Y_isAsGood 31 = .ok (.iload_n 2, 1) := by decide +kernel
theorem std_Y_isAsGood_32 : decode stc_Y_isAsGood 32 = .ok (.iaload, 1) := by decide +kernel
theorem std_Y_isAsGood_33 : decode stc_Y_isAsGood 33 = .ok (.if_icmp .gt 59, 3) := by decide +kernel
theorem std_Y_isAsGood_36 : decode stc_Y_isAsGood 36 = .ok (.aload_n 0, 1) := by decide +kernel
theorem std_Y_isAsGood_37 : decode stc_Y_isAsGood 37 = .ok (.iconst 0, 1) := by decide +kernel
theorem std_Y_isAsGood_38 : decode stc_Y_isAsGood 38 = .ok (.aload_n 0, 1) := by decide +kernel
theorem std_Y_isAsGood_39 : decode stc_Y_isAsGood 39 = .ok (.getfield 15, 3) := by decide +kernel
theorem std_Y_isAsGood_42 : decode stc_Y_isAsGood 42 = .ok (.iload_n 1, 1) := by decide +kernel
theorem std_Y_isAsGood_43 : decode stc_Y_isAsGood 43 = .ok (.iaload, 1) := by decide +kernel
theorem std_Y_isAsGood_44 : decode stc_Y_isAsGood 44 = .ok (.invokestatic 110, 3) := by decide +kernel
theorem kw_2_86 : Cond.code sty_S_usedOfFirst stc_S_usedOfFirst 1 (some .int) ∈ stGW := st_t2 (List.mem_of_getElem? (i := 86) (by decide +kernel)) (by decide +kernel)
theorem kw_2_85 : Cond.static (sty_S_usedOfFirst) ∈ stGW := st_t2 (List.mem_of_getElem? (i := 85) (by decide +kernel)) (by decide +kernel)
theorem std_Y_isAsGood_47 : decode stc_Y_isAsGood 47 = .ok (.aload_n 0, 1) := by decide +kernel
theorem std_Y_isAsGood_48 : decode stc_Y_isAsGood 48 = .ok (.getfield 15, 3) := by decide +kernel
theorem std_Y_isAsGood_51 : decode stc_Y_isAsGood 51 = .ok (.iload_n 2, 1) := by decide +kernel
theorem std_Y_isAsGood_52 : decode stc_Y_isAsGood 52 = .ok (.iaload, 1) := by decide +kernel
theorem std_Y_isAsGood_53 : decode stc_Y_isAsGood 53 = .ok (.invokestatic 110, 3) := by decide +kernel
theorem std_Y_isAsGood_56 : decode stc_Y_isAsGood 56 = .ok (.invokevirtual 144, 3) := by decide +kernel
theorem kw_2_215 : Cond.code sty_Y_isAsGoodOf stc_Y_isAsGoodOf 4 (some .boolean) ∈ stGW := st_t2 (List.mem_of_getElem? (i := 215) (by decide +kernel)) (by decide +kernel)
theorem kw_2_212 : Cond.methodLink "StateTables$Layers" 144 (sty_Y_isAsGoodOf) ∈ stGW := st_t2 (List.mem_of_getElem? (i := 212) (by decide +kernel)) (by decide +kernel)
theorem kw_2_214 : Cond.instanceMethod (sty_Y_isAsGoodOf) ∈ stGW := st_t2 (List.mem_of_getElem? (i := 214) (by decide +kernel)) (by decide +kernel)
theorem kw_0_11 : Cond.selects "StateTables$Layers" (sty_Y_isAsGoodOf) (sty_Y_isAsGoodOf) ∈ stGW := st_t0 (List.mem_of_getElem? (i := 11) (by decide +kernel)) (by decide +kernel)
theorem std_Y_isAsGood_59 : decode stc_Y_isAsGood 59 = .ok (.ifCond .eq 33, 3) := by decide +kernel
theorem std_Y_isAsGood_62 : decode stc_Y_isAsGood 62 = .ok (.aload_n 0, 1) := by decide +kernel
theorem std_Y_isAsGood_63 : decode stc_Y_isAsGood 63 = .ok (.iconst 1, 1) := by decide +kernel
theorem std_Y_isAsGood_64 : decode stc_Y_isAsGood 64 = .ok (.aload_n 0, 1) := by decide +kernel
theorem std_Y_isAsGood_65 : decode stc_Y_isAsGood 65 = .ok (.getfield 15, 3) := by decide +kernel
theorem std_Y_isAsGood_68 : decode stc_Y_isAsGood 68 = .ok (.iload_n 1, 1) := by decide +kernel
theorem std_Y_isAsGood_69 : decode stc_Y_isAsGood 69 = .ok (.iaload, 1) := by decide +kernel
theorem std_Y_isAsGood_70 : decode stc_Y_isAsGood 70 = .ok (.invokestatic 116, 3) := by decide +kernel
theorem kw_2_89 : Cond.code sty_S_usedOfSecond stc_S_usedOfSecond 1 (some .int) ∈ stGW := st_t2 (List.mem_of_getElem? (i := 89) (by decide +kernel)) (by decide +kernel)
theorem kw_2_88 : Cond.static (sty_S_usedOfSecond) ∈ stGW := st_t2 (List.mem_of_getElem? (i := 88) (by decide +kernel)) (by decide +kernel)
theorem std_Y_isAsGood_73 : decode stc_Y_isAsGood 73 = .ok (.aload_n 0, 1) := by decide +kernel
theorem std_Y_isAsGood_74 : decode stc_Y_isAsGood 74 = .ok (.getfield 15, 3) := by decide +kernel
theorem std_Y_isAsGood_77 : decode stc_Y_isAsGood 77 = .ok (.iload_n 2, 1) := by decide +kernel
theorem std_Y_isAsGood_78 : decode stc_Y_isAsGood 78 = .ok (.iaload, 1) := by decide +kernel
theorem std_Y_isAsGood_79 : decode stc_Y_isAsGood 79 = .ok (.invokestatic 116, 3) := by decide +kernel
theorem std_Y_isAsGood_82 : decode stc_Y_isAsGood 82 = .ok (.invokevirtual 144, 3) := by decide +kernel
theorem std_Y_isAsGood_85 : decode stc_Y_isAsGood 85 = .ok (.ifCond .eq 7, 3) := by decide +kernel
theorem std_Y_isAsGood_88 : decode stc_Y_isAsGood 88 = .ok (.iconst 1, 1) := by decide +kernel
theorem std_Y_isAsGood_89 : decode stc_Y_isAsGood 89 = .ok (.goto 4, 3) := by decide +kernel
set_option maxHeartbeats 4000000 in
set_option maxRecDepth 100000 in
theorem c_isAsGood (l : Launch) (dC : Nat → ClassId) (dI : Nat → Nat → Nat) (cI cJ cZ : ClassId) (y0 : Nat) (ys : Nat) (yk : Nat) (yc : Nat) (yd : Nat) (yw : Nat) (yx : Nat) (yb : Nat) (yu : Nat) (total : Int) (t0 : Nat) (hs : Nat) (hc : Nat) (hf : Nat) (hg : Nat) (hb : Nat) (he : Nat) (hm : Nat) (steps : Int) (choices : Int) (bars : Int) (cap : Nat) (fle : Int → Int) (gk : Int → Int) (gct : Int → Int) (a : Int) (b : Int) (kle : ∀ j, 0 ≤ j → j < 2 → 0 ≤ fle j ∧ fle j ≤ 40) (kcap : cap ≤ 4801) (kab : (0 ≤ a ∧ a < (cap : Int)) ∧ 0 ≤ b ∧ b < (cap : Int)) (kk : rI (gk a) ∧ rI (gk b)) (kc : rI (gct a) ∧ rI (gct b)) : ∀ sz, Met l sty_Y_isAsGood (Cond.code sty_Y_isAsGood stc_Y_isAsGood 3 (some .boolean) :: stGW) ({ frames := 1, cells := 0, slots := 0, locals := 23 } : Room) (va_Pc [.ref y0, .int (iI a), .int (iI b)] (zPre (dC, dI) stCl [(cI, .int), (cJ, .long), (cZ, .boolean)] st_nw [(y0, .inr (2, [.ref t0, .int (iI total), .ref ys, .ref yk, .ref yc, .ref yd, .ref yw, .ref yx, .ref yb, .ref yu])), (t0, .inr (1, [.int (iI steps), .int (iI choices), .int (iI bars), .ref hs, .ref hc, .ref hf, .ref hg, .ref hb, .ref he, .ref hm])), (he, .inl (cI, aI 2 fle)), (yk, .inl (cI, aI cap gk)), (yc, .inl (cI, aI cap gct))] sz)) (va_Qi (fun (r : Int32) (_ : Unit) => r = iI (bI ((gk a) % 8 = (gk b) % 8 ∧ gct a ≤ gct b ∧ ((0 < fle 0 ∧ (gk a) / 512 = (gk b) / 512) ∨ (fle 0 ≤ 0 ∧ (gk a) / 512 ≤ (gk b) / 512)) ∧ ((0 < fle 1 ∧ ((gk a) / 8) % 64 = ((gk b) / 8) % 64) ∨ (fle 1 ≤ 0 ∧ ((gk a) / 8) % 64 ≤ ((gk b) / 8) % 64))))) (zPost (dC, dI) stCl [(cI, .int), (cJ, .long), (cZ, .boolean)] [(y0, .inr (2, [.ref t0, .int (iI total), .ref ys, .ref yk, .ref yc, .ref yd, .ref yw, .ref yx, .ref yb, .ref yu])), (t0, .inr (1, [.int (iI steps), .int (iI choices), .int (iI bars), .ref hs, .ref hc, .ref hf, .ref hg, .ref hb, .ref he, .ref hm])), (he, .inl (cI, aI 2 fle)), (yk, .inl (cI, aI cap gk)), (yc, .inl (cI, aI cap gct))] sz (fun _ : Unit => [(y0, .inr (2, [.ref t0, .int (iI total), .ref ys, .ref yk, .ref yc, .ref yd, .ref yw, .ref yx, .ref yb, .ref yu])), (t0, .inr (1, [.int (iI steps), .int (iI choices), .int (iI bars), .ref hs, .ref hc, .ref hf, .ref hg, .ref hb, .ref he, .ref hm])), (he, .inl (cI, aI 2 fle)), (yk, .inl (cI, aI cap gk)), (yc, .inl (cI, aI cap gct))])) (va_A [(y0, .inr (2, [.ref t0, .int (iI total), .ref ys, .ref yk, .ref yc, .ref yd, .ref yw, .ref yx, .ref yb, .ref yu])), (t0, .inr (1, [.int (iI steps), .int (iI choices), .int (iI bars), .ref hs, .ref hc, .ref hf, .ref hg, .ref hb, .ref he, .ref hm])), (he, .inl (cI, aI 2 fle)), (yk, .inl (cI, aI cap gk)), (yc, .inl (cI, aI cap gct))] sz)) 0 0 (va_A [(y0, .inr (2, [.ref t0, .int (iI total), .ref ys, .ref yk, .ref yc, .ref yd, .ref yw, .ref yx, .ref yb, .ref yu])), (t0, .inr (1, [.int (iI steps), .int (iI choices), .int (iI bars), .ref hs, .ref hc, .ref hf, .ref hg, .ref hb, .ref he, .ref hm])), (he, .inl (cI, aI 2 fle)), (yk, .inl (cI, aI cap gk)), (yc, .inl (cI, aI cap gct))] sz) := by
  refine met_z (by decide) rfl (Nat.le_of_ble_eq_true rfl) ?_
  intro p e s m below meth c A Q C hmn hret
  refine g_aload_n C 0 std_Y_isAsGood_0 rfl ?_
  refine g_get C (st_sub sti_Y) 0 rfl rfl 3 (by decide) (List.mem_cons_of_mem _ kw_1_88) rfl rfl std_Y_isAsGood_1 ?_
  refine g_iload_n C 1 std_Y_isAsGood_4 rfl ?_
  refine g_iald C 3 0 rfl rfl (by omega) (by omega) (by omega) std_Y_isAsGood_5 ?_
  refine g_SN_i (wc := []) (wr := [(y0, .inr (2, [.ref t0, .int (iI total), .ref ys, .ref yk, .ref yc, .ref yd, .ref yw, .ref yx, .ref yb, .ref yu])), (t0, .inr (1, [.int (iI steps), .int (iI choices), .int (iI bars), .ref hs, .ref hc, .ref hf, .ref hg, .ref hb, .ref he, .ref hm])), (he, .inl (cI, aI 2 fle)), (yk, .inl (cI, aI cap gk)), (yc, .inl (cI, aI cap gct))]) (rest := []) C (c_lastChoice l dC dI cI cJ cZ (gk a) ) (st_cSN C kw_2_83 (List.mem_of_getElem? (i := 4) rfl) kw_1_1 kw_2_82 sth_S_lastChoice ⟨Nat.le_of_ble_eq_true rfl, Nat.le_of_ble_eq_true rfl⟩) rfl rfl (Nat.le_of_ble_eq_true rfl) std_Y_isAsGood_6 ⟨Nat.le_of_ble_eq_true rfl, Nat.le_of_ble_eq_true rfl⟩ [] [0, 1, 2, 3, 4] rfl rfl rfl rfl (by decide) (fun r1 u2 h3 => ?_)
  subst h3
  refine g_ws (ws' := [(y0, .inr (2, [.ref t0, .int (iI total), .ref ys, .ref yk, .ref yc, .ref yd, .ref yw, .ref yx, .ref yb, .ref yu])), (t0, .inr (1, [.int (iI steps), .int (iI choices), .int (iI bars), .ref hs, .ref hc, .ref hf, .ref hg, .ref hb, .ref he, .ref hm])), (he, .inl (cI, aI 2 fle)), (yk, .inl (cI, aI cap gk)), (yc, .inl (cI, aI cap gct))]) rfl ?_
  refine g_aload_n C 0 std_Y_isAsGood_9 rfl ?_
  refine g_get C (st_sub sti_Y) 0 rfl rfl 3 (by decide) (List.mem_cons_of_mem _ kw_1_88) rfl rfl std_Y_isAsGood_10 ?_
  refine g_iload_n C 2 std_Y_isAsGood_13 rfl ?_
  refine g_iald C 3 0 rfl rfl (by omega) (by omega) (by omega) std_Y_isAsGood_14 ?_
  refine g_SN_i (wc := []) (wr := [(y0, .inr (2, [.ref t0, .int (iI total), .ref ys, .ref yk, .ref yc, .ref yd, .ref yw, .ref yx, .ref yb, .ref yu])), (t0, .inr (1, [.int (iI steps), .int (iI choices), .int (iI bars), .ref hs, .ref hc, .ref hf, .ref hg, .ref hb, .ref he, .ref hm])), (he, .inl (cI, aI 2 fle)), (yk, .inl (cI, aI cap gk)), (yc, .inl (cI, aI cap gct))]) (rest := [.int (iI (((gk a) % 8) - 1))]) C (c_lastChoice l dC dI cI cJ cZ (gk b) ) (st_cSN C kw_2_83 (List.mem_of_getElem? (i := 4) rfl) kw_1_1 kw_2_82 sth_S_lastChoice ⟨Nat.le_of_ble_eq_true rfl, Nat.le_of_ble_eq_true rfl⟩) rfl rfl (Nat.le_of_ble_eq_true rfl) std_Y_isAsGood_15 ⟨Nat.le_of_ble_eq_true rfl, Nat.le_of_ble_eq_true rfl⟩ [] [0, 1, 2, 3, 4] rfl rfl rfl rfl (by decide) (fun r4 u5 h6 => ?_)
  subst h6
  refine g_ws (ws' := [(y0, .inr (2, [.ref t0, .int (iI total), .ref ys, .ref yk, .ref yc, .ref yd, .ref yw, .ref yx, .ref yb, .ref yu])), (t0, .inr (1, [.int (iI steps), .int (iI choices), .int (iI bars), .ref hs, .ref hc, .ref hf, .ref hg, .ref hb, .ref he, .ref hm])), (he, .inl (cI, aI 2 fle)), (yk, .inl (cI, aI cap gk)), (yc, .inl (cI, aI cap gct))]) rfl ?_
  refine g_icmp_ne (tgt := 92) C std_Y_isAsGood_18 (by decide) ⟨by omega, by omega⟩ ⟨by omega, by omega⟩ (fun c7 => ?_) (fun c7 => ?_)
  · refine g_iconst C std_Y_isAsGood_92 ?_
    refine g_wide (k := 0) (n := 0) (Nat.le_of_ble_eq_true rfl) (Nat.le_of_ble_eq_true rfl) ?_
    exact hret _ _ _ () (by rw [bI_f (by omega)]) (by decide) std_Y_isAsGood_93
  · refine g_aload_n C 0 std_Y_isAsGood_21 rfl ?_
    refine g_get C (st_sub sti_Y) 0 rfl rfl 4 (by decide) (List.mem_cons_of_mem _ kw_1_90) rfl rfl std_Y_isAsGood_22 ?_
    refine g_iload_n C 1 std_Y_isAsGood_25 rfl ?_
    refine g_iald C 4 0 rfl rfl (by omega) (by omega) (by omega) std_Y_isAsGood_26 ?_
    refine g_aload_n C 0 std_Y_isAsGood_27 rfl ?_
    refine g_get C (st_sub sti_Y) 0 rfl rfl 4 (by decide) (List.mem_cons_of_mem _ kw_1_90) rfl rfl std_Y_isAsGood_28 ?_
    refine g_iload_n C 2 std_Y_isAsGood_31 rfl ?_
    refine g_iald C 4 0 rfl rfl (by omega) (by omega) (by omega) std_Y_isAsGood_32 ?_
    refine g_icmp_gt (tgt := 92) C std_Y_isAsGood_33 (by decide) ⟨by omega, by omega⟩ ⟨by omega, by omega⟩ (fun c8 => ?_) (fun c8 => ?_)
    · refine g_iconst C std_Y_isAsGood_92 ?_
      refine g_wide (k := 0) (n := 0) (Nat.le_of_ble_eq_true rfl) (Nat.le_of_ble_eq_true rfl) ?_
      exact hret _ _ _ () (by rw [bI_f (by omega)]) (by decide) std_Y_isAsGood_93
    · refine g_aload_n C 0 std_Y_isAsGood_36 rfl ?_
      refine g_iconst C std_Y_isAsGood_37 ?_
      refine g_aload_n C 0 std_Y_isAsGood_38 rfl ?_
      refine g_get C (st_sub sti_Y) 0 rfl rfl 3 (by decide) (List.mem_cons_of_mem _ kw_1_88) rfl rfl std_Y_isAsGood_39 ?_
      refine g_iload_n C 1 std_Y_isAsGood_42 rfl ?_
      refine g_iald C 3 0 rfl rfl (by omega) (by omega) (by omega) std_Y_isAsGood_43 ?_
      refine g_SN_i (wc := []) (wr := [(y0, .inr (2, [.ref t0, .int (iI total), .ref ys, .ref yk, .ref yc, .ref yd, .ref yw, .ref yx, .ref yb, .ref yu])), (t0, .inr (1, [.int (iI steps), .int (iI choices), .int (iI bars), .ref hs, .ref hc, .ref hf, .ref hg, .ref hb, .ref he, .ref hm])), (he, .inl (cI, aI 2 fle)), (yk, .inl (cI, aI cap gk)), (yc, .inl (cI, aI cap gct))]) (rest := [.int (iI 0), .ref y0]) C (c_usedOfFirst l dC dI cI cJ cZ (gk a) (by omega)) (st_cSN C kw_2_86 (List.mem_of_getElem? (i := 5) rfl) kw_1_1 kw_2_85 sth_S_usedOfFirst ⟨Nat.le_of_ble_eq_true rfl, Nat.le_of_ble_eq_true rfl⟩) rfl rfl (Nat.le_of_ble_eq_true rfl) std_Y_isAsGood_44 ⟨Nat.le_of_ble_eq_true rfl, Nat.le_of_ble_eq_true rfl⟩ [] [0, 1, 2, 3, 4] rfl rfl rfl rfl (by decide) (fun r9 u10 h11 => ?_)
      subst h11
      refine g_ws (ws' := [(y0, .inr (2, [.ref t0, .int (iI total), .ref ys, .ref yk, .ref yc, .ref yd, .ref yw, .ref yx, .ref yb, .ref yu])), (t0, .inr (1, [.int (iI steps), .int (iI choices), .int (iI bars), .ref hs, .ref hc, .ref hf, .ref hg, .ref hb, .ref he, .ref hm])), (he, .inl (cI, aI 2 fle)), (yk, .inl (cI, aI cap gk)), (yc, .inl (cI, aI cap gct))]) rfl ?_
      refine g_aload_n C 0 std_Y_isAsGood_47 rfl ?_
      refine g_get C (st_sub sti_Y) 0 rfl rfl 3 (by decide) (List.mem_cons_of_mem _ kw_1_88) rfl rfl std_Y_isAsGood_48 ?_
      refine g_iload_n C 2 std_Y_isAsGood_51 rfl ?_
      refine g_iald C 3 0 rfl rfl (by omega) (by omega) (by omega) std_Y_isAsGood_52 ?_
      refine g_SN_i (wc := []) (wr := [(y0, .inr (2, [.ref t0, .int (iI total), .ref ys, .ref yk, .ref yc, .ref yd, .ref yw, .ref yx, .ref yb, .ref yu])), (t0, .inr (1, [.int (iI steps), .int (iI choices), .int (iI bars), .ref hs, .ref hc, .ref hf, .ref hg, .ref hb, .ref he, .ref hm])), (he, .inl (cI, aI 2 fle)), (yk, .inl (cI, aI cap gk)), (yc, .inl (cI, aI cap gct))]) (rest := [.int (iI ((gk a) / 512)), .int (iI 0), .ref y0]) C (c_usedOfFirst l dC dI cI cJ cZ (gk b) (by omega)) (st_cSN C kw_2_86 (List.mem_of_getElem? (i := 5) rfl) kw_1_1 kw_2_85 sth_S_usedOfFirst ⟨Nat.le_of_ble_eq_true rfl, Nat.le_of_ble_eq_true rfl⟩) rfl rfl (Nat.le_of_ble_eq_true rfl) std_Y_isAsGood_53 ⟨Nat.le_of_ble_eq_true rfl, Nat.le_of_ble_eq_true rfl⟩ [] [0, 1, 2, 3, 4] rfl rfl rfl rfl (by decide) (fun r12 u13 h14 => ?_)
      subst h14
      refine g_ws (ws' := [(y0, .inr (2, [.ref t0, .int (iI total), .ref ys, .ref yk, .ref yc, .ref yd, .ref yw, .ref yx, .ref yb, .ref yu])), (t0, .inr (1, [.int (iI steps), .int (iI choices), .int (iI bars), .ref hs, .ref hc, .ref hf, .ref hg, .ref hb, .ref he, .ref hm])), (he, .inl (cI, aI 2 fle)), (yk, .inl (cI, aI cap gk)), (yc, .inl (cI, aI cap gct))]) rfl ?_
      refine g_V_i (wc := [(y0, .inr (2, [.ref t0, .int (iI total), .ref ys, .ref yk, .ref yc, .ref yd, .ref yw, .ref yx, .ref yb, .ref yu])), (t0, .inr (1, [.int (iI steps), .int (iI choices), .int (iI bars), .ref hs, .ref hc, .ref hf, .ref hg, .ref hb, .ref he, .ref hm])), (he, .inl (cI, aI 2 fle))]) (wr := [(yk, .inl (cI, aI cap gk)), (yc, .inl (cI, aI cap gct))]) (rest := []) C (c_isAsGoodOf l dC dI cI cJ cZ y0 ys yk yc yd yw yx yb yu total t0 hs hc hf hg hb he hm steps choices bars fle 0 ((gk a) / 512) ((gk b) / 512) (by omega) (by omega) (by omega) (by omega)) (st_cV C kw_2_215 kw_2_212 kw_1_3 kw_2_214 kw_0_11 sth_Y_isAsGoodOf ⟨Nat.le_of_ble_eq_true rfl, Nat.le_of_ble_eq_true rfl⟩) 0 rfl rfl rfl rfl (Nat.le_of_ble_eq_true rfl) std_Y_isAsGood_56 ⟨Nat.le_of_ble_eq_true rfl, Nat.le_of_ble_eq_true rfl⟩ [0, 1, 2] [3, 4] rfl rfl rfl rfl (by decide) (fun r15 u16 h17 => ?_)
      subst h17
      refine g_ws (ws' := [(yk, .inl (cI, aI cap gk)), (yc, .inl (cI, aI cap gct)), (y0, .inr (2, [.ref t0, .int (iI total), .ref ys, .ref yk, .ref yc, .ref yd, .ref yw, .ref yx, .ref yb, .ref yu])), (t0, .inr (1, [.int (iI steps), .int (iI choices), .int (iI bars), .ref hs, .ref hc, .ref hf, .ref hg, .ref hb, .ref he, .ref hm])), (he, .inl (cI, aI 2 fle))]) rfl ?_
      refine g_ifeq_b (tgt := 92) C std_Y_isAsGood_59 (by decide) (fun c18 => ?_) (fun c18 => ?_)
      · refine g_iconst C std_Y_isAsGood_92 ?_
        refine g_sub (ws' := [(y0, .inr (2, [.ref t0, .int (iI total), .ref ys, .ref yk, .ref yc, .ref yd, .ref yw, .ref yx, .ref yb, .ref yu])), (t0, .inr (1, [.int (iI steps), .int (iI choices), .int (iI bars), .ref hs, .ref hc, .ref hf, .ref hg, .ref hb, .ref he, .ref hm])), (he, .inl (cI, aI 2 fle)), (yk, .inl (cI, aI cap gk)), (yc, .inl (cI, aI cap gct))]) [2, 3, 4, 0, 1] rfl rfl ?_
        refine g_wide (k := 0) (n := 0) (Nat.le_of_ble_eq_true rfl) (Nat.le_of_ble_eq_true rfl) ?_
        exact hret _ _ _ () (by rw [bI_f (by omega)]) (by decide) std_Y_isAsGood_93
      · refine g_aload_n C 0 std_Y_isAsGood_62 rfl ?_
        refine g_iconst C std_Y_isAsGood_63 ?_
        refine g_aload_n C 0 std_Y_isAsGood_64 rfl ?_
        refine g_get C (st_sub sti_Y) 2 rfl rfl 3 (by decide) (List.mem_cons_of_mem _ kw_1_88) rfl rfl std_Y_isAsGood_65 ?_
        refine g_iload_n C 1 std_Y_isAsGood_68 rfl ?_
        refine g_iald C 0 0 rfl rfl (by omega) (by omega) (by omega) std_Y_isAsGood_69 ?_
        refine g_SN_i (wc := []) (wr := [(yk, .inl (cI, aI cap gk)), (yc, .inl (cI, aI cap gct)), (y0, .inr (2, [.ref t0, .int (iI total), .ref ys, .ref yk, .ref yc, .ref yd, .ref yw, .ref yx, .ref yb, .ref yu])), (t0, .inr (1, [.int (iI steps), .int (iI choices), .int (iI bars), .ref hs, .ref hc, .ref hf, .ref hg, .ref hb, .ref he, .ref hm])), (he, .inl (cI, aI 2 fle))]) (rest := [.int (iI 1), .ref y0]) C (c_usedOfSecond l dC dI cI cJ cZ (gk a) (by omega)) (st_cSN C kw_2_89 (List.mem_of_getElem? (i := 6) rfl) kw_1_1 kw_2_88 sth_S_usedOfSecond ⟨Nat.le_of_ble_eq_true rfl, Nat.le_of_ble_eq_true rfl⟩) rfl rfl (Nat.le_of_ble_eq_true rfl) std_Y_isAsGood_70 ⟨Nat.le_of_ble_eq_true rfl, Nat.le_of_ble_eq_true rfl⟩ [] [0, 1, 2, 3, 4] rfl rfl rfl rfl (by decide) (fun r19 u20 h21 => ?_)
        subst h21
        refine g_ws (ws' := [(yk, .inl (cI, aI cap gk)), (yc, .inl (cI, aI cap gct)), (y0, .inr (2, [.ref t0, .int (iI total), .ref ys, .ref yk, .ref yc, .ref yd, .ref yw, .ref yx, .ref yb, .ref yu])), (t0, .inr (1, [.int (iI steps), .int (iI choices), .int (iI bars), .ref hs, .ref hc, .ref hf, .ref hg, .ref hb, .ref he, .ref hm])), (he, .inl (cI, aI 2 fle))]) rfl ?_
        refine g_aload_n C 0 std_Y_isAsGood_73 rfl ?_
        refine g_get C (st_sub sti_Y) 2 rfl rfl 3 (by decide) (List.mem_cons_of_mem _ kw_1_88) rfl rfl std_Y_isAsGood_74 ?_
        refine g_iload_n C 2 std_Y_isAsGood_77 rfl ?_
        refine g_iald C 0 0 rfl rfl (by omega) (by omega) (by omega) std_Y_isAsGood_78 ?_
        refine g_SN_i (wc := []) (wr := [(yk, .inl (cI, aI cap gk)), (yc, .inl (cI, aI cap gct)), (y0, .inr (2, [.ref t0, .int (iI total), .ref ys, .ref yk, .ref yc, .ref yd, .ref yw, .ref yx, .ref yb, .ref yu])), (t0, .inr (1, [.int (iI steps), .int (iI choices), .int (iI bars), .ref hs, .ref hc, .ref hf, .ref hg, .ref hb, .ref he, .ref hm])), (he, .inl (cI, aI 2 fle))]) (rest := [.int (iI (((gk a) / 8) % 64)), .int (iI 1), .ref y0]) C (c_usedOfSecond l dC dI cI cJ cZ (gk b) (by omega)) (st_cSN C kw_2_89 (List.mem_of_getElem? (i := 6) rfl) kw_1_1 kw_2_88 sth_S_usedOfSecond ⟨Nat.le_of_ble_eq_true rfl, Nat.le_of_ble_eq_true rfl⟩) rfl rfl (Nat.le_of_ble_eq_true rfl) std_Y_isAsGood_79 ⟨Nat.le_of_ble_eq_true rfl, Nat.le_of_ble_eq_true rfl⟩ [] [0, 1, 2, 3, 4] rfl rfl rfl rfl (by decide) (fun r22 u23 h24 => ?_)
        subst h24
        refine g_ws (ws' := [(yk, .inl (cI, aI cap gk)), (yc, .inl (cI, aI cap gct)), (y0, .inr (2, [.ref t0, .int (iI total), .ref ys, .ref yk, .ref yc, .ref yd, .ref yw, .ref yx, .ref yb, .ref yu])), (t0, .inr (1, [.int (iI steps), .int (iI choices), .int (iI bars), .ref hs, .ref hc, .ref hf, .ref hg, .ref hb, .ref he, .ref hm])), (he, .inl (cI, aI 2 fle))]) rfl ?_
        refine g_V_i (wc := [(y0, .inr (2, [.ref t0, .int (iI total), .ref ys, .ref yk, .ref yc, .ref yd, .ref yw, .ref yx, .ref yb, .ref yu])), (t0, .inr (1, [.int (iI steps), .int (iI choices), .int (iI bars), .ref hs, .ref hc, .ref hf, .ref hg, .ref hb, .ref he, .ref hm])), (he, .inl (cI, aI 2 fle))]) (wr := [(yk, .inl (cI, aI cap gk)), (yc, .inl (cI, aI cap gct))]) (rest := []) C (c_isAsGoodOf l dC dI cI cJ cZ y0 ys yk yc yd yw yx yb yu total t0 hs hc hf hg hb he hm steps choices bars fle 1 (((gk a) / 8) % 64) (((gk b) / 8) % 64) (by omega) (by omega) (by omega) (by omega)) (st_cV C kw_2_215 kw_2_212 kw_1_3 kw_2_214 kw_0_11 sth_Y_isAsGoodOf ⟨Nat.le_of_ble_eq_true rfl, Nat.le_of_ble_eq_true rfl⟩) 0 rfl rfl rfl rfl (Nat.le_of_ble_eq_true rfl) std_Y_isAsGood_82 ⟨Nat.le_of_ble_eq_true rfl, Nat.le_of_ble_eq_true rfl⟩ [2, 3, 4] [0, 1] rfl rfl rfl rfl (by decide) (fun r25 u26 h27 => ?_)
        subst h27
        refine g_ws (ws' := [(yk, .inl (cI, aI cap gk)), (yc, .inl (cI, aI cap gct)), (y0, .inr (2, [.ref t0, .int (iI total), .ref ys, .ref yk, .ref yc, .ref yd, .ref yw, .ref yx, .ref yb, .ref yu])), (t0, .inr (1, [.int (iI steps), .int (iI choices), .int (iI bars), .ref hs, .ref hc, .ref hf, .ref hg, .ref hb, .ref he, .ref hm])), (he, .inl (cI, aI 2 fle))]) rfl ?_
        refine g_ifeq_b (tgt := 92) C std_Y_isAsGood_85 (by decide) (fun c28 => ?_) (fun c28 => ?_)
        · refine g_iconst C std_Y_isAsGood_92 ?_
          refine g_sub (ws' := [(y0, .inr (2, [.ref t0, .int (iI total), .ref ys, .ref yk, .ref yc, .ref yd, .ref yw, .ref yx, .ref yb, .ref yu])), (t0, .inr (1, [.int (iI steps), .int (iI choices), .int (iI bars), .ref hs, .ref hc, .ref hf, .ref hg, .ref hb, .ref he, .ref hm])), (he, .inl (cI, aI 2 fle)), (yk, .inl (cI, aI cap gk)), (yc, .inl (cI, aI cap gct))]) [2, 3, 4, 0, 1] rfl rfl ?_
          refine g_wide (k := 0) (n := 0) (Nat.le_of_ble_eq_true rfl) (Nat.le_of_ble_eq_true rfl) ?_
          exact hret _ _ _ () (by rw [bI_f (by omega)]) (by decide) std_Y_isAsGood_93
        · refine g_iconst C std_Y_isAsGood_88 ?_
          refine g_goto (tgt := 93) C std_Y_isAsGood_89 (by decide) ?_
          refine g_sub (ws' := [(y0, .inr (2, [.ref t0, .int (iI total), .ref ys, .ref yk, .ref yc, .ref yd, .ref yw, .ref yx, .ref yb, .ref yu])), (t0, .inr (1, [.int (iI steps), .int (iI choices), .int (iI bars), .ref hs, .ref hc, .ref hf, .ref hg, .ref hb, .ref he, .ref hm])), (he, .inl (cI, aI 2 fle)), (yk, .inl (cI, aI cap gk)), (yc, .inl (cI, aI cap gct))]) [2, 3, 4, 0, 1] rfl rfl ?_
          refine g_wide (k := 0) (n := 0) (Nat.le_of_ble_eq_true rfl) (Nat.le_of_ble_eq_true rfl) ?_
          exact hret _ _ _ () (by rw [bI_t (by omega)]) (by decide) std_Y_isAsGood_93
end
section
/-! Layers: loops -/
abbrev sty_Y_findKeysBehind : MethodName := ⟨"StateTables$Layers", "findKeysBehind", "(II)V"⟩
abbrev stc_Y_findKeysBehind : ByteArray := prog_3_method_10_code
theorem sth_Y_findKeysBehind : (sty_Y_findKeysBehind).cls ≠ "java/lang/invoke/MethodHandle" ∧ (sty_Y_findKeysBehind).cls ≠ "java/lang/invoke/VarHandle" ∧ (parseMethodDescriptor (sty_Y_findKeysBehind).desc).map (fun d => d.parameters.length) = some 2 := by decide +kernel
theorem std_Y_findKeysBehind_0 : decode stc_Y_findKeysBehind 0 = .ok (.iload_n 1, 1) := by decide +kernel
theorem std_Y_findKeysBehind_1 : decode stc_Y_findKeysBehind 1 = .ok (.iload_n 2, 1) := by decide +kernel
theorem std_Y_findKeysBehind_2 : decode stc_Y_findKeysBehind 2 = .ok (.invokestatic 104, 3) := by decide +kernel
theorem std_Y_findKeysBehind_5 : decode stc_Y_findKeysBehind 5 = .ok (.istore_n 3, 1) := by decide +kernel
theorem std_Y_findKeysBehind_6 : decode stc_Y_findKeysBehind 6 = .ok (.aload_n 0, 1) := by decide +kernel
theorem std_Y_findKeysBehind_7 : decode stc_Y_findKeysBehind 7 = .ok (.getfield 9, 3) := by decide +kernel
theorem std_Y_findKeysBehind_10 : decode stc_Y_findKeysBehind 10 = .ok (.iload_n 1, 1) := by decide +kernel
theorem std_Y_findKeysBehind_11 : decode stc_Y_findKeysBehind 11 = .ok (.iaload, 1) := by decide +kernel
theorem std_Y_findKeysBehind_12 : decode stc_Y_findKeysBehind 12 = .ok (.istore 4, 2) := by decide +kernel
theorem std_Y_findKeysBehind_14 : decode stc_Y_findKeysBehind 14 = .ok (.iload 4, 2) := by decide +kernel
theorem std_Y_findKeysBehind_16 : decode stc_Y_findKeysBehind 16 = .ok (.aload_n 0, 1) := by decide +kernel
theorem std_Y_findKeysBehind_17 : decode stc_Y_findKeysBehind 17 = .ok (.getfield 9, 3) := by decide +kernel
theorem std_Y_findKeysBehind_20 : decode stc_Y_findKeysBehind 20 = .ok (.iload_n 1, 1) := by decide +kernel
theorem std_Y_findKeysBehind_21 : decode stc_Y_findKeysBehind 21 = .ok (.iconst 1, 1) := by decide +kernel
theorem std_Y_findKeysBehind_22 : decode stc_Y_findKeysBehind 22 = .ok (.iadd, 1) := by decide +kernel
theorem std_Y_findKeysBehind_23 : decode stc_Y_findKeysBehind 23 = .ok (.iaload, 1) := by decide +kernel
theorem std_Y_findKeysBehind_24 : decode stc_Y_findKeysBehind 24 = .ok (.if_icmp .ge 150, 3) := by decide +kernel
theorem std_Y_findKeysBehind_174 : decode stc_Y_findKeysBehind 174 = .ok (.return_, 1) := by decide +kernel
theorem std_Y_findKeysBehind_27 : decode stc_Y_findKeysBehind 27 = .ok (.aload_n 0, 1) := by decide +kernel
theorem std_Y_findKeysBehind_28 : decode stc_Y_findKeysBehind 28 = .ok (.getfield 15, 3) := by decide +kernel
theorem std_Y_findKeysBehind_31 : decode stc_Y_findKeysBehind 31 = .ok (.iload 4, 2) := by decide +kernel
theorem std_Y_findKeysBehind_33 : decode stc_Y_findKeysBehind 33 = .ok (.iaload, 1) := by decide +kernel
theorem std_Y_findKeysBehind_34 : decode stc_Y_findKeysBehind 34 = .ok (.invokestatic 107, 3) := by decide +kernel
theorem std_Y_findKeysBehind_37 : decode stc_Y_findKeysBehind 37 = .ok (.istore 5, 2) := by decide +kernel
theorem std_Y_findKeysBehind_39 : decode stc_Y_findKeysBehind 39 = .ok (.aload_n 0, 1) := by decide +kernel
theorem std_Y_findKeysBehind_40 : decode stc_Y_findKeysBehind 40 = .ok (.getfield 15, 3) := by decide +kernel
theorem std_Y_findKeysBehind_43 : decode stc_Y_findKeysBehind 43 = .ok (.iload 4, 2) := by decide +kernel
theorem std_Y_findKeysBehind_45 : decode stc_Y_findKeysBehind 45 = .ok (.iaload, 1) := by decide +kernel
theorem std_Y_findKeysBehind_46 : decode stc_Y_findKeysBehind 46 = .ok (.invokestatic 110, 3) := by decide +kernel
theorem std_Y_findKeysBehind_49 : decode stc_Y_findKeysBehind 49 = .ok (.aload_n 0, 1) := by decide +kernel
theorem std_Y_findKeysBehind_50 : decode stc_Y_findKeysBehind 50 = .ok (.getfield 37, 3) := by decide +kernel
theorem std_Y_findKeysBehind_53 : decode stc_Y_findKeysBehind 53 = .ok (.getfield 113, 3) := by decide +kernel
theorem kw_1_43 : Cond.fieldLink "StateTables$Layers" 113 "StateTables$Told" "firstUses" "[I" ∈ stGW := st_t1 (List.mem_of_getElem? (i := 43) (by decide +kernel)) (by decide +kernel)
theorem std_Y_findKeysBehind_56 : decode stc_Y_findKeysBehind 56 = .ok (.iload_n 3, 1) := by decide +kernel
theorem std_Y_findKeysBehind_57 : decode stc_Y_findKeysBehind 57 = .ok (.iaload, 1) := by decide +kernel
theorem std_Y_findKeysBehind_58 : decode stc_Y_findKeysBehind 58 = .ok (.iadd, 1) := by decide +kernel
theorem std_Y_findKeysBehind_59 : decode stc_Y_findKeysBehind 59 = .ok (.istore 6, 2) := by decide +kernel
theorem std_Y_findKeysBehind_61 : decode stc_Y_findKeysBehind 61 = .ok (.aload_n 0, 1) := by decide +kernel
theorem std_Y_findKeysBehind_62 : decode stc_Y_findKeysBehind 62 = .ok (.getfield 15, 3) := by decide +kernel
theorem std_Y_findKeysBehind_65 : decode stc_Y_findKeysBehind 65 = .ok (.iload 4, 2) := by decide +kernel
theorem std_Y_findKeysBehind_67 : decode stc_Y_findKeysBehind 67 = .ok (.iaload, 1) := by decide +kernel
theorem std_Y_findKeysBehind_68 : decode stc_Y_findKeysBehind 68 = .ok (.invokestatic 116, 3) := by decide +kernel
theorem std_Y_findKeysBehind_71 : decode stc_Y_findKeysBehind 71 = .ok (.aload_n 0, 1) := by decide +kernel
theorem std_Y_findKeysBehind_72 : decode stc_Y_findKeysBehind 72 = .ok (.getfield 37, 3) := by decide +kernel
theorem std_Y_findKeysBehind_75 : decode stc_Y_findKeysBehind 75 = .ok (.getfield 119, 3) := by decide +kernel
theorem kw_1_46 : Cond.fieldLink "StateTables$Layers" 119 "StateTables$Told" "secondUses" "[I" ∈ stGW := st_t1 (List.mem_of_getElem? (i := 46) (by decide +kernel)) (by decide +kernel)
theorem std_Y_findKeysBehind_78 : decode stc_Y_findKeysBehind 78 = .ok (.iload_n 3, 1) := by decide +kernel
theorem std_Y_findKeysBehind_79 : decode stc_Y_findKeysBehind 79 = .ok (.iaload, 1) := by decide +kernel
theorem std_Y_findKeysBehind_80 : decode stc_Y_findKeysBehind 80 = .ok (.iadd, 1) := by decide +kernel
theorem std_Y_findKeysBehind_81 : decode stc_Y_findKeysBehind 81 = .ok (.istore 7, 2) := by decide +kernel
theorem std_Y_findKeysBehind_83 : decode stc_Y_findKeysBehind 83 = .ok (.iload 5, 2) := by decide +kernel
theorem std_Y_findKeysBehind_85 : decode stc_Y_findKeysBehind 85 = .ok (.ifCond .lt 25, 3) := by decide +kernel
theorem std_Y_findKeysBehind_110 : decode stc_Y_findKeysBehind 110 = .ok (.iconst 0, 1) := by decide +kernel
theorem std_Y_findKeysBehind_111 : decode stc_Y_findKeysBehind 111 = .ok (.istore 8, 2) := by decide +kernel
theorem std_Y_findKeysBehind_113 : decode stc_Y_findKeysBehind 113 = .ok (.iload 8, 2) := by decide +kernel
theorem std_Y_findKeysBehind_115 : decode stc_Y_findKeysBehind 115 = .ok (.ifCond .ne 21, 3) := by decide +kernel
theorem std_Y_findKeysBehind_118 : decode stc_Y_findKeysBehind 118 = .ok (.aload_n 0, 1) := by decide +kernel
theorem std_Y_findKeysBehind_119 : decode stc_Y_findKeysBehind 119 = .ok (.getfield 37, 3) := by decide +kernel
theorem std_Y_findKeysBehind_122 : decode stc_Y_findKeysBehind 122 = .ok (.iload 6, 2) := by decide +kernel
theorem std_Y_findKeysBehind_124 : decode stc_Y_findKeysBehind 124 = .ok (.iload 7, 2) := by decide +kernel
theorem std_Y_findKeysBehind_126 : decode stc_Y_findKeysBehind 126 = .ok (.invokevirtual 125, 3) := by decide +kernel
theorem kw_2_93 : Cond.code sty_T_isWithinMost stc_T_isWithinMost 3 (some .boolean) ∈ stGW := st_t2 (List.mem_of_getElem? (i := 93) (by decide +kernel)) (by decide +kernel)
theorem kw_2_90 : Cond.methodLink "StateTables$Layers" 125 (sty_T_isWithinMost) ∈ stGW := st_t2 (List.mem_of_getElem? (i := 90) (by decide +kernel)) (by decide +kernel)
theorem kw_2_91 : Cond.instanceMethod (sty_T_isWithinMost) ∈ stGW := st_t2 (List.mem_of_getElem? (i := 91) (by decide +kernel)) (by decide +kernel)
theorem kw_2_92 : Cond.selects "StateTables$Told" (sty_T_isWithinMost) (sty_T_isWithinMost) ∈ stGW := st_t2 (List.mem_of_getElem? (i := 92) (by decide +kernel)) (by decide +kernel)
theorem std_Y_findKeysBehind_129 : decode stc_Y_findKeysBehind 129 = .ok (.ifCond .eq 7, 3) := by decide +kernel
theorem std_Y_findKeysBehind_136 : decode stc_Y_findKeysBehind 136 = .ok (.iconst 0, 1) := by decide +kernel
theorem std_Y_findKeysBehind_137 : decode stc_Y_findKeysBehind 137 = .ok (.istore 9, 2) := by decide +kernel
theorem std_Y_findKeysBehind_139 : decode stc_Y_findKeysBehind 139 = .ok (.aload_n 0, 1) := by decide +kernel
theorem std_Y_findKeysBehind_140 : decode stc_Y_findKeysBehind 140 = .ok (.getfield 31, 3) := by decide +kernel
theorem std_Y_findKeysBehind_143 : decode stc_Y_findKeysBehind 143 = .ok (.iload 4, 2) := by decide +kernel
theorem std_Y_findKeysBehind_145 : decode stc_Y_findKeysBehind 145 = .ok (.bipush 6, 2) := by decide +kernel
theorem std_Y_findKeysBehind_147 : decode stc_Y_findKeysBehind 147 = .ok (.imul, 1) := by decide +kernel
theorem std_Y_findKeysBehind_148 : decode stc_Y_findKeysBehind 148 = .ok (.iload_n 2, 1) := by decide +kernel
theorem std_Y_findKeysBehind_149 : decode stc_Y_findKeysBehind 149 = .ok (.iadd, 1) := by decide +kernel
theorem std_Y_findKeysBehind_150 : decode stc_Y_findKeysBehind 150 = .ok (.iload 9, 2) := by decide +kernel
theorem std_Y_findKeysBehind_152 : decode stc_Y_findKeysBehind 152 = .ok (.ifCond .eq 14, 3) := by decide +kernel
theorem std_Y_findKeysBehind_166 : decode stc_Y_findKeysBehind 166 = .ok (.iconst (-1), 1) := by decide +kernel
theorem std_Y_findKeysBehind_167 : decode stc_Y_findKeysBehind 167 = .ok (.iastore, 1) := by decide +kernel
theorem std_Y_findKeysBehind_168 : decode stc_Y_findKeysBehind 168 = .ok (.iinc 4 1, 3) := by decide +kernel
theorem std_Y_findKeysBehind_171 : decode stc_Y_findKeysBehind 171 = .ok (.goto (-157), 3) := by decide +kernel
theorem std_Y_findKeysBehind_132 : decode stc_Y_findKeysBehind 132 = .ok (.iconst 1, 1) := by decide +kernel
theorem std_Y_findKeysBehind_133 : decode stc_Y_findKeysBehind 133 = .ok (.goto 4, 3) := by decide +kernel
theorem std_Y_findKeysBehind_155 : decode stc_Y_findKeysBehind 155 = .ok (.iload 6, 2) := by decide +kernel
theorem std_Y_findKeysBehind_157 : decode stc_Y_findKeysBehind 157 = .ok (.iload 7, 2) := by decide +kernel
theorem std_Y_findKeysBehind_159 : decode stc_Y_findKeysBehind 159 = .ok (.iload_n 2, 1) := by decide +kernel
theorem std_Y_findKeysBehind_160 : decode stc_Y_findKeysBehind 160 = .ok (.invokestatic 56, 3) := by decide +kernel
theorem kw_2_35 : Cond.code sty_S_keyOf stc_S_keyOf 3 (some .int) ∈ stGW := st_t2 (List.mem_of_getElem? (i := 35) (by decide +kernel)) (by decide +kernel)
theorem kw_2_34 : Cond.static (sty_S_keyOf) ∈ stGW := st_t2 (List.mem_of_getElem? (i := 34) (by decide +kernel)) (by decide +kernel)
theorem std_Y_findKeysBehind_163 : decode stc_Y_findKeysBehind 163 = .ok (.goto 4, 3) := by decide +kernel
theorem std_Y_findKeysBehind_88 : decode stc_Y_findKeysBehind 88 = .ok (.aload_n 0, 1) := by decide +kernel
theorem std_Y_findKeysBehind_89 : decode stc_Y_findKeysBehind 89 = .ok (.getfield 37, 3) := by decide +kernel
theorem std_Y_findKeysBehind_92 : decode stc_Y_findKeysBehind 92 = .ok (.getfield 122, 3) := by decide +kernel
theorem kw_1_49 : Cond.fieldLink "StateTables$Layers" 122 "StateTables$Told" "barredBehind" "[I" ∈ stGW := st_t1 (List.mem_of_getElem? (i := 49) (by decide +kernel)) (by decide +kernel)
theorem std_Y_findKeysBehind_95 : decode stc_Y_findKeysBehind 95 = .ok (.iload_n 3, 1) := by decide +kernel
theorem std_Y_findKeysBehind_96 : decode stc_Y_findKeysBehind 96 = .ok (.iaload, 1) := by decide +kernel
theorem std_Y_findKeysBehind_97 : decode stc_Y_findKeysBehind 97 = .ok (.iload 5, 2) := by decide +kernel
theorem std_Y_findKeysBehind_99 : decode stc_Y_findKeysBehind 99 = .ok (.ishr, 1) := by decide +kernel
theorem std_Y_findKeysBehind_100 : decode stc_Y_findKeysBehind 100 = .ok (.iconst 1, 1) := by decide +kernel
theorem std_Y_findKeysBehind_101 : decode stc_Y_findKeysBehind 101 = .ok (.iand, 1) := by decide +kernel
theorem std_Y_findKeysBehind_102 : decode stc_Y_findKeysBehind 102 = .ok (.iconst 1, 1) := by decide +kernel
theorem std_Y_findKeysBehind_103 : decode stc_Y_findKeysBehind 103 = .ok (.if_icmp .ne 7, 3) := by decide +kernel
theorem std_Y_findKeysBehind_106 : decode stc_Y_findKeysBehind 106 = .ok (.iconst 1, 1) := by decide +kernel
theorem std_Y_findKeysBehind_107 : decode stc_Y_findKeysBehind 107 = .ok (.goto 4, 3) := by decide +kernel
set_option maxHeartbeats 4000000 in
set_option maxRecDepth 100000 in
theorem c_findKeysBehind (l : Launch) (dC : Nat → ClassId) (dI : Nat → Nat → Nat) (cI cJ cZ : ClassId) (y0 : Nat) (ys : Nat) (yk : Nat) (yc : Nat) (yd : Nat) (yw : Nat) (yx : Nat) (yb : Nat) (yu : Nat) (total : Int) (t0 : Nat) (hs : Nat) (hc : Nat) (hf : Nat) (hg : Nat) (hb : Nat) (he : Nat) (hm : Nat) (steps : Int) (choices : Int) (bars : Int) (cap : Nat) (gst : Int → Int) (gk : Int → Int) (gbe : Int → Int) (ffu : Int → Int) (fsu : Int → Int) (fbb : Int → Int) (fmo : Int → Int) (a : Int) (b : Int) (kcap : cap ≤ 4801) (kgst : ∀ j, 0 ≤ j → j < 14 → 0 ≤ gst j ∧ gst j ≤ cap) (kmo : ∀ j, 0 ≤ j → j < 2 → 0 ≤ fmo j ∧ fmo j ≤ 40) (ka : 0 ≤ a ∧ a < 12) (kb : 0 ≤ b ∧ b < 6) (ks : gst a ≤ gst (a + 1)) (kk : ∀ i, gst a ≤ i → i < gst (a + 1) → 0 ≤ gk i ∧ gk i < 32768 ∧ gk i / 512 ≤ 40 ∧ gk i / 8 % 64 ≤ 40 ∧ gk i % 8 ≤ 6) (ku : ∀ j, 0 ≤ j → j < 72 → (0 ≤ ffu j ∧ ffu j ≤ 20) ∧ (0 ≤ fsu j ∧ fsu j ≤ 20) ∧ 0 ≤ fbb j ∧ fbb j < 64) : ∀ sz, Met l sty_Y_findKeysBehind (Cond.code sty_Y_findKeysBehind stc_Y_findKeysBehind 10 none :: stGW) ({ frames := 1, cells := 0, slots := 0, locals := 22 } : Room) (va_Pc [.ref y0, .int (iI a), .int (iI b)] (zPre (dC, dI) stCl [(cI, .int), (cJ, .long), (cZ, .boolean)] st_nw [(y0, .inr (2, [.ref t0, .int (iI total), .ref ys, .ref yk, .ref yc, .ref yd, .ref yw, .ref yx, .ref yb, .ref yu])), (ys, .inl (cI, aI 14 gst)), (yk, .inl (cI, aI cap gk)), (yb, .inl (cI, aI (6 * cap) gbe)), (t0, .inr (1, [.int (iI steps), .int (iI choices), .int (iI bars), .ref hs, .ref hc, .ref hf, .ref hg, .ref hb, .ref he, .ref hm])), (hf, .inl (cI, aI 72 ffu)), (hg, .inl (cI, aI 72 fsu)), (hb, .inl (cI, aI 72 fbb)), (hm, .inl (cI, aI 2 fmo))] sz)) (va_Qv (fun (F : Int → Int) => (∀ i, gst a ≤ i → i < gst (a + 1) → F ((i * 6) + b) = kn fbb ffu fsu fmo ((a * 6) + b) b (gk i)) ∧ (∀ j, (∀ i, gst a ≤ i → i < gst (a + 1) → ¬ j = (i * 6) + b) → F j = gbe j)) (zPost (dC, dI) stCl [(cI, .int), (cJ, .long), (cZ, .boolean)] [(y0, .inr (2, [.ref t0, .int (iI total), .ref ys, .ref yk, .ref yc, .ref yd, .ref yw, .ref yx, .ref yb, .ref yu])), (ys, .inl (cI, aI 14 gst)), (yk, .inl (cI, aI cap gk)), (yb, .inl (cI, aI (6 * cap) gbe)), (t0, .inr (1, [.int (iI steps), .int (iI choices), .int (iI bars), .ref hs, .ref hc, .ref hf, .ref hg, .ref hb, .ref he, .ref hm])), (hf, .inl (cI, aI 72 ffu)), (hg, .inl (cI, aI 72 fsu)), (hb, .inl (cI, aI 72 fbb)), (hm, .inl (cI, aI 2 fmo))] sz (fun F : Int → Int => [(y0, .inr (2, [.ref t0, .int (iI total), .ref ys, .ref yk, .ref yc, .ref yd, .ref yw, .ref yx, .ref yb, .ref yu])), (ys, .inl (cI, aI 14 gst)), (yk, .inl (cI, aI cap gk)), (yb, .inl (cI, aI (6 * cap) F)), (t0, .inr (1, [.int (iI steps), .int (iI choices), .int (iI bars), .ref hs, .ref hc, .ref hf, .ref hg, .ref hb, .ref he, .ref hm])), (hf, .inl (cI, aI 72 ffu)), (hg, .inl (cI, aI 72 fsu)), (hb, .inl (cI, aI 72 fbb)), (hm, .inl (cI, aI 2 fmo))])) (va_A [(y0, .inr (2, [.ref t0, .int (iI total), .ref ys, .ref yk, .ref yc, .ref yd, .ref yw, .ref yx, .ref yb, .ref yu])), (ys, .inl (cI, aI 14 gst)), (yk, .inl (cI, aI cap gk)), (yb, .inl (cI, aI (6 * cap) gbe)), (t0, .inr (1, [.int (iI steps), .int (iI choices), .int (iI bars), .ref hs, .ref hc, .ref hf, .ref hg, .ref hb, .ref he, .ref hm])), (hf, .inl (cI, aI 72 ffu)), (hg, .inl (cI, aI 72 fsu)), (hb, .inl (cI, aI 72 fbb)), (hm, .inl (cI, aI 2 fmo))] sz)) 0 0 (va_A [(y0, .inr (2, [.ref t0, .int (iI total), .ref ys, .ref yk, .ref yc, .ref yd, .ref yw, .ref yx, .ref yb, .ref yu])), (ys, .inl (cI, aI 14 gst)), (yk, .inl (cI, aI cap gk)), (yb, .inl (cI, aI (6 * cap) gbe)), (t0, .inr (1, [.int (iI steps), .int (iI choices), .int (iI bars), .ref hs, .ref hc, .ref hf, .ref hg, .ref hb, .ref he, .ref hm])), (hf, .inl (cI, aI 72 ffu)), (hg, .inl (cI, aI 72 fsu)), (hb, .inl (cI, aI 72 fbb)), (hm, .inl (cI, aI 2 fmo))] sz) := by
  refine met_v (by decide) rfl (Nat.le_of_ble_eq_true rfl) ?_
  intro p e s m below meth c A Q C hmn hret
  have hq0 := kgst a (by omega) (by omega)
  have hq1 := kgst (a + 1) (by omega) (by omega)
  have hq2 := ku ((a * 6) + b) (by omega) (by omega)
  have hq3 := kmo 0 (by omega) (by omega)
  have hq4 := kmo 1 (by omega) (by omega)
  refine g_iload_n C 1 std_Y_findKeysBehind_0 rfl ?_
  refine g_iload_n C 2 std_Y_findKeysBehind_1 rfl ?_
  refine g_SN_i (wc := []) (wr := [(y0, .inr (2, [.ref t0, .int (iI total), .ref ys, .ref yk, .ref yc, .ref yd, .ref yw, .ref yx, .ref yb, .ref yu])), (ys, .inl (cI, aI 14 gst)), (yk, .inl (cI, aI cap gk)), (yb, .inl (cI, aI (6 * cap) gbe)), (t0, .inr (1, [.int (iI steps), .int (iI choices), .int (iI bars), .ref hs, .ref hc, .ref hf, .ref hg, .ref hb, .ref he, .ref hm])), (hf, .inl (cI, aI 72 ffu)), (hg, .inl (cI, aI 72 fsu)), (hb, .inl (cI, aI 72 fbb)), (hm, .inl (cI, aI 2 fmo))]) (rest := []) C (c_placeOf l dC dI cI cJ cZ a b ) (st_cSN C kw_1_235 (List.mem_of_getElem? (i := 3) rfl) kw_1_1 kw_1_234 sth_S_placeOf ⟨Nat.le_of_ble_eq_true rfl, Nat.le_of_ble_eq_true rfl⟩) rfl rfl (Nat.le_of_ble_eq_true rfl) std_Y_findKeysBehind_2 ⟨Nat.le_of_ble_eq_true rfl, Nat.le_of_ble_eq_true rfl⟩ [] [0, 1, 2, 3, 4, 5, 6, 7, 8] rfl rfl rfl rfl (by decide) (fun r1 u2 h3 => ?_)
  subst h3
  refine g_ws (ws' := [(y0, .inr (2, [.ref t0, .int (iI total), .ref ys, .ref yk, .ref yc, .ref yd, .ref yw, .ref yx, .ref yb, .ref yu])), (ys, .inl (cI, aI 14 gst)), (yk, .inl (cI, aI cap gk)), (yb, .inl (cI, aI (6 * cap) gbe)), (t0, .inr (1, [.int (iI steps), .int (iI choices), .int (iI bars), .ref hs, .ref hc, .ref hf, .ref hg, .ref hb, .ref he, .ref hm])), (hf, .inl (cI, aI 72 ffu)), (hg, .inl (cI, aI 72 fsu)), (hb, .inl (cI, aI 72 fbb)), (hm, .inl (cI, aI 2 fmo))]) rfl ?_
  refine g_istore_n C (lv' := [(3, .int (iI ((a * 6) + b))), (0, .ref y0), (1, .int (iI a)), (2, .int (iI b))]) std_Y_findKeysBehind_5 (by decide) rfl ?_
  refine g_aload_n C 1 std_Y_findKeysBehind_6 rfl ?_
  refine g_get C (st_sub sti_Y) 0 rfl rfl 2 (by decide) (List.mem_cons_of_mem _ kw_1_86) rfl rfl std_Y_findKeysBehind_7 ?_
  refine g_iload_n C 2 std_Y_findKeysBehind_10 rfl ?_
  refine g_iald C 1 0 rfl rfl (by omega) (by omega) (by omega) std_Y_findKeysBehind_11 ?_
  refine g_istore C (lv' := [(4, .int (iI (gst a))), (3, .int (iI ((a * 6) + b))), (0, .ref y0), (1, .int (iI a)), (2, .int (iI b))]) std_Y_findKeysBehind_12 (by decide) rfl ?_
  have L14 : ∀ (nn14 : Nat) (x : Int) (F : Int → Int), (gst a ≤ x ∧ x ≤ gst (a + 1)) → (∀ i, gst a ≤ i → i < x → F ((i * 6) + b) = kn fbb ffu fsu fmo ((a * 6) + b) b (gk i)) → (∀ j, (∀ i, gst a ≤ i → i < x → ¬ j = (i * 6) + b) → F j = gbe j) → (gst (a + 1) - x) < (nn14 : Int) → G p l e ({ frames := 1, cells := 0, slots := 0, locals := 22 } : Room) s m ([.ref y0, .int (iI a), .int (iI b)] : List Value).toArray below meth c (dC, dI) stCl 10 A 0 0 Q [(y0, .inr (2, [.ref t0, .int (iI total), .ref ys, .ref yk, .ref yc, .ref yd, .ref yw, .ref yx, .ref yb, .ref yu])), (ys, .inl (cI, aI 14 gst)), (yk, .inl (cI, aI cap gk)), (yb, .inl (cI, aI (6 * cap) F)), (t0, .inr (1, [.int (iI steps), .int (iI choices), .int (iI bars), .ref hs, .ref hc, .ref hf, .ref hg, .ref hb, .ref he, .ref hm])), (hf, .inl (cI, aI 72 ffu)), (hg, .inl (cI, aI 72 fsu)), (hb, .inl (cI, aI 72 fbb)), (hm, .inl (cI, aI 2 fmo))] 14 [(4, .int (iI x)), (3, .int (iI ((a * 6) + b))), (0, .ref y0), (1, .int (iI a)), (2, .int (iI b))] [] := by
    intro nn14
    induction nn14 with
    | zero =>
      intro x F kx kF1 kF2 hnn14
      exact absurd hnn14 (by omega)
    | succ nn14 ih14 =>
      intro x F kx kF1 kF2 hnn14
      refine g_iload C 0 std_Y_findKeysBehind_14 rfl ?_
      refine g_aload_n C 2 std_Y_findKeysBehind_16 rfl ?_
      refine g_get C (st_sub sti_Y) 0 rfl rfl 2 (by decide) (List.mem_cons_of_mem _ kw_1_86) rfl rfl std_Y_findKeysBehind_17 ?_
      refine g_iload_n C 3 std_Y_findKeysBehind_20 rfl ?_
      refine g_iconst C std_Y_findKeysBehind_21 ?_
      refine g_iadd C std_Y_findKeysBehind_22 ?_
      refine g_iald C 1 0 rfl rfl (by omega) (by omega) (by omega) std_Y_findKeysBehind_23 ?_
      refine g_icmp_ge (tgt := 174) C std_Y_findKeysBehind_24 (by decide) ⟨by omega, by omega⟩ ⟨by omega, by omega⟩ (fun c4 => ?_) (fun c4 => ?_)
      · exact hret _ _ F (⟨fun i h1 h2 => kF1 i h1 (by omega), fun j hj => kF2 j (fun i h1 h2 => hj i h1 (by omega))⟩) std_Y_findKeysBehind_174
      · have hq5 := kk x (by omega) (by omega)
        refine g_aload_n C 2 std_Y_findKeysBehind_27 rfl ?_
        refine g_get C (st_sub sti_Y) 0 rfl rfl 3 (by decide) (List.mem_cons_of_mem _ kw_1_88) rfl rfl std_Y_findKeysBehind_28 ?_
        refine g_iload C 0 std_Y_findKeysBehind_31 rfl ?_
        refine g_iald C 2 0 rfl rfl (by omega) (by omega) (by omega) std_Y_findKeysBehind_33 ?_
        refine g_SN_i (wc := []) (wr := [(y0, .inr (2, [.ref t0, .int (iI total), .ref ys, .ref yk, .ref yc, .ref yd, .ref yw, .ref yx, .ref yb, .ref yu])), (ys, .inl (cI, aI 14 gst)), (yk, .inl (cI, aI cap gk)), (yb, .inl (cI, aI (6 * cap) F)), (t0, .inr (1, [.int (iI steps), .int (iI choices), .int (iI bars), .ref hs, .ref hc, .ref hf, .ref hg, .ref hb, .ref he, .ref hm])), (hf, .inl (cI, aI 72 ffu)), (hg, .inl (cI, aI 72 fsu)), (hb, .inl (cI, aI 72 fbb)), (hm, .inl (cI, aI 2 fmo))]) (rest := []) C (c_lastChoice l dC dI cI cJ cZ (gk x) ) (st_cSN C kw_2_83 (List.mem_of_getElem? (i := 4) rfl) kw_1_1 kw_2_82 sth_S_lastChoice ⟨Nat.le_of_ble_eq_true rfl, Nat.le_of_ble_eq_true rfl⟩) rfl rfl (Nat.le_of_ble_eq_true rfl) std_Y_findKeysBehind_34 ⟨Nat.le_of_ble_eq_true rfl, Nat.le_of_ble_eq_true rfl⟩ [] [0, 1, 2, 3, 4, 5, 6, 7, 8] rfl rfl rfl rfl (by decide) (fun r5 u6 h7 => ?_)
        subst h7
        refine g_ws (ws' := [(y0, .inr (2, [.ref t0, .int (iI total), .ref ys, .ref yk, .ref yc, .ref yd, .ref yw, .ref yx, .ref yb, .ref yu])), (ys, .inl (cI, aI 14 gst)), (yk, .inl (cI, aI cap gk)), (yb, .inl (cI, aI (6 * cap) F)), (t0, .inr (1, [.int (iI steps), .int (iI choices), .int (iI bars), .ref hs, .ref hc, .ref hf, .ref hg, .ref hb, .ref he, .ref hm])), (hf, .inl (cI, aI 72 ffu)), (hg, .inl (cI, aI 72 fsu)), (hb, .inl (cI, aI 72 fbb)), (hm, .inl (cI, aI 2 fmo))]) rfl ?_
        refine g_istore C (lv' := [(5, .int (iI (((gk x) % 8) - 1))), (4, .int (iI x)), (3, .int (iI ((a * 6) + b))), (0, .ref y0), (1, .int (iI a)), (2, .int (iI b))]) std_Y_findKeysBehind_37 (by decide) rfl ?_
        refine g_aload_n C 3 std_Y_findKeysBehind_39 rfl ?_
        refine g_get C (st_sub sti_Y) 0 rfl rfl 3 (by decide) (List.mem_cons_of_mem _ kw_1_88) rfl rfl std_Y_findKeysBehind_40 ?_
        refine g_iload C 1 std_Y_findKeysBehind_43 rfl ?_
        refine g_iald C 2 0 rfl rfl (by omega) (by omega) (by omega) std_Y_findKeysBehind_45 ?_
        refine g_SN_i (wc := []) (wr := [(y0, .inr (2, [.ref t0, .int (iI total), .ref ys, .ref yk, .ref yc, .ref yd, .ref yw, .ref yx, .ref yb, .ref yu])), (ys, .inl (cI, aI 14 gst)), (yk, .inl (cI, aI cap gk)), (yb, .inl (cI, aI (6 * cap) F)), (t0, .inr (1, [.int (iI steps), .int (iI choices), .int (iI bars), .ref hs, .ref hc, .ref hf, .ref hg, .ref hb, .ref he, .ref hm])), (hf, .inl (cI, aI 72 ffu)), (hg, .inl (cI, aI 72 fsu)), (hb, .inl (cI, aI 72 fbb)), (hm, .inl (cI, aI 2 fmo))]) (rest := []) C (c_usedOfFirst l dC dI cI cJ cZ (gk x) (by omega)) (st_cSN C kw_2_86 (List.mem_of_getElem? (i := 5) rfl) kw_1_1 kw_2_85 sth_S_usedOfFirst ⟨Nat.le_of_ble_eq_true rfl, Nat.le_of_ble_eq_true rfl⟩) rfl rfl (Nat.le_of_ble_eq_true rfl) std_Y_findKeysBehind_46 ⟨Nat.le_of_ble_eq_true rfl, Nat.le_of_ble_eq_true rfl⟩ [] [0, 1, 2, 3, 4, 5, 6, 7, 8] rfl rfl rfl rfl (by decide) (fun r8 u9 h10 => ?_)
        subst h10
        refine g_ws (ws' := [(y0, .inr (2, [.ref t0, .int (iI total), .ref ys, .ref yk, .ref yc, .ref yd, .ref yw, .ref yx, .ref yb, .ref yu])), (ys, .inl (cI, aI 14 gst)), (yk, .inl (cI, aI cap gk)), (yb, .inl (cI, aI (6 * cap) F)), (t0, .inr (1, [.int (iI steps), .int (iI choices), .int (iI bars), .ref hs, .ref hc, .ref hf, .ref hg, .ref hb, .ref he, .ref hm])), (hf, .inl (cI, aI 72 ffu)), (hg, .inl (cI, aI 72 fsu)), (hb, .inl (cI, aI 72 fbb)), (hm, .inl (cI, aI 2 fmo))]) rfl ?_
        refine g_aload_n C 3 std_Y_findKeysBehind_49 rfl ?_
        refine g_get C (st_sub sti_Y) 0 rfl rfl 0 (by decide) (List.mem_cons_of_mem _ kw_1_83) rfl rfl std_Y_findKeysBehind_50 ?_
        refine g_get C (st_sub sti_T) 4 rfl rfl 5 (by decide) (List.mem_cons_of_mem _ kw_1_43) rfl rfl std_Y_findKeysBehind_53 ?_
        refine g_iload_n C 2 std_Y_findKeysBehind_56 rfl ?_
        refine g_iald C 5 0 rfl rfl (by omega) (by omega) (by omega) std_Y_findKeysBehind_57 ?_
        refine g_iadd C std_Y_findKeysBehind_58 ?_
        refine g_istore C (lv' := [(6, .int (iI (((gk x) / 512) + (ffu ((a * 6) + b))))), (5, .int (iI (((gk x) % 8) - 1))), (4, .int (iI x)), (3, .int (iI ((a * 6) + b))), (0, .ref y0), (1, .int (iI a)), (2, .int (iI b))]) std_Y_findKeysBehind_59 (by decide) rfl ?_
        refine g_aload_n C 4 std_Y_findKeysBehind_61 rfl ?_
        refine g_get C (st_sub sti_Y) 0 rfl rfl 3 (by decide) (List.mem_cons_of_mem _ kw_1_88) rfl rfl std_Y_findKeysBehind_62 ?_
        refine g_iload C 2 std_Y_findKeysBehind_65 rfl ?_
        refine g_iald C 2 0 rfl rfl (by omega) (by omega) (by omega) std_Y_findKeysBehind_67 ?_
        refine g_SN_i (wc := []) (wr := [(y0, .inr (2, [.ref t0, .int (iI total), .ref ys, .ref yk, .ref yc, .ref yd, .ref yw, .ref yx, .ref yb, .ref yu])), (ys, .inl (cI, aI 14 gst)), (yk, .inl (cI, aI cap gk)), (yb, .inl (cI, aI (6 * cap) F)), (t0, .inr (1, [.int (iI steps), .int (iI choices), .int (iI bars), .ref hs, .ref hc, .ref hf, .ref hg, .ref hb, .ref he, .ref hm])), (hf, .inl (cI, aI 72 ffu)), (hg, .inl (cI, aI 72 fsu)), (hb, .inl (cI, aI 72 fbb)), (hm, .inl (cI, aI 2 fmo))]) (rest := []) C (c_usedOfSecond l dC dI cI cJ cZ (gk x) (by omega)) (st_cSN C kw_2_89 (List.mem_of_getElem? (i := 6) rfl) kw_1_1 kw_2_88 sth_S_usedOfSecond ⟨Nat.le_of_ble_eq_true rfl, Nat.le_of_ble_eq_true rfl⟩) rfl rfl (Nat.le_of_ble_eq_true rfl) std_Y_findKeysBehind_68 ⟨Nat.le_of_ble_eq_true rfl, Nat.le_of_ble_eq_true rfl⟩ [] [0, 1, 2, 3, 4, 5, 6, 7, 8] rfl rfl rfl rfl (by decide) (fun r11 u12 h13 => ?_)
        subst h13
        refine g_ws (ws' := [(y0, .inr (2, [.ref t0, .int (iI total), .ref ys, .ref yk, .ref yc, .ref yd, .ref yw, .ref yx, .ref yb, .ref yu])), (ys, .inl (cI, aI 14 gst)), (yk, .inl (cI, aI cap gk)), (yb, .inl (cI, aI (6 * cap) F)), (t0, .inr (1, [.int (iI steps), .int (iI choices), .int (iI bars), .ref hs, .ref hc, .ref hf, .ref hg, .ref hb, .ref he, .ref hm])), (hf, .inl (cI, aI 72 ffu)), (hg, .inl (cI, aI 72 fsu)), (hb, .inl (cI, aI 72 fbb)), (hm, .inl (cI, aI 2 fmo))]) rfl ?_
        refine g_aload_n C 4 std_Y_findKeysBehind_71 rfl ?_
        refine g_get C (st_sub sti_Y) 0 rfl rfl 0 (by decide) (List.mem_cons_of_mem _ kw_1_83) rfl rfl std_Y_findKeysBehind_72 ?_
        refine g_get C (st_sub sti_T) 4 rfl rfl 6 (by decide) (List.mem_cons_of_mem _ kw_1_46) rfl rfl std_Y_findKeysBehind_75 ?_
        refine g_iload_n C 3 std_Y_findKeysBehind_78 rfl ?_
        refine g_iald C 6 0 rfl rfl (by omega) (by omega) (by omega) std_Y_findKeysBehind_79 ?_
        refine g_iadd C std_Y_findKeysBehind_80 ?_
        refine g_istore C (lv' := [(7, .int (iI ((((gk x) / 8) % 64) + (fsu ((a * 6) + b))))), (6, .int (iI (((gk x) / 512) + (ffu ((a * 6) + b))))), (5, .int (iI (((gk x) % 8) - 1))), (4, .int (iI x)), (3, .int (iI ((a * 6) + b))), (0, .ref y0), (1, .int (iI a)), (2, .int (iI b))]) std_Y_findKeysBehind_81 (by decide) rfl ?_
        refine g_iload C 2 std_Y_findKeysBehind_83 rfl ?_
        refine g_if_lt (tgt := 110) C std_Y_findKeysBehind_85 (by decide) ⟨by omega, by omega⟩ (fun c14 => ?_) (fun c14 => ?_)
        · refine g_iconst C std_Y_findKeysBehind_110 ?_
          refine g_istore C (lv' := [(8, .int (iI 0)), (7, .int (iI ((((gk x) / 8) % 64) + (fsu ((a * 6) + b))))), (6, .int (iI (((gk x) / 512) + (ffu ((a * 6) + b))))), (5, .int (iI (((gk x) % 8) - 1))), (4, .int (iI x)), (3, .int (iI ((a * 6) + b))), (0, .ref y0), (1, .int (iI a)), (2, .int (iI b))]) std_Y_findKeysBehind_111 (by decide) rfl ?_
          refine g_iload C 0 std_Y_findKeysBehind_113 rfl ?_
          refine g_if_ne (tgt := 136) C std_Y_findKeysBehind_115 (by decide) (by decide) (fun c15 => ?_) (fun c15 => ?_)
          · exfalso; omega
          · refine g_aload_n C 6 std_Y_findKeysBehind_118 rfl ?_
            refine g_get C (st_sub sti_Y) 0 rfl rfl 0 (by decide) (List.mem_cons_of_mem _ kw_1_83) rfl rfl std_Y_findKeysBehind_119 ?_
            refine g_iload C 2 std_Y_findKeysBehind_122 rfl ?_
            refine g_iload C 1 std_Y_findKeysBehind_124 rfl ?_
            refine g_V_i (wc := [(t0, .inr (1, [.int (iI steps), .int (iI choices), .int (iI bars), .ref hs, .ref hc, .ref hf, .ref hg, .ref hb, .ref he, .ref hm])), (hm, .inl (cI, aI 2 fmo))]) (wr := [(y0, .inr (2, [.ref t0, .int (iI total), .ref ys, .ref yk, .ref yc, .ref yd, .ref yw, .ref yx, .ref yb, .ref yu])), (ys, .inl (cI, aI 14 gst)), (yk, .inl (cI, aI cap gk)), (yb, .inl (cI, aI (6 * cap) F)), (hf, .inl (cI, aI 72 ffu)), (hg, .inl (cI, aI 72 fsu)), (hb, .inl (cI, aI 72 fbb))]) (rest := []) C (c_isWithinMost l dC dI cI cJ cZ t0 hs hc hf hg hb he hm steps choices bars fmo (((gk x) / 512) + (ffu ((a * 6) + b))) ((((gk x) / 8) % 64) + (fsu ((a * 6) + b))) (kmo) (by omega) (by omega)) (st_cV C kw_2_93 kw_2_90 kw_1_2 kw_2_91 kw_2_92 sth_T_isWithinMost ⟨Nat.le_of_ble_eq_true rfl, Nat.le_of_ble_eq_true rfl⟩) 0 rfl rfl rfl rfl (Nat.le_of_ble_eq_true rfl) std_Y_findKeysBehind_126 ⟨Nat.le_of_ble_eq_true rfl, Nat.le_of_ble_eq_true rfl⟩ [4, 8] [0, 1, 2, 3, 5, 6, 7] rfl rfl rfl rfl (by decide) (fun r16 u17 h18 => ?_)
            subst h18
            refine g_ws (ws' := [(y0, .inr (2, [.ref t0, .int (iI total), .ref ys, .ref yk, .ref yc, .ref yd, .ref yw, .ref yx, .ref yb, .ref yu])), (ys, .inl (cI, aI 14 gst)), (yk, .inl (cI, aI cap gk)), (yb, .inl (cI, aI (6 * cap) F)), (hf, .inl (cI, aI 72 ffu)), (hg, .inl (cI, aI 72 fsu)), (hb, .inl (cI, aI 72 fbb)), (t0, .inr (1, [.int (iI steps), .int (iI choices), .int (iI bars), .ref hs, .ref hc, .ref hf, .ref hg, .ref hb, .ref he, .ref hm])), (hm, .inl (cI, aI 2 fmo))]) rfl ?_
            refine g_ifeq_b (tgt := 136) C std_Y_findKeysBehind_129 (by decide) (fun c19 => ?_) (fun c19 => ?_)
            · refine g_iconst C std_Y_findKeysBehind_136 ?_
              refine g_istore C (lv' := [(9, .int (iI 0)), (8, .int (iI 0)), (7, .int (iI ((((gk x) / 8) % 64) + (fsu ((a * 6) + b))))), (6, .int (iI (((gk x) / 512) + (ffu ((a * 6) + b))))), (5, .int (iI (((gk x) % 8) - 1))), (4, .int (iI x)), (3, .int (iI ((a * 6) + b))), (0, .ref y0), (1, .int (iI a)), (2, .int (iI b))]) std_Y_findKeysBehind_137 (by decide) rfl ?_
              refine g_aload_n C 7 std_Y_findKeysBehind_139 rfl ?_
              refine g_get C (st_sub sti_Y) 0 rfl rfl 8 (by decide) (List.mem_cons_of_mem _ kw_1_99) rfl rfl std_Y_findKeysBehind_140 ?_
              refine g_iload C 5 std_Y_findKeysBehind_143 rfl ?_
              refine g_bipush C std_Y_findKeysBehind_145 (by decide) ?_
              refine g_imul C std_Y_findKeysBehind_147 ?_
              refine g_iload_n C 9 std_Y_findKeysBehind_148 rfl ?_
              refine g_iadd C std_Y_findKeysBehind_149 ?_
              refine g_iload C 0 std_Y_findKeysBehind_150 rfl ?_
              refine g_if_eq (tgt := 166) C std_Y_findKeysBehind_152 (by decide) (by decide) (fun c20 => ?_) (fun c20 => ?_)
              · refine g_iconst C std_Y_findKeysBehind_166 ?_
                refine g_iast C (ws' := [(y0, .inr (2, [.ref t0, .int (iI total), .ref ys, .ref yk, .ref yc, .ref yd, .ref yw, .ref yx, .ref yb, .ref yu])), (ys, .inl (cI, aI 14 gst)), (yk, .inl (cI, aI cap gk)), (yb, .inl (cI, aI (6 * cap) (uZ F ((x * 6) + b) (-1)))), (hf, .inl (cI, aI 72 ffu)), (hg, .inl (cI, aI 72 fsu)), (hb, .inl (cI, aI 72 fbb)), (t0, .inr (1, [.int (iI steps), .int (iI choices), .int (iI bars), .ref hs, .ref hc, .ref hf, .ref hg, .ref hb, .ref he, .ref hm])), (hm, .inl (cI, aI 2 fmo))]) 3 0 rfl rfl (by omega) (by omega) (by omega) std_Y_findKeysBehind_167 rfl ?_
                refine g_iinc C (lv' := [(4, .int (iI (x + 1))), (9, .int (iI 0)), (8, .int (iI 0)), (7, .int (iI ((((gk x) / 8) % 64) + (fsu ((a * 6) + b))))), (6, .int (iI (((gk x) / 512) + (ffu ((a * 6) + b))))), (5, .int (iI (((gk x) % 8) - 1))), (3, .int (iI ((a * 6) + b))), (0, .ref y0), (1, .int (iI a)), (2, .int (iI b))]) 5 std_Y_findKeysBehind_168 rfl (by decide) rfl ?_
                refine g_goto (tgt := 14) C std_Y_findKeysBehind_171 (by decide) ?_
                refine g_sub (ws' := [(y0, .inr (2, [.ref t0, .int (iI total), .ref ys, .ref yk, .ref yc, .ref yd, .ref yw, .ref yx, .ref yb, .ref yu])), (ys, .inl (cI, aI 14 gst)), (yk, .inl (cI, aI cap gk)), (yb, .inl (cI, aI (6 * cap) (uZ F ((x * 6) + b) (-1)))), (t0, .inr (1, [.int (iI steps), .int (iI choices), .int (iI bars), .ref hs, .ref hc, .ref hf, .ref hg, .ref hb, .ref he, .ref hm])), (hf, .inl (cI, aI 72 ffu)), (hg, .inl (cI, aI 72 fsu)), (hb, .inl (cI, aI 72 fbb)), (hm, .inl (cI, aI 2 fmo))]) [0, 1, 2, 3, 7, 4, 5, 6, 8] rfl rfl ?_
                refine g_lv (lv' := [(4, .int (iI (x + 1))), (3, .int (iI ((a * 6) + b))), (0, .ref y0), (1, .int (iI a)), (2, .int (iI b))]) [0, 6, 7, 8, 9] rfl ?_
                refine g_wide (k := 0) (n := 0) (Nat.le_of_ble_eq_true rfl) (Nat.le_of_ble_eq_true rfl) ?_
                exact ih14 (x + 1) (uZ F ((x * 6) + b) (-1)) (by omega) (fk_1 kF1 (by omega) ((kn_shut (fun h => by have h1 := h.1; have h2 := h.2; omega)).symm)) (fk_2 kF2 (by omega)) (by omega)
              · exfalso; omega
            · refine g_iconst C std_Y_findKeysBehind_132 ?_
              refine g_goto (tgt := 137) C std_Y_findKeysBehind_133 (by decide) ?_
              refine g_istore C (lv' := [(9, .int (iI 1)), (8, .int (iI 0)), (7, .int (iI ((((gk x) / 8) % 64) + (fsu ((a * 6) + b))))), (6, .int (iI (((gk x) / 512) + (ffu ((a * 6) + b))))), (5, .int (iI (((gk x) % 8) - 1))), (4, .int (iI x)), (3, .int (iI ((a * 6) + b))), (0, .ref y0), (1, .int (iI a)), (2, .int (iI b))]) std_Y_findKeysBehind_137 (by decide) rfl ?_
              refine g_aload_n C 7 std_Y_findKeysBehind_139 rfl ?_
              refine g_get C (st_sub sti_Y) 0 rfl rfl 8 (by decide) (List.mem_cons_of_mem _ kw_1_99) rfl rfl std_Y_findKeysBehind_140 ?_
              refine g_iload C 5 std_Y_findKeysBehind_143 rfl ?_
              refine g_bipush C std_Y_findKeysBehind_145 (by decide) ?_
              refine g_imul C std_Y_findKeysBehind_147 ?_
              refine g_iload_n C 9 std_Y_findKeysBehind_148 rfl ?_
              refine g_iadd C std_Y_findKeysBehind_149 ?_
              refine g_iload C 0 std_Y_findKeysBehind_150 rfl ?_
              refine g_if_eq (tgt := 166) C std_Y_findKeysBehind_152 (by decide) (by decide) (fun c21 => ?_) (fun c21 => ?_)
              · exfalso; omega
              · refine g_iload C 3 std_Y_findKeysBehind_155 rfl ?_
                refine g_iload C 2 std_Y_findKeysBehind_157 rfl ?_
                refine g_iload_n C 9 std_Y_findKeysBehind_159 rfl ?_
                refine g_SN_i (wc := []) (wr := [(y0, .inr (2, [.ref t0, .int (iI total), .ref ys, .ref yk, .ref yc, .ref yd, .ref yw, .ref yx, .ref yb, .ref yu])), (ys, .inl (cI, aI 14 gst)), (yk, .inl (cI, aI cap gk)), (yb, .inl (cI, aI (6 * cap) F)), (hf, .inl (cI, aI 72 ffu)), (hg, .inl (cI, aI 72 fsu)), (hb, .inl (cI, aI 72 fbb)), (t0, .inr (1, [.int (iI steps), .int (iI choices), .int (iI bars), .ref hs, .ref hc, .ref hf, .ref hg, .ref hb, .ref he, .ref hm])), (hm, .inl (cI, aI 2 fmo))]) (rest := [.int (iI ((x * 6) + b)), .ref yb]) C (c_keyOf l dC dI cI cJ cZ (((gk x) / 512) + (ffu ((a * 6) + b))) ((((gk x) / 8) % 64) + (fsu ((a * 6) + b))) b (by omega) (by omega) (by omega)) (st_cSN C kw_2_35 (List.mem_of_getElem? (i := 2) rfl) kw_1_1 kw_2_34 sth_S_keyOf ⟨Nat.le_of_ble_eq_true rfl, Nat.le_of_ble_eq_true rfl⟩) rfl rfl (Nat.le_of_ble_eq_true rfl) std_Y_findKeysBehind_160 ⟨Nat.le_of_ble_eq_true rfl, Nat.le_of_ble_eq_true rfl⟩ [] [0, 1, 2, 3, 4, 5, 6, 7, 8] rfl rfl rfl rfl (by decide) (fun r22 u23 h24 => ?_)
                subst h24
                refine g_ws (ws' := [(y0, .inr (2, [.ref t0, .int (iI total), .ref ys, .ref yk, .ref yc, .ref yd, .ref yw, .ref yx, .ref yb, .ref yu])), (ys, .inl (cI, aI 14 gst)), (yk, .inl (cI, aI cap gk)), (yb, .inl (cI, aI (6 * cap) F)), (hf, .inl (cI, aI 72 ffu)), (hg, .inl (cI, aI 72 fsu)), (hb, .inl (cI, aI 72 fbb)), (t0, .inr (1, [.int (iI steps), .int (iI choices), .int (iI bars), .ref hs, .ref hc, .ref hf, .ref hg, .ref hb, .ref he, .ref hm])), (hm, .inl (cI, aI 2 fmo))]) rfl ?_
                refine g_goto (tgt := 167) C std_Y_findKeysBehind_163 (by decide) ?_
                refine g_iast C (ws' := [(y0, .inr (2, [.ref t0, .int (iI total), .ref ys, .ref yk, .ref yc, .ref yd, .ref yw, .ref yx, .ref yb, .ref yu])), (ys, .inl (cI, aI 14 gst)), (yk, .inl (cI, aI cap gk)), (yb, .inl (cI, aI (6 * cap) (uZ F ((x * 6) + b) ((((((gk x) / 512) + (ffu ((a * 6) + b))) * 512) + (((((gk x) / 8) % 64) + (fsu ((a * 6) + b))) * 8)) + (b + 1))))), (hf, .inl (cI, aI 72 ffu)), (hg, .inl (cI, aI 72 fsu)), (hb, .inl (cI, aI 72 fbb)), (t0, .inr (1, [.int (iI steps), .int (iI choices), .int (iI bars), .ref hs, .ref hc, .ref hf, .ref hg, .ref hb, .ref he, .ref hm])), (hm, .inl (cI, aI 2 fmo))]) 3 0 rfl rfl (by omega) (by omega) (by omega) std_Y_findKeysBehind_167 rfl ?_
                refine g_iinc C (lv' := [(4, .int (iI (x + 1))), (9, .int (iI 1)), (8, .int (iI 0)), (7, .int (iI ((((gk x) / 8) % 64) + (fsu ((a * 6) + b))))), (6, .int (iI (((gk x) / 512) + (ffu ((a * 6) + b))))), (5, .int (iI (((gk x) % 8) - 1))), (3, .int (iI ((a * 6) + b))), (0, .ref y0), (1, .int (iI a)), (2, .int (iI b))]) 5 std_Y_findKeysBehind_168 rfl (by decide) rfl ?_
                refine g_goto (tgt := 14) C std_Y_findKeysBehind_171 (by decide) ?_
                refine g_sub (ws' := [(y0, .inr (2, [.ref t0, .int (iI total), .ref ys, .ref yk, .ref yc, .ref yd, .ref yw, .ref yx, .ref yb, .ref yu])), (ys, .inl (cI, aI 14 gst)), (yk, .inl (cI, aI cap gk)), (yb, .inl (cI, aI (6 * cap) (uZ F ((x * 6) + b) ((((((gk x) / 512) + (ffu ((a * 6) + b))) * 512) + (((((gk x) / 8) % 64) + (fsu ((a * 6) + b))) * 8)) + (b + 1))))), (t0, .inr (1, [.int (iI steps), .int (iI choices), .int (iI bars), .ref hs, .ref hc, .ref hf, .ref hg, .ref hb, .ref he, .ref hm])), (hf, .inl (cI, aI 72 ffu)), (hg, .inl (cI, aI 72 fsu)), (hb, .inl (cI, aI 72 fbb)), (hm, .inl (cI, aI 2 fmo))]) [0, 1, 2, 3, 7, 4, 5, 6, 8] rfl rfl ?_
                refine g_lv (lv' := [(4, .int (iI (x + 1))), (3, .int (iI ((a * 6) + b))), (0, .ref y0), (1, .int (iI a)), (2, .int (iI b))]) [0, 6, 7, 8, 9] rfl ?_
                refine g_wide (k := 0) (n := 0) (Nat.le_of_ble_eq_true rfl) (Nat.le_of_ble_eq_true rfl) ?_
                exact ih14 (x + 1) (uZ F ((x * 6) + b) ((((((gk x) / 512) + (ffu ((a * 6) + b))) * 512) + (((((gk x) / 8) % 64) + (fsu ((a * 6) + b))) * 8)) + (b + 1))) (by omega) (fk_1 kF1 (by omega) ((kn_open ⟨fun h => by omega, by omega, by omega⟩).symm)) (fk_2 kF2 (by omega)) (by omega)
        · refine g_aload_n C 5 std_Y_findKeysBehind_88 rfl ?_
          refine g_get C (st_sub sti_Y) 0 rfl rfl 0 (by decide) (List.mem_cons_of_mem _ kw_1_83) rfl rfl std_Y_findKeysBehind_89 ?_
          refine g_get C (st_sub sti_T) 4 rfl rfl 7 (by decide) (List.mem_cons_of_mem _ kw_1_49) rfl rfl std_Y_findKeysBehind_92 ?_
          refine g_iload_n C 4 std_Y_findKeysBehind_95 rfl ?_
          refine g_iald C 7 0 rfl rfl (by omega) (by omega) (by omega) std_Y_findKeysBehind_96 ?_
          refine g_iload C 2 std_Y_findKeysBehind_97 rfl ?_
          refine g_ishr C (d := (2 ^ ((((gk x) % 8) - 1)).toNat)) std_Y_findKeysBehind_99 ⟨by omega, by omega⟩ (by omega) (by omega) rfl ?_
          refine g_iconst C std_Y_findKeysBehind_100 ?_
          refine g_iand C std_Y_findKeysBehind_101 (iI_andK (d := 2) 1 (by decide) (by decide) (by decide)) ?_
          refine g_iconst C std_Y_findKeysBehind_102 ?_
          refine g_icmp_ne (tgt := 110) C std_Y_findKeysBehind_103 (by decide) ⟨by omega, by omega⟩ ⟨by omega, by omega⟩ (fun c25 => ?_) (fun c25 => ?_)
          · refine g_iconst C std_Y_findKeysBehind_110 ?_
            refine g_istore C (lv' := [(8, .int (iI 0)), (7, .int (iI ((((gk x) / 8) % 64) + (fsu ((a * 6) + b))))), (6, .int (iI (((gk x) / 512) + (ffu ((a * 6) + b))))), (5, .int (iI (((gk x) % 8) - 1))), (4, .int (iI x)), (3, .int (iI ((a * 6) + b))), (0, .ref y0), (1, .int (iI a)), (2, .int (iI b))]) std_Y_findKeysBehind_111 (by decide) rfl ?_
            refine g_iload C 0 std_Y_findKeysBehind_113 rfl ?_
            refine g_if_ne (tgt := 136) C std_Y_findKeysBehind_115 (by decide) (by decide) (fun c26 => ?_) (fun c26 => ?_)
            · exfalso; omega
            · refine g_aload_n C 6 std_Y_findKeysBehind_118 rfl ?_
              refine g_get C (st_sub sti_Y) 0 rfl rfl 0 (by decide) (List.mem_cons_of_mem _ kw_1_83) rfl rfl std_Y_findKeysBehind_119 ?_
              refine g_iload C 2 std_Y_findKeysBehind_122 rfl ?_
              refine g_iload C 1 std_Y_findKeysBehind_124 rfl ?_
              refine g_V_i (wc := [(t0, .inr (1, [.int (iI steps), .int (iI choices), .int (iI bars), .ref hs, .ref hc, .ref hf, .ref hg, .ref hb, .ref he, .ref hm])), (hm, .inl (cI, aI 2 fmo))]) (wr := [(y0, .inr (2, [.ref t0, .int (iI total), .ref ys, .ref yk, .ref yc, .ref yd, .ref yw, .ref yx, .ref yb, .ref yu])), (ys, .inl (cI, aI 14 gst)), (yk, .inl (cI, aI cap gk)), (yb, .inl (cI, aI (6 * cap) F)), (hf, .inl (cI, aI 72 ffu)), (hg, .inl (cI, aI 72 fsu)), (hb, .inl (cI, aI 72 fbb))]) (rest := []) C (c_isWithinMost l dC dI cI cJ cZ t0 hs hc hf hg hb he hm steps choices bars fmo (((gk x) / 512) + (ffu ((a * 6) + b))) ((((gk x) / 8) % 64) + (fsu ((a * 6) + b))) (kmo) (by omega) (by omega)) (st_cV C kw_2_93 kw_2_90 kw_1_2 kw_2_91 kw_2_92 sth_T_isWithinMost ⟨Nat.le_of_ble_eq_true rfl, Nat.le_of_ble_eq_true rfl⟩) 0 rfl rfl rfl rfl (Nat.le_of_ble_eq_true rfl) std_Y_findKeysBehind_126 ⟨Nat.le_of_ble_eq_true rfl, Nat.le_of_ble_eq_true rfl⟩ [4, 8] [0, 1, 2, 3, 5, 6, 7] rfl rfl rfl rfl (by decide) (fun r27 u28 h29 => ?_)
              subst h29
              refine g_ws (ws' := [(y0, .inr (2, [.ref t0, .int (iI total), .ref ys, .ref yk, .ref yc, .ref yd, .ref yw, .ref yx, .ref yb, .ref yu])), (ys, .inl (cI, aI 14 gst)), (yk, .inl (cI, aI cap gk)), (yb, .inl (cI, aI (6 * cap) F)), (hf, .inl (cI, aI 72 ffu)), (hg, .inl (cI, aI 72 fsu)), (hb, .inl (cI, aI 72 fbb)), (t0, .inr (1, [.int (iI steps), .int (iI choices), .int (iI bars), .ref hs, .ref hc, .ref hf, .ref hg, .ref hb, .ref he, .ref hm])), (hm, .inl (cI, aI 2 fmo))]) rfl ?_
              refine g_ifeq_b (tgt := 136) C std_Y_findKeysBehind_129 (by decide) (fun c30 => ?_) (fun c30 => ?_)
              · refine g_iconst C std_Y_findKeysBehind_136 ?_
                refine g_istore C (lv' := [(9, .int (iI 0)), (8, .int (iI 0)), (7, .int (iI ((((gk x) / 8) % 64) + (fsu ((a * 6) + b))))), (6, .int (iI (((gk x) / 512) + (ffu ((a * 6) + b))))), (5, .int (iI (((gk x) % 8) - 1))), (4, .int (iI x)), (3, .int (iI ((a * 6) + b))), (0, .ref y0), (1, .int (iI a)), (2, .int (iI b))]) std_Y_findKeysBehind_137 (by decide) rfl ?_
                refine g_aload_n C 7 std_Y_findKeysBehind_139 rfl ?_
                refine g_get C (st_sub sti_Y) 0 rfl rfl 8 (by decide) (List.mem_cons_of_mem _ kw_1_99) rfl rfl std_Y_findKeysBehind_140 ?_
                refine g_iload C 5 std_Y_findKeysBehind_143 rfl ?_
                refine g_bipush C std_Y_findKeysBehind_145 (by decide) ?_
                refine g_imul C std_Y_findKeysBehind_147 ?_
                refine g_iload_n C 9 std_Y_findKeysBehind_148 rfl ?_
                refine g_iadd C std_Y_findKeysBehind_149 ?_
                refine g_iload C 0 std_Y_findKeysBehind_150 rfl ?_
                refine g_if_eq (tgt := 166) C std_Y_findKeysBehind_152 (by decide) (by decide) (fun c31 => ?_) (fun c31 => ?_)
                · refine g_iconst C std_Y_findKeysBehind_166 ?_
                  refine g_iast C (ws' := [(y0, .inr (2, [.ref t0, .int (iI total), .ref ys, .ref yk, .ref yc, .ref yd, .ref yw, .ref yx, .ref yb, .ref yu])), (ys, .inl (cI, aI 14 gst)), (yk, .inl (cI, aI cap gk)), (yb, .inl (cI, aI (6 * cap) (uZ F ((x * 6) + b) (-1)))), (hf, .inl (cI, aI 72 ffu)), (hg, .inl (cI, aI 72 fsu)), (hb, .inl (cI, aI 72 fbb)), (t0, .inr (1, [.int (iI steps), .int (iI choices), .int (iI bars), .ref hs, .ref hc, .ref hf, .ref hg, .ref hb, .ref he, .ref hm])), (hm, .inl (cI, aI 2 fmo))]) 3 0 rfl rfl (by omega) (by omega) (by omega) std_Y_findKeysBehind_167 rfl ?_
                  refine g_iinc C (lv' := [(4, .int (iI (x + 1))), (9, .int (iI 0)), (8, .int (iI 0)), (7, .int (iI ((((gk x) / 8) % 64) + (fsu ((a * 6) + b))))), (6, .int (iI (((gk x) / 512) + (ffu ((a * 6) + b))))), (5, .int (iI (((gk x) % 8) - 1))), (3, .int (iI ((a * 6) + b))), (0, .ref y0), (1, .int (iI a)), (2, .int (iI b))]) 5 std_Y_findKeysBehind_168 rfl (by decide) rfl ?_
                  refine g_goto (tgt := 14) C std_Y_findKeysBehind_171 (by decide) ?_
                  refine g_sub (ws' := [(y0, .inr (2, [.ref t0, .int (iI total), .ref ys, .ref yk, .ref yc, .ref yd, .ref yw, .ref yx, .ref yb, .ref yu])), (ys, .inl (cI, aI 14 gst)), (yk, .inl (cI, aI cap gk)), (yb, .inl (cI, aI (6 * cap) (uZ F ((x * 6) + b) (-1)))), (t0, .inr (1, [.int (iI steps), .int (iI choices), .int (iI bars), .ref hs, .ref hc, .ref hf, .ref hg, .ref hb, .ref he, .ref hm])), (hf, .inl (cI, aI 72 ffu)), (hg, .inl (cI, aI 72 fsu)), (hb, .inl (cI, aI 72 fbb)), (hm, .inl (cI, aI 2 fmo))]) [0, 1, 2, 3, 7, 4, 5, 6, 8] rfl rfl ?_
                  refine g_lv (lv' := [(4, .int (iI (x + 1))), (3, .int (iI ((a * 6) + b))), (0, .ref y0), (1, .int (iI a)), (2, .int (iI b))]) [0, 6, 7, 8, 9] rfl ?_
                  refine g_wide (k := 0) (n := 0) (Nat.le_of_ble_eq_true rfl) (Nat.le_of_ble_eq_true rfl) ?_
                  exact ih14 (x + 1) (uZ F ((x * 6) + b) (-1)) (by omega) (fk_1 kF1 (by omega) ((kn_shut (fun h => by have h1 := h.1; have h2 := h.2; omega)).symm)) (fk_2 kF2 (by omega)) (by omega)
                · exfalso; omega
              · refine g_iconst C std_Y_findKeysBehind_132 ?_
                refine g_goto (tgt := 137) C std_Y_findKeysBehind_133 (by decide) ?_
                refine g_istore C (lv' := [(9, .int (iI 1)), (8, .int (iI 0)), (7, .int (iI ((((gk x) / 8) % 64) + (fsu ((a * 6) + b))))), (6, .int (iI (((gk x) / 512) + (ffu ((a * 6) + b))))), (5, .int (iI (((gk x) % 8) - 1))), (4, .int (iI x)), (3, .int (iI ((a * 6) + b))), (0, .ref y0), (1, .int (iI a)), (2, .int (iI b))]) std_Y_findKeysBehind_137 (by decide) rfl ?_
                refine g_aload_n C 7 std_Y_findKeysBehind_139 rfl ?_
                refine g_get C (st_sub sti_Y) 0 rfl rfl 8 (by decide) (List.mem_cons_of_mem _ kw_1_99) rfl rfl std_Y_findKeysBehind_140 ?_
                refine g_iload C 5 std_Y_findKeysBehind_143 rfl ?_
                refine g_bipush C std_Y_findKeysBehind_145 (by decide) ?_
                refine g_imul C std_Y_findKeysBehind_147 ?_
                refine g_iload_n C 9 std_Y_findKeysBehind_148 rfl ?_
                refine g_iadd C std_Y_findKeysBehind_149 ?_
                refine g_iload C 0 std_Y_findKeysBehind_150 rfl ?_
                refine g_if_eq (tgt := 166) C std_Y_findKeysBehind_152 (by decide) (by decide) (fun c32 => ?_) (fun c32 => ?_)
                · exfalso; omega
                · refine g_iload C 3 std_Y_findKeysBehind_155 rfl ?_
                  refine g_iload C 2 std_Y_findKeysBehind_157 rfl ?_
                  refine g_iload_n C 9 std_Y_findKeysBehind_159 rfl ?_
                  refine g_SN_i (wc := []) (wr := [(y0, .inr (2, [.ref t0, .int (iI total), .ref ys, .ref yk, .ref yc, .ref yd, .ref yw, .ref yx, .ref yb, .ref yu])), (ys, .inl (cI, aI 14 gst)), (yk, .inl (cI, aI cap gk)), (yb, .inl (cI, aI (6 * cap) F)), (hf, .inl (cI, aI 72 ffu)), (hg, .inl (cI, aI 72 fsu)), (hb, .inl (cI, aI 72 fbb)), (t0, .inr (1, [.int (iI steps), .int (iI choices), .int (iI bars), .ref hs, .ref hc, .ref hf, .ref hg, .ref hb, .ref he, .ref hm])), (hm, .inl (cI, aI 2 fmo))]) (rest := [.int (iI ((x * 6) + b)), .ref yb]) C (c_keyOf l dC dI cI cJ cZ (((gk x) / 512) + (ffu ((a * 6) + b))) ((((gk x) / 8) % 64) + (fsu ((a * 6) + b))) b (by omega) (by omega) (by omega)) (st_cSN C kw_2_35 (List.mem_of_getElem? (i := 2) rfl) kw_1_1 kw_2_34 sth_S_keyOf ⟨Nat.le_of_ble_eq_true rfl, Nat.le_of_ble_eq_true rfl⟩) rfl rfl (Nat.le_of_ble_eq_true rfl) std_Y_findKeysBehind_160 ⟨Nat.le_of_ble_eq_true rfl, Nat.le_of_ble_eq_true rfl⟩ [] [0, 1, 2, 3, 4, 5, 6, 7, 8] rfl rfl rfl rfl (by decide) (fun r33 u34 h35 => ?_)
                  subst h35
                  refine g_ws (ws' := [(y0, .inr (2, [.ref t0, .int (iI total), .ref ys, .ref yk, .ref yc, .ref yd, .ref yw, .ref yx, .ref yb, .ref yu])), (ys, .inl (cI, aI 14 gst)), (yk, .inl (cI, aI cap gk)), (yb, .inl (cI, aI (6 * cap) F)), (hf, .inl (cI, aI 72 ffu)), (hg, .inl (cI, aI 72 fsu)), (hb, .inl (cI, aI 72 fbb)), (t0, .inr (1, [.int (iI steps), .int (iI choices), .int (iI bars), .ref hs, .ref hc, .ref hf, .ref hg, .ref hb, .ref he, .ref hm])), (hm, .inl (cI, aI 2 fmo))]) rfl ?_
                  refine g_goto (tgt := 167) C std_Y_findKeysBehind_163 (by decide) ?_
                  refine g_iast C (ws' := [(y0, .inr (2, [.ref t0, .int (iI total), .ref ys, .ref yk, .ref yc, .ref yd, .ref yw, .ref yx, .ref yb, .ref yu])), (ys, .inl (cI, aI 14 gst)), (yk, .inl (cI, aI cap gk)), (yb, .inl (cI, aI (6 * cap) (uZ F ((x * 6) + b) ((((((gk x) / 512) + (ffu ((a * 6) + b))) * 512) + (((((gk x) / 8) % 64) + (fsu ((a * 6) + b))) * 8)) + (b + 1))))), (hf, .inl (cI, aI 72 ffu)), (hg, .inl (cI, aI 72 fsu)), (hb, .inl (cI, aI 72 fbb)), (t0, .inr (1, [.int (iI steps), .int (iI choices), .int (iI bars), .ref hs, .ref hc, .ref hf, .ref hg, .ref hb, .ref he, .ref hm])), (hm, .inl (cI, aI 2 fmo))]) 3 0 rfl rfl (by omega) (by omega) (by omega) std_Y_findKeysBehind_167 rfl ?_
                  refine g_iinc C (lv' := [(4, .int (iI (x + 1))), (9, .int (iI 1)), (8, .int (iI 0)), (7, .int (iI ((((gk x) / 8) % 64) + (fsu ((a * 6) + b))))), (6, .int (iI (((gk x) / 512) + (ffu ((a * 6) + b))))), (5, .int (iI (((gk x) % 8) - 1))), (3, .int (iI ((a * 6) + b))), (0, .ref y0), (1, .int (iI a)), (2, .int (iI b))]) 5 std_Y_findKeysBehind_168 rfl (by decide) rfl ?_
                  refine g_goto (tgt := 14) C std_Y_findKeysBehind_171 (by decide) ?_
                  refine g_sub (ws' := [(y0, .inr (2, [.ref t0, .int (iI total), .ref ys, .ref yk, .ref yc, .ref yd, .ref yw, .ref yx, .ref yb, .ref yu])), (ys, .inl (cI, aI 14 gst)), (yk, .inl (cI, aI cap gk)), (yb, .inl (cI, aI (6 * cap) (uZ F ((x * 6) + b) ((((((gk x) / 512) + (ffu ((a * 6) + b))) * 512) + (((((gk x) / 8) % 64) + (fsu ((a * 6) + b))) * 8)) + (b + 1))))), (t0, .inr (1, [.int (iI steps), .int (iI choices), .int (iI bars), .ref hs, .ref hc, .ref hf, .ref hg, .ref hb, .ref he, .ref hm])), (hf, .inl (cI, aI 72 ffu)), (hg, .inl (cI, aI 72 fsu)), (hb, .inl (cI, aI 72 fbb)), (hm, .inl (cI, aI 2 fmo))]) [0, 1, 2, 3, 7, 4, 5, 6, 8] rfl rfl ?_
                  refine g_lv (lv' := [(4, .int (iI (x + 1))), (3, .int (iI ((a * 6) + b))), (0, .ref y0), (1, .int (iI a)), (2, .int (iI b))]) [0, 6, 7, 8, 9] rfl ?_
                  refine g_wide (k := 0) (n := 0) (Nat.le_of_ble_eq_true rfl) (Nat.le_of_ble_eq_true rfl) ?_
                  exact ih14 (x + 1) (uZ F ((x * 6) + b) ((((((gk x) / 512) + (ffu ((a * 6) + b))) * 512) + (((((gk x) / 8) % 64) + (fsu ((a * 6) + b))) * 8)) + (b + 1))) (by omega) (fk_1 kF1 (by omega) ((kn_open ⟨fun h => by omega, by omega, by omega⟩).symm)) (fk_2 kF2 (by omega)) (by omega)
          · refine g_iconst C std_Y_findKeysBehind_106 ?_
            refine g_goto (tgt := 111) C std_Y_findKeysBehind_107 (by decide) ?_
            refine g_istore C (lv' := [(8, .int (iI 1)), (7, .int (iI ((((gk x) / 8) % 64) + (fsu ((a * 6) + b))))), (6, .int (iI (((gk x) / 512) + (ffu ((a * 6) + b))))), (5, .int (iI (((gk x) % 8) - 1))), (4, .int (iI x)), (3, .int (iI ((a * 6) + b))), (0, .ref y0), (1, .int (iI a)), (2, .int (iI b))]) std_Y_findKeysBehind_111 (by decide) rfl ?_
            refine g_iload C 0 std_Y_findKeysBehind_113 rfl ?_
            refine g_if_ne (tgt := 136) C std_Y_findKeysBehind_115 (by decide) (by decide) (fun c36 => ?_) (fun c36 => ?_)
            · refine g_iconst C std_Y_findKeysBehind_136 ?_
              refine g_istore C (lv' := [(9, .int (iI 0)), (8, .int (iI 1)), (7, .int (iI ((((gk x) / 8) % 64) + (fsu ((a * 6) + b))))), (6, .int (iI (((gk x) / 512) + (ffu ((a * 6) + b))))), (5, .int (iI (((gk x) % 8) - 1))), (4, .int (iI x)), (3, .int (iI ((a * 6) + b))), (0, .ref y0), (1, .int (iI a)), (2, .int (iI b))]) std_Y_findKeysBehind_137 (by decide) rfl ?_
              refine g_aload_n C 7 std_Y_findKeysBehind_139 rfl ?_
              refine g_get C (st_sub sti_Y) 0 rfl rfl 8 (by decide) (List.mem_cons_of_mem _ kw_1_99) rfl rfl std_Y_findKeysBehind_140 ?_
              refine g_iload C 5 std_Y_findKeysBehind_143 rfl ?_
              refine g_bipush C std_Y_findKeysBehind_145 (by decide) ?_
              refine g_imul C std_Y_findKeysBehind_147 ?_
              refine g_iload_n C 9 std_Y_findKeysBehind_148 rfl ?_
              refine g_iadd C std_Y_findKeysBehind_149 ?_
              refine g_iload C 0 std_Y_findKeysBehind_150 rfl ?_
              refine g_if_eq (tgt := 166) C std_Y_findKeysBehind_152 (by decide) (by decide) (fun c37 => ?_) (fun c37 => ?_)
              · refine g_iconst C std_Y_findKeysBehind_166 ?_
                refine g_iast C (ws' := [(y0, .inr (2, [.ref t0, .int (iI total), .ref ys, .ref yk, .ref yc, .ref yd, .ref yw, .ref yx, .ref yb, .ref yu])), (ys, .inl (cI, aI 14 gst)), (yk, .inl (cI, aI cap gk)), (yb, .inl (cI, aI (6 * cap) (uZ F ((x * 6) + b) (-1)))), (t0, .inr (1, [.int (iI steps), .int (iI choices), .int (iI bars), .ref hs, .ref hc, .ref hf, .ref hg, .ref hb, .ref he, .ref hm])), (hf, .inl (cI, aI 72 ffu)), (hg, .inl (cI, aI 72 fsu)), (hb, .inl (cI, aI 72 fbb)), (hm, .inl (cI, aI 2 fmo))]) 3 0 rfl rfl (by omega) (by omega) (by omega) std_Y_findKeysBehind_167 rfl ?_
                refine g_iinc C (lv' := [(4, .int (iI (x + 1))), (9, .int (iI 0)), (8, .int (iI 1)), (7, .int (iI ((((gk x) / 8) % 64) + (fsu ((a * 6) + b))))), (6, .int (iI (((gk x) / 512) + (ffu ((a * 6) + b))))), (5, .int (iI (((gk x) % 8) - 1))), (3, .int (iI ((a * 6) + b))), (0, .ref y0), (1, .int (iI a)), (2, .int (iI b))]) 5 std_Y_findKeysBehind_168 rfl (by decide) rfl ?_
                refine g_goto (tgt := 14) C std_Y_findKeysBehind_171 (by decide) ?_
                refine g_lv (lv' := [(4, .int (iI (x + 1))), (3, .int (iI ((a * 6) + b))), (0, .ref y0), (1, .int (iI a)), (2, .int (iI b))]) [0, 6, 7, 8, 9] rfl ?_
                refine g_wide (k := 0) (n := 0) (Nat.le_of_ble_eq_true rfl) (Nat.le_of_ble_eq_true rfl) ?_
                exact ih14 (x + 1) (uZ F ((x * 6) + b) (-1)) (by omega) (fk_1 kF1 (by omega) ((kn_shut (fun h => by have h1 := h.1; have h2 := h.2; omega)).symm)) (fk_2 kF2 (by omega)) (by omega)
              · exfalso; omega
            · exfalso; omega
  refine g_wide (k := 0) (n := 0) (Nat.le_of_ble_eq_true rfl) (Nat.le_of_ble_eq_true rfl) ?_
  obtain ⟨nn0, hnn0⟩ : ∃ nn0 : Nat, (gst (a + 1) - (gst a)) < (nn0 : Int) := z_nat _
  exact L14 nn0 (gst a) gbe (by omega) (fun i h1 h2 => absurd h1 (by omega)) (fun j _ => rfl) hnn0

abbrev sty_Y_skipUnfollowed : MethodName := ⟨"StateTables$Layers", "skipUnfollowed", "(II)V"⟩
abbrev stc_Y_skipUnfollowed : ByteArray := prog_3_method_11_code
theorem sth_Y_skipUnfollowed : (sty_Y_skipUnfollowed).cls ≠ "java/lang/invoke/MethodHandle" ∧ (sty_Y_skipUnfollowed).cls ≠ "java/lang/invoke/VarHandle" ∧ (parseMethodDescriptor (sty_Y_skipUnfollowed).desc).map (fun d => d.parameters.length) = some 2 := by decide +kernel
theorem std_Y_skipUnfollowed_0 : decode stc_Y_skipUnfollowed 0 = .ok (.aload_n 0, 1) := by decide +kernel
theorem std_Y_skipUnfollowed_1 : decode stc_Y_skipUnfollowed 1 = .ok (.getfield 34, 3) := by decide +kernel
theorem kw_1_100 : Cond.fieldLink "StateTables$Layers" 34 "StateTables$Layers" "cursors" "[I" ∈ stGW := st_t1 (List.mem_of_getElem? (i := 100) (by decide +kernel)) (by decide +kernel)
theorem std_Y_skipUnfollowed_4 : decode stc_Y_skipUnfollowed 4 = .ok (.iload_n 2, 1) := by decide +kernel
theorem std_Y_skipUnfollowed_5 : decode stc_Y_skipUnfollowed 5 = .ok (.iaload, 1) := by decide +kernel
theorem std_Y_skipUnfollowed_6 : decode stc_Y_skipUnfollowed 6 = .ok (.istore_n 3, 1) := by decide +kernel
theorem std_Y_skipUnfollowed_7 : decode stc_Y_skipUnfollowed 7 = .ok (.iload_n 3, 1) := by decide +kernel
theorem std_Y_skipUnfollowed_8 : decode stc_Y_skipUnfollowed 8 = .ok (.aload_n 0, 1) := by decide +kernel
theorem std_Y_skipUnfollowed_9 : decode stc_Y_skipUnfollowed 9 = .ok (.getfield 9, 3) := by decide +kernel
theorem std_Y_skipUnfollowed_12 : decode stc_Y_skipUnfollowed 12 = .ok (.iload_n 1, 1) := by decide +kernel
theorem std_Y_skipUnfollowed_13 : decode stc_Y_skipUnfollowed 13 = .ok (.iconst 1, 1) := by decide +kernel
theorem std_Y_skipUnfollowed_14 : decode stc_Y_skipUnfollowed 14 = .ok (.iadd, 1) := by decide +kernel
theorem std_Y_skipUnfollowed_15 : decode stc_Y_skipUnfollowed 15 = .ok (.iaload, 1) := by decide +kernel
theorem std_Y_skipUnfollowed_16 : decode stc_Y_skipUnfollowed 16 = .ok (.if_icmp .ge 19, 3) := by decide +kernel
theorem std_Y_skipUnfollowed_35 : decode stc_Y_skipUnfollowed 35 = .ok (.aload_n 0, 1) := by decide +kernel
theorem std_Y_skipUnfollowed_36 : decode stc_Y_skipUnfollowed 36 = .ok (.getfield 34, 3) := by decide +kernel
theorem std_Y_skipUnfollowed_39 : decode stc_Y_skipUnfollowed 39 = .ok (.iload_n 2, 1) := by decide +kernel
theorem std_Y_skipUnfollowed_40 : decode stc_Y_skipUnfollowed 40 = .ok (.iload_n 3, 1) := by decide +kernel
theorem std_Y_skipUnfollowed_41 : decode stc_Y_skipUnfollowed 41 = .ok (.iastore, 1) := by decide +kernel
theorem std_Y_skipUnfollowed_42 : decode stc_Y_skipUnfollowed 42 = .ok (.return_, 1) := by decide +kernel
theorem std_Y_skipUnfollowed_19 : decode stc_Y_skipUnfollowed 19 = .ok (.aload_n 0, 1) := by decide +kernel
theorem std_Y_skipUnfollowed_20 : decode stc_Y_skipUnfollowed 20 = .ok (.iload_n 3, 1) := by decide +kernel
theorem std_Y_skipUnfollowed_21 : decode stc_Y_skipUnfollowed 21 = .ok (.iload_n 2, 1) := by decide +kernel
theorem std_Y_skipUnfollowed_22 : decode stc_Y_skipUnfollowed 22 = .ok (.invokevirtual 129, 3) := by decide +kernel
theorem kw_2_101 : Cond.code sty_Y_nodeBehind stc_Y_nodeBehind 3 (some .int) ∈ stGW := st_t2 (List.mem_of_getElem? (i := 101) (by decide +kernel)) (by decide +kernel)
theorem kw_2_98 : Cond.methodLink "StateTables$Layers" 129 (sty_Y_nodeBehind) ∈ stGW := st_t2 (List.mem_of_getElem? (i := 98) (by decide +kernel)) (by decide +kernel)
theorem kw_2_99 : Cond.instanceMethod (sty_Y_nodeBehind) ∈ stGW := st_t2 (List.mem_of_getElem? (i := 99) (by decide +kernel)) (by decide +kernel)
theorem kw_2_100 : Cond.selects "StateTables$Layers" (sty_Y_nodeBehind) (sty_Y_nodeBehind) ∈ stGW := st_t2 (List.mem_of_getElem? (i := 100) (by decide +kernel)) (by decide +kernel)
theorem std_Y_skipUnfollowed_25 : decode stc_Y_skipUnfollowed 25 = .ok (.iconst (-1), 1) := by decide +kernel
theorem std_Y_skipUnfollowed_26 : decode stc_Y_skipUnfollowed 26 = .ok (.if_icmp .ne 9, 3) := by decide +kernel
theorem std_Y_skipUnfollowed_29 : decode stc_Y_skipUnfollowed 29 = .ok (.iinc 3 1, 3) := by decide +kernel
theorem std_Y_skipUnfollowed_32 : decode stc_Y_skipUnfollowed 32 = .ok (.goto (-25), 3) := by decide +kernel
set_option maxHeartbeats 4000000 in
set_option maxRecDepth 100000 in
theorem c_skipUnfollowed (l : Launch) (dC : Nat → ClassId) (dI : Nat → Nat → Nat) (cI cJ cZ : ClassId) (y0 : Nat) (ys : Nat) (yk : Nat) (yc : Nat) (yd : Nat) (yw : Nat) (yx : Nat) (yb : Nat) (yu : Nat) (total : Int) (t0 : Nat) (cap : Nat) (gst : Int → Int) (gbe : Int → Int) (gcu : Int → Int) (a : Int) (b : Int) (kcap : cap ≤ 4801) (kgst : ∀ j, 0 ≤ j → j < 14 → 0 ≤ gst j ∧ gst j ≤ cap) (ka : 0 ≤ a ∧ a < 13) (kb : 0 ≤ b ∧ b < 6) (kc : 0 ≤ gcu b ∧ gcu b ≤ gst (a + 1)) (kbe : ∀ i, gcu b ≤ i → i < gst (a + 1) → rI (gbe ((i * 6) + b))) : ∀ sz, Met l sty_Y_skipUnfollowed (Cond.code sty_Y_skipUnfollowed stc_Y_skipUnfollowed 4 none :: stGW) ({ frames := 1, cells := 0, slots := 0, locals := 22 } : Room) (va_Pc [.ref y0, .int (iI a), .int (iI b)] (zPre (dC, dI) stCl [(cI, .int), (cJ, .long), (cZ, .boolean)] st_nw [(y0, .inr (2, [.ref t0, .int (iI total), .ref ys, .ref yk, .ref yc, .ref yd, .ref yw, .ref yx, .ref yb, .ref yu])), (ys, .inl (cI, aI 14 gst)), (yb, .inl (cI, aI (6 * cap) gbe)), (yu, .inl (cI, aI 6 gcu))] sz)) (va_Qv (fun (CU : Int → Int) => (∀ j, ¬ j = b → CU j = gcu j) ∧ (gcu b ≤ CU b ∧ CU b ≤ gst (a + 1)) ∧ (∀ i, gcu b ≤ i → i < CU b → gbe ((i * 6) + b) = -1) ∧ (CU b < gst (a + 1) → ¬ gbe ((CU b * 6) + b) = -1)) (zPost (dC, dI) stCl [(cI, .int), (cJ, .long), (cZ, .boolean)] [(y0, .inr (2, [.ref t0, .int (iI total), .ref ys, .ref yk, .ref yc, .ref yd, .ref yw, .ref yx, .ref yb, .ref yu])), (ys, .inl (cI, aI 14 gst)), (yb, .inl (cI, aI (6 * cap) gbe)), (yu, .inl (cI, aI 6 gcu))] sz (fun CU : Int → Int => [(y0, .inr (2, [.ref t0, .int (iI total), .ref ys, .ref yk, .ref yc, .ref yd, .ref yw, .ref yx, .ref yb, .ref yu])), (ys, .inl (cI, aI 14 gst)), (yb, .inl (cI, aI (6 * cap) gbe)), (yu, .inl (cI, aI 6 CU))])) (va_A [(y0, .inr (2, [.ref t0, .int (iI total), .ref ys, .ref yk, .ref yc, .ref yd, .ref yw, .ref yx, .ref yb, .ref yu])), (ys, .inl (cI, aI 14 gst)), (yb, .inl (cI, aI (6 * cap) gbe)), (yu, .inl (cI, aI 6 gcu))] sz)) 0 0 (va_A [(y0, .inr (2, [.ref t0, .int (iI total), .ref ys, .ref yk, .ref yc, .ref yd, .ref yw, .ref yx, .ref yb, .ref yu])), (ys, .inl (cI, aI 14 gst)), (yb, .inl (cI, aI (6 * cap) gbe)), (yu, .inl (cI, aI 6 gcu))] sz) := by
  refine met_v (by decide) rfl (Nat.le_of_ble_eq_true rfl) ?_
  intro p e s m below meth c A Q C hmn hret
  have hq1 := kgst (a + 1) (by omega) (by omega)
  refine g_aload_n C 0 std_Y_skipUnfollowed_0 rfl ?_
  refine g_get C (st_sub sti_Y) 0 rfl rfl 9 (by decide) (List.mem_cons_of_mem _ kw_1_100) rfl rfl std_Y_skipUnfollowed_1 ?_
  refine g_iload_n C 2 std_Y_skipUnfollowed_4 rfl ?_
  refine g_iald C 3 0 rfl rfl (by omega) (by omega) (by omega) std_Y_skipUnfollowed_5 ?_
  refine g_istore_n C (lv' := [(3, .int (iI (gcu b))), (0, .ref y0), (1, .int (iI a)), (2, .int (iI b))]) std_Y_skipUnfollowed_6 (by decide) rfl ?_
  have L7 : ∀ (nn7 : Nat) (x : Int), (gcu b ≤ x ∧ x ≤ gst (a + 1)) → (∀ i, gcu b ≤ i → i < x → gbe ((i * 6) + b) = -1) → (gst (a + 1) - x) < (nn7 : Int) → G p l e ({ frames := 1, cells := 0, slots := 0, locals := 22 } : Room) s m ([.ref y0, .int (iI a), .int (iI b)] : List Value).toArray below meth c (dC, dI) stCl 4 A 0 0 Q [(y0, .inr (2, [.ref t0, .int (iI total), .ref ys, .ref yk, .ref yc, .ref yd, .ref yw, .ref yx, .ref yb, .ref yu])), (ys, .inl (cI, aI 14 gst)), (yb, .inl (cI, aI (6 * cap) gbe)), (yu, .inl (cI, aI 6 gcu))] 7 [(3, .int (iI x)), (0, .ref y0), (1, .int (iI a)), (2, .int (iI b))] [] := by
    intro nn7
    induction nn7 with
    | zero =>
      intro x kx kS hnn7
      exact absurd hnn7 (by omega)
    | succ nn7 ih7 =>
      intro x kx kS hnn7
      refine g_iload_n C 0 std_Y_skipUnfollowed_7 rfl ?_
      refine g_aload_n C 1 std_Y_skipUnfollowed_8 rfl ?_
      refine g_get C (st_sub sti_Y) 0 rfl rfl 2 (by decide) (List.mem_cons_of_mem _ kw_1_86) rfl rfl std_Y_skipUnfollowed_9 ?_
      refine g_iload_n C 2 std_Y_skipUnfollowed_12 rfl ?_
      refine g_iconst C std_Y_skipUnfollowed_13 ?_
      refine g_iadd C std_Y_skipUnfollowed_14 ?_
      refine g_iald C 1 0 rfl rfl (by omega) (by omega) (by omega) std_Y_skipUnfollowed_15 ?_
      refine g_icmp_ge (tgt := 35) C std_Y_skipUnfollowed_16 (by decide) ⟨by omega, by omega⟩ ⟨by omega, by omega⟩ (fun c1 => ?_) (fun c1 => ?_)
      · refine g_aload_n C 1 std_Y_skipUnfollowed_35 rfl ?_
        refine g_get C (st_sub sti_Y) 0 rfl rfl 9 (by decide) (List.mem_cons_of_mem _ kw_1_100) rfl rfl std_Y_skipUnfollowed_36 ?_
        refine g_iload_n C 3 std_Y_skipUnfollowed_39 rfl ?_
        refine g_iload_n C 0 std_Y_skipUnfollowed_40 rfl ?_
        refine g_iast C (ws' := [(y0, .inr (2, [.ref t0, .int (iI total), .ref ys, .ref yk, .ref yc, .ref yd, .ref yw, .ref yx, .ref yb, .ref yu])), (ys, .inl (cI, aI 14 gst)), (yb, .inl (cI, aI (6 * cap) gbe)), (yu, .inl (cI, aI 6 (uZ gcu b x)))]) 3 0 rfl rfl (by omega) (by omega) (by omega) std_Y_skipUnfollowed_41 rfl ?_
        exact hret _ _ (uZ gcu b x) (⟨fun j h => uZ_n h, by rw [uZ_s]; exact kx, by rw [uZ_s]; exact kS, by rw [uZ_s]; exact fun h => by omega⟩) std_Y_skipUnfollowed_42
      · have hq2 := kbe x (by omega) (by omega)
        refine g_aload_n C 1 std_Y_skipUnfollowed_19 rfl ?_
        refine g_iload_n C 0 std_Y_skipUnfollowed_20 rfl ?_
        refine g_iload_n C 3 std_Y_skipUnfollowed_21 rfl ?_
        refine g_V_i (wc := [(y0, .inr (2, [.ref t0, .int (iI total), .ref ys, .ref yk, .ref yc, .ref yd, .ref yw, .ref yx, .ref yb, .ref yu])), (yb, .inl (cI, aI (6 * cap) gbe))]) (wr := [(ys, .inl (cI, aI 14 gst)), (yu, .inl (cI, aI 6 gcu))]) (rest := []) C (c_nodeBehind l dC dI cI cJ cZ y0 ys yk yc yd yw yx yb yu total t0 cap gbe x b (kcap) (by omega)) (st_cV C kw_2_101 kw_2_98 kw_1_3 kw_2_99 kw_2_100 sth_Y_nodeBehind ⟨Nat.le_of_ble_eq_true rfl, Nat.le_of_ble_eq_true rfl⟩) 0 rfl rfl rfl rfl (Nat.le_of_ble_eq_true rfl) std_Y_skipUnfollowed_22 ⟨Nat.le_of_ble_eq_true rfl, Nat.le_of_ble_eq_true rfl⟩ [0, 2] [1, 3] rfl rfl rfl rfl (by decide) (fun r2 u3 h4 => ?_)
        subst h4
        refine g_ws (ws' := [(ys, .inl (cI, aI 14 gst)), (yu, .inl (cI, aI 6 gcu)), (y0, .inr (2, [.ref t0, .int (iI total), .ref ys, .ref yk, .ref yc, .ref yd, .ref yw, .ref yx, .ref yb, .ref yu])), (yb, .inl (cI, aI (6 * cap) gbe))]) rfl ?_
        refine g_iconst C std_Y_skipUnfollowed_25 ?_
        refine g_icmp_ne (tgt := 35) C std_Y_skipUnfollowed_26 (by decide) ⟨by omega, by omega⟩ ⟨by omega, by omega⟩ (fun c5 => ?_) (fun c5 => ?_)
        · refine g_aload_n C 1 std_Y_skipUnfollowed_35 rfl ?_
          refine g_get C (st_sub sti_Y) 2 rfl rfl 9 (by decide) (List.mem_cons_of_mem _ kw_1_100) rfl rfl std_Y_skipUnfollowed_36 ?_
          refine g_iload_n C 3 std_Y_skipUnfollowed_39 rfl ?_
          refine g_iload_n C 0 std_Y_skipUnfollowed_40 rfl ?_
          refine g_iast C (ws' := [(ys, .inl (cI, aI 14 gst)), (yu, .inl (cI, aI 6 (uZ gcu b x))), (y0, .inr (2, [.ref t0, .int (iI total), .ref ys, .ref yk, .ref yc, .ref yd, .ref yw, .ref yx, .ref yb, .ref yu])), (yb, .inl (cI, aI (6 * cap) gbe))]) 1 0 rfl rfl (by omega) (by omega) (by omega) std_Y_skipUnfollowed_41 rfl ?_
          refine g_sub (ws' := [(y0, .inr (2, [.ref t0, .int (iI total), .ref ys, .ref yk, .ref yc, .ref yd, .ref yw, .ref yx, .ref yb, .ref yu])), (ys, .inl (cI, aI 14 gst)), (yb, .inl (cI, aI (6 * cap) gbe)), (yu, .inl (cI, aI 6 (uZ gcu b x)))]) [2, 0, 3, 1] rfl rfl ?_
          refine g_wide (k := 0) (n := 0) (Nat.le_of_ble_eq_true rfl) (Nat.le_of_ble_eq_true rfl) ?_
          exact hret _ _ (uZ gcu b x) (⟨fun j h => uZ_n h, by rw [uZ_s]; exact kx, by rw [uZ_s]; exact kS, by rw [uZ_s]; exact fun h => by omega⟩) std_Y_skipUnfollowed_42
        · refine g_iinc C (lv' := [(3, .int (iI (x + 1))), (0, .ref y0), (1, .int (iI a)), (2, .int (iI b))]) 0 std_Y_skipUnfollowed_29 rfl (by decide) rfl ?_
          refine g_goto (tgt := 7) C std_Y_skipUnfollowed_32 (by decide) ?_
          refine g_sub (ws' := [(y0, .inr (2, [.ref t0, .int (iI total), .ref ys, .ref yk, .ref yc, .ref yd, .ref yw, .ref yx, .ref yb, .ref yu])), (ys, .inl (cI, aI 14 gst)), (yb, .inl (cI, aI (6 * cap) gbe)), (yu, .inl (cI, aI 6 gcu))]) [2, 0, 3, 1] rfl rfl ?_
          refine g_wide (k := 0) (n := 0) (Nat.le_of_ble_eq_true rfl) (Nat.le_of_ble_eq_true rfl) ?_
          exact ih7 (x + 1) (by omega) (sk_1 kS (by omega)) (by omega)
  obtain ⟨nn0, hnn0⟩ : ∃ nn0 : Nat, (gst (a + 1) - (gcu b)) < (nn0 : Int) := z_nat _
  exact L7 nn0 (gcu b) (by omega) (fun i h1 h2 => absurd h1 (by omega)) hnn0

abbrev sty_Y_choiceWithLeastKey : MethodName := ⟨"StateTables$Layers", "choiceWithLeastKey", "(I)I"⟩
abbrev stc_Y_choiceWithLeastKey : ByteArray := prog_3_method_12_code
theorem sth_Y_choiceWithLeastKey : (sty_Y_choiceWithLeastKey).cls ≠ "java/lang/invoke/MethodHandle" ∧ (sty_Y_choiceWithLeastKey).cls ≠ "java/lang/invoke/VarHandle" ∧ (parseMethodDescriptor (sty_Y_choiceWithLeastKey).desc).map (fun d => d.parameters.length) = some 1 := by decide +kernel
theorem std_Y_choiceWithLeastKey_0 : decode stc_Y_choiceWithLeastKey 0 = .ok (.iconst (-1), 1) := by decide +kernel
theorem std_Y_choiceWithLeastKey_1 : decode stc_Y_choiceWithLeastKey 1 = .ok (.istore_n 2, 1) := by decide +kernel
theorem std_Y_choiceWithLeastKey_2 : decode stc_Y_choiceWithLeastKey 2 = .ok (.iconst 0, 1) := by decide +kernel
theorem std_Y_choiceWithLeastKey_3 : decode stc_Y_choiceWithLeastKey 3 = .ok (.istore_n 3, 1) := by decide +kernel
theorem std_Y_choiceWithLeastKey_4 : decode stc_Y_choiceWithLeastKey 4 = .ok (.iconst 0, 1) := by decide +kernel
theorem std_Y_choiceWithLeastKey_5 : decode stc_Y_choiceWithLeastKey 5 = .ok (.istore 4, 2) := by decide +kernel
theorem std_Y_choiceWithLeastKey_7 : decode stc_Y_choiceWithLeastKey 7 = .ok (.iload 4, 2) := by decide +kernel
theorem std_Y_choiceWithLeastKey_9 : decode stc_Y_choiceWithLeastKey 9 = .ok (.aload_n 0, 1) := by decide +kernel
theorem std_Y_choiceWithLeastKey_10 : decode stc_Y_choiceWithLeastKey 10 = .ok (.getfield 37, 3) := by decide +kernel
theorem std_Y_choiceWithLeastKey_13 : decode stc_Y_choiceWithLeastKey 13 = .ok (.getfield 66, 3) := by decide +kernel
theorem kw_1_36 : Cond.fieldLink "StateTables$Layers" 66 "StateTables$Told" "sizes" "[I" ∈ stGW := st_t1 (List.mem_of_getElem? (i := 36) (by decide +kernel)) (by decide +kernel)
theorem std_Y_choiceWithLeastKey_16 : decode stc_Y_choiceWithLeastKey 16 = .ok (.iload_n 1, 1) := by decide +kernel
theorem std_Y_choiceWithLeastKey_17 : decode stc_Y_choiceWithLeastKey 17 = .ok (.iaload, 1) := by decide +kernel
theorem std_Y_choiceWithLeastKey_18 : decode stc_Y_choiceWithLeastKey 18 = .ok (.if_icmp .ge 58, 3) := by decide +kernel
theorem std_Y_choiceWithLeastKey_76 : decode stc_Y_choiceWithLeastKey 76 = .ok (.iload_n 2, 1) := by decide +kernel
theorem std_Y_choiceWithLeastKey_77 : decode stc_Y_choiceWithLeastKey 77 = .ok (.ireturn, 1) := by decide +kernel
theorem std_Y_choiceWithLeastKey_21 : decode stc_Y_choiceWithLeastKey 21 = .ok (.aload_n 0, 1) := by decide +kernel
theorem std_Y_choiceWithLeastKey_22 : decode stc_Y_choiceWithLeastKey 22 = .ok (.getfield 34, 3) := by decide +kernel
theorem std_Y_choiceWithLeastKey_25 : decode stc_Y_choiceWithLeastKey 25 = .ok (.iload 4, 2) := by decide +kernel
theorem std_Y_choiceWithLeastKey_27 : decode stc_Y_choiceWithLeastKey 27 = .ok (.iaload, 1) := by decide +kernel
theorem std_Y_choiceWithLeastKey_28 : decode stc_Y_choiceWithLeastKey 28 = .ok (.aload_n 0, 1) := by decide +kernel
theorem std_Y_choiceWithLeastKey_29 : decode stc_Y_choiceWithLeastKey 29 = .ok (.getfield 9, 3) := by decide +kernel
theorem std_Y_choiceWithLeastKey_32 : decode stc_Y_choiceWithLeastKey 32 = .ok (.iload_n 1, 1) := by decide +kernel
theorem std_Y_choiceWithLeastKey_33 : decode stc_Y_choiceWithLeastKey 33 = .ok (.iconst 1, 1) := by decide +kernel
theorem std_Y_choiceWithLeastKey_34 : decode stc_Y_choiceWithLeastKey 34 = .ok (.iadd, 1) := by decide +kernel
theorem std_Y_choiceWithLeastKey_35 : decode stc_Y_choiceWithLeastKey 35 = .ok (.iaload, 1) := by decide +kernel
theorem std_Y_choiceWithLeastKey_36 : decode stc_Y_choiceWithLeastKey 36 = .ok (.if_icmp .ge 34, 3) := by decide +kernel
theorem std_Y_choiceWithLeastKey_70 : decode stc_Y_choiceWithLeastKey 70 = .ok (.iinc 4 1, 3) := by decide +kernel
theorem std_Y_choiceWithLeastKey_73 : decode stc_Y_choiceWithLeastKey 73 = .ok (.goto (-66), 3) := by decide +kernel
theorem std_Y_choiceWithLeastKey_39 : decode stc_Y_choiceWithLeastKey 39 = .ok (.aload_n 0, 1) := by decide +kernel
theorem std_Y_choiceWithLeastKey_40 : decode stc_Y_choiceWithLeastKey 40 = .ok (.aload_n 0, 1) := by decide +kernel
theorem std_Y_choiceWithLeastKey_41 : decode stc_Y_choiceWithLeastKey 41 = .ok (.getfield 34, 3) := by decide +kernel
theorem std_Y_choiceWithLeastKey_44 : decode stc_Y_choiceWithLeastKey 44 = .ok (.iload 4, 2) := by decide +kernel
theorem std_Y_choiceWithLeastKey_46 : decode stc_Y_choiceWithLeastKey 46 = .ok (.iaload, 1) := by decide +kernel
theorem std_Y_choiceWithLeastKey_47 : decode stc_Y_choiceWithLeastKey 47 = .ok (.iload 4, 2) := by decide +kernel
theorem std_Y_choiceWithLeastKey_49 : decode stc_Y_choiceWithLeastKey 49 = .ok (.invokevirtual 129, 3) := by decide +kernel
theorem std_Y_choiceWithLeastKey_52 : decode stc_Y_choiceWithLeastKey 52 = .ok (.istore 5, 2) := by decide +kernel
theorem std_Y_choiceWithLeastKey_54 : decode stc_Y_choiceWithLeastKey 54 = .ok (.iload_n 2, 1) := by decide +kernel
theorem std_Y_choiceWithLeastKey_55 : decode stc_Y_choiceWithLeastKey 55 = .ok (.ifCond .lt 9, 3) := by decide +kernel
theorem std_Y_choiceWithLeastKey_64 : decode stc_Y_choiceWithLeastKey 64 = .ok (.iload 4, 2) := by decide +kernel
theorem std_Y_choiceWithLeastKey_66 : decode stc_Y_choiceWithLeastKey 66 = .ok (.istore_n 2, 1) := by decide +kernel
theorem std_Y_choiceWithLeastKey_67 : decode stc_Y_choiceWithLeastKey 67 = .ok (.iload 5, 2) := by decide +kernel
theorem std_Y_choiceWithLeastKey_69 : decode stc_Y_choiceWithLeastKey 69 = .ok (.istore_n 3, 1) := by decide +kernel
theorem std_Y_choiceWithLeastKey_58 : decode stc_Y_choiceWithLeastKey 58 = .ok (.iload 5, 2) := by decide +kernel
theorem std_Y_choiceWithLeastKey_60 : decode stc_Y_choiceWithLeastKey 60 = .ok (.iload_n 3, 1) := by decide +kernel
theorem std_Y_choiceWithLeastKey_61 : decode stc_Y_choiceWithLeastKey 61 = .ok (.if_icmp .ge 9, 3) := by decide +kernel
set_option maxHeartbeats 4000000 in
set_option maxRecDepth 100000 in
theorem c_choiceWithLeastKey (l : Launch) (dC : Nat → ClassId) (dI : Nat → Nat → Nat) (cI cJ cZ : ClassId) (y0 : Nat) (ys : Nat) (yk : Nat) (yc : Nat) (yd : Nat) (yw : Nat) (yx : Nat) (yb : Nat) (yu : Nat) (total : Int) (t0 : Nat) (hs : Nat) (hc : Nat) (hf : Nat) (hg : Nat) (hb : Nat) (he : Nat) (hm : Nat) (steps : Int) (choices : Int) (bars : Int) (cap : Nat) (gst : Int → Int) (gbe : Int → Int) (gcu : Int → Int) (fsz : Int → Int) (a : Int) (kcap : cap ≤ 4801) (kgst : ∀ j, 0 ≤ j → j < 14 → 0 ≤ gst j ∧ gst j ≤ cap) (ksz : ∀ j, 0 ≤ j → j < 12 → 0 ≤ fsz j ∧ fsz j ≤ 6) (ka : 0 ≤ a ∧ a < 12) (kcu : ∀ i, 0 ≤ i → i < fsz a → 0 ≤ gcu i ∧ gcu i ≤ gst (a + 1)) (kbe : ∀ c, 0 ≤ c → c < fsz a → gcu c < gst (a + 1) → rI (gbe ((gcu c * 6) + c))) : ∀ sz, Met l sty_Y_choiceWithLeastKey (Cond.code sty_Y_choiceWithLeastKey stc_Y_choiceWithLeastKey 6 (some .int) :: stGW) ({ frames := 1, cells := 0, slots := 0, locals := 22 } : Room) (va_Pc [.ref y0, .int (iI a)] (zPre (dC, dI) stCl [(cI, .int), (cJ, .long), (cZ, .boolean)] st_nw [(y0, .inr (2, [.ref t0, .int (iI total), .ref ys, .ref yk, .ref yc, .ref yd, .ref yw, .ref yx, .ref yb, .ref yu])), (ys, .inl (cI, aI 14 gst)), (yb, .inl (cI, aI (6 * cap) gbe)), (yu, .inl (cI, aI 6 gcu)), (t0, .inr (1, [.int (iI steps), .int (iI choices), .int (iI bars), .ref hs, .ref hc, .ref hf, .ref hg, .ref hb, .ref he, .ref hm])), (hs, .inl (cI, aI 12 fsz))] sz)) (va_Qi (fun (r : Int32) (u : Int × Int) => r = iI u.1 ∧ CWp gcu gbe (gst (a + 1)) (fsz a) u.1 u.2) (zPost (dC, dI) stCl [(cI, .int), (cJ, .long), (cZ, .boolean)] [(y0, .inr (2, [.ref t0, .int (iI total), .ref ys, .ref yk, .ref yc, .ref yd, .ref yw, .ref yx, .ref yb, .ref yu])), (ys, .inl (cI, aI 14 gst)), (yb, .inl (cI, aI (6 * cap) gbe)), (yu, .inl (cI, aI 6 gcu)), (t0, .inr (1, [.int (iI steps), .int (iI choices), .int (iI bars), .ref hs, .ref hc, .ref hf, .ref hg, .ref hb, .ref he, .ref hm])), (hs, .inl (cI, aI 12 fsz))] sz (fun _ : Int × Int => [(y0, .inr (2, [.ref t0, .int (iI total), .ref ys, .ref yk, .ref yc, .ref yd, .ref yw, .ref yx, .ref yb, .ref yu])), (ys, .inl (cI, aI 14 gst)), (yb, .inl (cI, aI (6 * cap) gbe)), (yu, .inl (cI, aI 6 gcu)), (t0, .inr (1, [.int (iI steps), .int (iI choices), .int (iI bars), .ref hs, .ref hc, .ref hf, .ref hg, .ref hb, .ref he, .ref hm])), (hs, .inl (cI, aI 12 fsz))])) (va_A [(y0, .inr (2, [.ref t0, .int (iI total), .ref ys, .ref yk, .ref yc, .ref yd, .ref yw, .ref yx, .ref yb, .ref yu])), (ys, .inl (cI, aI 14 gst)), (yb, .inl (cI, aI (6 * cap) gbe)), (yu, .inl (cI, aI 6 gcu)), (t0, .inr (1, [.int (iI steps), .int (iI choices), .int (iI bars), .ref hs, .ref hc, .ref hf, .ref hg, .ref hb, .ref he, .ref hm])), (hs, .inl (cI, aI 12 fsz))] sz)) 0 0 (va_A [(y0, .inr (2, [.ref t0, .int (iI total), .ref ys, .ref yk, .ref yc, .ref yd, .ref yw, .ref yx, .ref yb, .ref yu])), (ys, .inl (cI, aI 14 gst)), (yb, .inl (cI, aI (6 * cap) gbe)), (yu, .inl (cI, aI 6 gcu)), (t0, .inr (1, [.int (iI steps), .int (iI choices), .int (iI bars), .ref hs, .ref hc, .ref hf, .ref hg, .ref hb, .ref he, .ref hm])), (hs, .inl (cI, aI 12 fsz))] sz) := by
  refine met_i (by decide) rfl (Nat.le_of_ble_eq_true rfl) ?_
  intro p e s m below meth c A Q C hmn hret
  have hq1 := kgst (a + 1) (by omega) (by omega)
  have hq0 := ksz a (by omega) (by omega)
  refine g_iconst C std_Y_choiceWithLeastKey_0 ?_
  refine g_istore_n C (lv' := [(2, .int (iI (-1))), (0, .ref y0), (1, .int (iI a))]) std_Y_choiceWithLeastKey_1 (by decide) rfl ?_
  refine g_iconst C std_Y_choiceWithLeastKey_2 ?_
  refine g_istore_n C (lv' := [(3, .int (iI 0)), (2, .int (iI (-1))), (0, .ref y0), (1, .int (iI a))]) std_Y_choiceWithLeastKey_3 (by decide) rfl ?_
  refine g_iconst C std_Y_choiceWithLeastKey_4 ?_
  refine g_istore C (lv' := [(4, .int (iI 0)), (3, .int (iI 0)), (2, .int (iI (-1))), (0, .ref y0), (1, .int (iI a))]) std_Y_choiceWithLeastKey_5 (by decide) rfl ?_
  have L7 : ∀ (nn7 : Nat) (x : Int) (lk : Int) (fo : Int), (0 ≤ x ∧ x ≤ fsz a) → (-1 ≤ fo ∧ fo < 6) → rI lk → CWp gcu gbe (gst (a + 1)) x fo lk → (fsz a - x) < (nn7 : Int) → G p l e ({ frames := 1, cells := 0, slots := 0, locals := 22 } : Room) s m ([.ref y0, .int (iI a)] : List Value).toArray below meth c (dC, dI) stCl 6 A 0 0 Q [(y0, .inr (2, [.ref t0, .int (iI total), .ref ys, .ref yk, .ref yc, .ref yd, .ref yw, .ref yx, .ref yb, .ref yu])), (ys, .inl (cI, aI 14 gst)), (yb, .inl (cI, aI (6 * cap) gbe)), (yu, .inl (cI, aI 6 gcu)), (t0, .inr (1, [.int (iI steps), .int (iI choices), .int (iI bars), .ref hs, .ref hc, .ref hf, .ref hg, .ref hb, .ref he, .ref hm])), (hs, .inl (cI, aI 12 fsz))] 7 [(4, .int (iI x)), (3, .int (iI lk)), (2, .int (iI fo)), (0, .ref y0), (1, .int (iI a))] [] := by
    intro nn7
    induction nn7 with
    | zero =>
      intro x lk fo kx kf kl kC hnn7
      exact absurd hnn7 (by omega)
    | succ nn7 ih7 =>
      intro x lk fo kx kf kl kC hnn7
      refine g_iload C 0 std_Y_choiceWithLeastKey_7 rfl ?_
      refine g_aload_n C 3 std_Y_choiceWithLeastKey_9 rfl ?_
      refine g_get C (st_sub sti_Y) 0 rfl rfl 0 (by decide) (List.mem_cons_of_mem _ kw_1_83) rfl rfl std_Y_choiceWithLeastKey_10 ?_
      refine g_get C (st_sub sti_T) 4 rfl rfl 3 (by decide) (List.mem_cons_of_mem _ kw_1_36) rfl rfl std_Y_choiceWithLeastKey_13 ?_
      refine g_iload_n C 4 std_Y_choiceWithLeastKey_16 rfl ?_
      refine g_iald C 5 0 rfl rfl (by omega) (by omega) (by omega) std_Y_choiceWithLeastKey_17 ?_
      refine g_icmp_ge (tgt := 76) C std_Y_choiceWithLeastKey_18 (by decide) ⟨by omega, by omega⟩ ⟨by omega, by omega⟩ (fun c1 => ?_) (fun c1 => ?_)
      · refine g_iload_n C 2 std_Y_choiceWithLeastKey_76 rfl ?_
        exact hret _ _ _ (fo, lk) (⟨rfl, (show x = fsz a by omega) ▸ kC⟩) std_Y_choiceWithLeastKey_77
      · have hq2 := kcu x (by omega) (by omega)
        refine g_aload_n C 3 std_Y_choiceWithLeastKey_21 rfl ?_
        refine g_get C (st_sub sti_Y) 0 rfl rfl 9 (by decide) (List.mem_cons_of_mem _ kw_1_100) rfl rfl std_Y_choiceWithLeastKey_22 ?_
        refine g_iload C 0 std_Y_choiceWithLeastKey_25 rfl ?_
        refine g_iald C 3 0 rfl rfl (by omega) (by omega) (by omega) std_Y_choiceWithLeastKey_27 ?_
        refine g_aload_n C 3 std_Y_choiceWithLeastKey_28 rfl ?_
        refine g_get C (st_sub sti_Y) 0 rfl rfl 2 (by decide) (List.mem_cons_of_mem _ kw_1_86) rfl rfl std_Y_choiceWithLeastKey_29 ?_
        refine g_iload_n C 4 std_Y_choiceWithLeastKey_32 rfl ?_
        refine g_iconst C std_Y_choiceWithLeastKey_33 ?_
        refine g_iadd C std_Y_choiceWithLeastKey_34 ?_
        refine g_iald C 1 0 rfl rfl (by omega) (by omega) (by omega) std_Y_choiceWithLeastKey_35 ?_
        refine g_icmp_ge (tgt := 70) C std_Y_choiceWithLeastKey_36 (by decide) ⟨by omega, by omega⟩ ⟨by omega, by omega⟩ (fun c2 => ?_) (fun c2 => ?_)
        · refine g_iinc C (lv' := [(4, .int (iI (x + 1))), (3, .int (iI lk)), (2, .int (iI fo)), (0, .ref y0), (1, .int (iI a))]) 0 std_Y_choiceWithLeastKey_70 rfl (by decide) rfl ?_
          refine g_goto (tgt := 7) C std_Y_choiceWithLeastKey_73 (by decide) ?_
          exact ih7 (x + 1) lk fo (by omega) (by omega) (by constructor <;> omega) (by first | exact cw_0 | exact cw_1 kC (by omega) | exact cw_2 kC (by omega) (by omega) (by omega) | exact cw_3 kC (by omega) (by omega) | exact cw_4 kC (by omega) (by omega) (by omega) (by omega)) (by omega)
        · refine g_aload_n C 3 std_Y_choiceWithLeastKey_39 rfl ?_
          refine g_aload_n C 3 std_Y_choiceWithLeastKey_40 rfl ?_
          refine g_get C (st_sub sti_Y) 0 rfl rfl 9 (by decide) (List.mem_cons_of_mem _ kw_1_100) rfl rfl std_Y_choiceWithLeastKey_41 ?_
          refine g_iload C 0 std_Y_choiceWithLeastKey_44 rfl ?_
          refine g_iald C 3 0 rfl rfl (by omega) (by omega) (by omega) std_Y_choiceWithLeastKey_46 ?_
          refine g_iload C 0 std_Y_choiceWithLeastKey_47 rfl ?_
          refine g_V_i (wc := [(y0, .inr (2, [.ref t0, .int (iI total), .ref ys, .ref yk, .ref yc, .ref yd, .ref yw, .ref yx, .ref yb, .ref yu])), (yb, .inl (cI, aI (6 * cap) gbe))]) (wr := [(ys, .inl (cI, aI 14 gst)), (yu, .inl (cI, aI 6 gcu)), (t0, .inr (1, [.int (iI steps), .int (iI choices), .int (iI bars), .ref hs, .ref hc, .ref hf, .ref hg, .ref hb, .ref he, .ref hm])), (hs, .inl (cI, aI 12 fsz))]) (rest := []) C (c_nodeBehind l dC dI cI cJ cZ y0 ys yk yc yd yw yx yb yu total t0 cap gbe (gcu x) x (kcap) (by omega)) (st_cV C kw_2_101 kw_2_98 kw_1_3 kw_2_99 kw_2_100 sth_Y_nodeBehind ⟨Nat.le_of_ble_eq_true rfl, Nat.le_of_ble_eq_true rfl⟩) 0 rfl rfl rfl rfl (Nat.le_of_ble_eq_true rfl) std_Y_choiceWithLeastKey_49 ⟨Nat.le_of_ble_eq_true rfl, Nat.le_of_ble_eq_true rfl⟩ [0, 2] [1, 3, 4, 5] rfl rfl rfl rfl (by decide) (fun r3 u4 h5 => ?_)
          subst h5
          refine g_ws (ws' := [(ys, .inl (cI, aI 14 gst)), (yu, .inl (cI, aI 6 gcu)), (t0, .inr (1, [.int (iI steps), .int (iI choices), .int (iI bars), .ref hs, .ref hc, .ref hf, .ref hg, .ref hb, .ref he, .ref hm])), (hs, .inl (cI, aI 12 fsz)), (y0, .inr (2, [.ref t0, .int (iI total), .ref ys, .ref yk, .ref yc, .ref yd, .ref yw, .ref yx, .ref yb, .ref yu])), (yb, .inl (cI, aI (6 * cap) gbe))]) rfl ?_
          refine g_istore C (lv' := [(5, .int (iI (gbe (((gcu x) * 6) + x)))), (4, .int (iI x)), (3, .int (iI lk)), (2, .int (iI fo)), (0, .ref y0), (1, .int (iI a))]) std_Y_choiceWithLeastKey_52 (by decide) rfl ?_
          have hq3 := kbe x (by omega) (by omega) (by omega)
          refine g_iload_n C 3 std_Y_choiceWithLeastKey_54 rfl ?_
          refine g_if_lt (tgt := 64) C std_Y_choiceWithLeastKey_55 (by decide) ⟨by omega, by omega⟩ (fun c6 => ?_) (fun c6 => ?_)
          · refine g_iload C 1 std_Y_choiceWithLeastKey_64 rfl ?_
            refine g_istore_n C (lv' := [(2, .int (iI x)), (5, .int (iI (gbe (((gcu x) * 6) + x)))), (4, .int (iI x)), (3, .int (iI lk)), (0, .ref y0), (1, .int (iI a))]) std_Y_choiceWithLeastKey_66 (by decide) rfl ?_
            refine g_iload C 1 std_Y_choiceWithLeastKey_67 rfl ?_
            refine g_istore_n C (lv' := [(3, .int (iI (gbe (((gcu x) * 6) + x)))), (2, .int (iI x)), (5, .int (iI (gbe (((gcu x) * 6) + x)))), (4, .int (iI x)), (0, .ref y0), (1, .int (iI a))]) std_Y_choiceWithLeastKey_69 (by decide) rfl ?_
            refine g_iinc C (lv' := [(4, .int (iI (x + 1))), (3, .int (iI (gbe (((gcu x) * 6) + x)))), (2, .int (iI x)), (5, .int (iI (gbe (((gcu x) * 6) + x)))), (0, .ref y0), (1, .int (iI a))]) 3 std_Y_choiceWithLeastKey_70 rfl (by decide) rfl ?_
            refine g_goto (tgt := 7) C std_Y_choiceWithLeastKey_73 (by decide) ?_
            refine g_sub (ws' := [(y0, .inr (2, [.ref t0, .int (iI total), .ref ys, .ref yk, .ref yc, .ref yd, .ref yw, .ref yx, .ref yb, .ref yu])), (ys, .inl (cI, aI 14 gst)), (yb, .inl (cI, aI (6 * cap) gbe)), (yu, .inl (cI, aI 6 gcu)), (t0, .inr (1, [.int (iI steps), .int (iI choices), .int (iI bars), .ref hs, .ref hc, .ref hf, .ref hg, .ref hb, .ref he, .ref hm])), (hs, .inl (cI, aI 12 fsz))]) [4, 0, 5, 1, 2, 3] rfl rfl ?_
            refine g_lv (lv' := [(4, .int (iI (x + 1))), (3, .int (iI (gbe (((gcu x) * 6) + x)))), (2, .int (iI x)), (0, .ref y0), (1, .int (iI a))]) [0, 1, 2, 4, 5] rfl ?_
            refine g_wide (k := 0) (n := 0) (Nat.le_of_ble_eq_true rfl) (Nat.le_of_ble_eq_true rfl) ?_
            exact ih7 (x + 1) (gbe (((gcu x) * 6) + x)) x (by omega) (by omega) (by constructor <;> omega) (by first | exact cw_0 | exact cw_1 kC (by omega) | exact cw_2 kC (by omega) (by omega) (by omega) | exact cw_3 kC (by omega) (by omega) | exact cw_4 kC (by omega) (by omega) (by omega) (by omega)) (by omega)
          · refine g_iload C 0 std_Y_choiceWithLeastKey_58 rfl ?_
            refine g_iload_n C 2 std_Y_choiceWithLeastKey_60 rfl ?_
            refine g_icmp_ge (tgt := 70) C std_Y_choiceWithLeastKey_61 (by decide) ⟨by omega, by omega⟩ ⟨by omega, by omega⟩ (fun c7 => ?_) (fun c7 => ?_)
            · refine g_iinc C (lv' := [(4, .int (iI (x + 1))), (5, .int (iI (gbe (((gcu x) * 6) + x)))), (3, .int (iI lk)), (2, .int (iI fo)), (0, .ref y0), (1, .int (iI a))]) 1 std_Y_choiceWithLeastKey_70 rfl (by decide) rfl ?_
              refine g_goto (tgt := 7) C std_Y_choiceWithLeastKey_73 (by decide) ?_
              refine g_sub (ws' := [(y0, .inr (2, [.ref t0, .int (iI total), .ref ys, .ref yk, .ref yc, .ref yd, .ref yw, .ref yx, .ref yb, .ref yu])), (ys, .inl (cI, aI 14 gst)), (yb, .inl (cI, aI (6 * cap) gbe)), (yu, .inl (cI, aI 6 gcu)), (t0, .inr (1, [.int (iI steps), .int (iI choices), .int (iI bars), .ref hs, .ref hc, .ref hf, .ref hg, .ref hb, .ref he, .ref hm])), (hs, .inl (cI, aI 12 fsz))]) [4, 0, 5, 1, 2, 3] rfl rfl ?_
              refine g_lv (lv' := [(4, .int (iI (x + 1))), (3, .int (iI lk)), (2, .int (iI fo)), (0, .ref y0), (1, .int (iI a))]) [0, 2, 3, 4, 5] rfl ?_
              refine g_wide (k := 0) (n := 0) (Nat.le_of_ble_eq_true rfl) (Nat.le_of_ble_eq_true rfl) ?_
              exact ih7 (x + 1) lk fo (by omega) (by omega) (by constructor <;> omega) (by first | exact cw_0 | exact cw_1 kC (by omega) | exact cw_2 kC (by omega) (by omega) (by omega) | exact cw_3 kC (by omega) (by omega) | exact cw_4 kC (by omega) (by omega) (by omega) (by omega)) (by omega)
            · refine g_iload C 1 std_Y_choiceWithLeastKey_64 rfl ?_
              refine g_istore_n C (lv' := [(2, .int (iI x)), (5, .int (iI (gbe (((gcu x) * 6) + x)))), (4, .int (iI x)), (3, .int (iI lk)), (0, .ref y0), (1, .int (iI a))]) std_Y_choiceWithLeastKey_66 (by decide) rfl ?_
              refine g_iload C 1 std_Y_choiceWithLeastKey_67 rfl ?_
              refine g_istore_n C (lv' := [(3, .int (iI (gbe (((gcu x) * 6) + x)))), (2, .int (iI x)), (5, .int (iI (gbe (((gcu x) * 6) + x)))), (4, .int (iI x)), (0, .ref y0), (1, .int (iI a))]) std_Y_choiceWithLeastKey_69 (by decide) rfl ?_
              refine g_iinc C (lv' := [(4, .int (iI (x + 1))), (3, .int (iI (gbe (((gcu x) * 6) + x)))), (2, .int (iI x)), (5, .int (iI (gbe (((gcu x) * 6) + x)))), (0, .ref y0), (1, .int (iI a))]) 3 std_Y_choiceWithLeastKey_70 rfl (by decide) rfl ?_
              refine g_goto (tgt := 7) C std_Y_choiceWithLeastKey_73 (by decide) ?_
              refine g_sub (ws' := [(y0, .inr (2, [.ref t0, .int (iI total), .ref ys, .ref yk, .ref yc, .ref yd, .ref yw, .ref yx, .ref yb, .ref yu])), (ys, .inl (cI, aI 14 gst)), (yb, .inl (cI, aI (6 * cap) gbe)), (yu, .inl (cI, aI 6 gcu)), (t0, .inr (1, [.int (iI steps), .int (iI choices), .int (iI bars), .ref hs, .ref hc, .ref hf, .ref hg, .ref hb, .ref he, .ref hm])), (hs, .inl (cI, aI 12 fsz))]) [4, 0, 5, 1, 2, 3] rfl rfl ?_
              refine g_lv (lv' := [(4, .int (iI (x + 1))), (3, .int (iI (gbe (((gcu x) * 6) + x)))), (2, .int (iI x)), (0, .ref y0), (1, .int (iI a))]) [0, 1, 2, 4, 5] rfl ?_
              refine g_wide (k := 0) (n := 0) (Nat.le_of_ble_eq_true rfl) (Nat.le_of_ble_eq_true rfl) ?_
              exact ih7 (x + 1) (gbe (((gcu x) * 6) + x)) x (by omega) (by omega) (by constructor <;> omega) (by first | exact cw_0 | exact cw_1 kC (by omega) | exact cw_2 kC (by omega) (by omega) (by omega) | exact cw_3 kC (by omega) (by omega) | exact cw_4 kC (by omega) (by omega) (by omega) (by omega)) (by omega)
  obtain ⟨nn0, hnn0⟩ : ∃ nn0 : Nat, (fsz a - 0) < (nn0 : Int) := z_nat _
  exact L7 nn0 0 0 (-1) (by omega) (by omega) (by constructor <;> omega) (by first | exact cw_0 | exact cw_1 kC (by omega) | exact cw_2 kC (by omega) (by omega) (by omega) | exact cw_3 kC (by omega) (by omega) | exact cw_4 kC (by omega) (by omega) (by omega) (by omega)) hnn0

abbrev sty_Y_lookBackFrom : MethodName := ⟨"StateTables$Layers", "lookBackFrom", "(II)V"⟩
abbrev stc_Y_lookBackFrom : ByteArray := prog_3_method_15_code
theorem sth_Y_lookBackFrom : (sty_Y_lookBackFrom).cls ≠ "java/lang/invoke/MethodHandle" ∧ (sty_Y_lookBackFrom).cls ≠ "java/lang/invoke/VarHandle" ∧ (parseMethodDescriptor (sty_Y_lookBackFrom).desc).map (fun d => d.parameters.length) = some 2 := by decide +kernel
theorem std_Y_lookBackFrom_0 : decode stc_Y_lookBackFrom 0 = .ok (.lconst 0, 1) := by decide +kernel
theorem std_Y_lookBackFrom_1 : decode stc_Y_lookBackFrom 1 = .ok (.lstore_n 3, 1) := by decide +kernel
theorem std_Y_lookBackFrom_2 : decode stc_Y_lookBackFrom 2 = .ok (.iconst 0, 1) := by decide +kernel
theorem std_Y_lookBackFrom_3 : decode stc_Y_lookBackFrom 3 = .ok (.istore 5, 2) := by decide +kernel
theorem std_Y_lookBackFrom_5 : decode stc_Y_lookBackFrom 5 = .ok (.iconst 0, 1) := by decide +kernel
theorem std_Y_lookBackFrom_6 : decode stc_Y_lookBackFrom 6 = .ok (.istore 6, 2) := by decide +kernel
theorem std_Y_lookBackFrom_8 : decode stc_Y_lookBackFrom 8 = .ok (.iload 6, 2) := by decide +kernel
theorem std_Y_lookBackFrom_10 : decode stc_Y_lookBackFrom 10 = .ok (.aload_n 0, 1) := by decide +kernel
theorem std_Y_lookBackFrom_11 : decode stc_Y_lookBackFrom 11 = .ok (.getfield 37, 3) := by decide +kernel
theorem std_Y_lookBackFrom_14 : decode stc_Y_lookBackFrom 14 = .ok (.getfield 66, 3) := by decide +kernel
theorem std_Y_lookBackFrom_17 : decode stc_Y_lookBackFrom 17 = .ok (.iload_n 1, 1) := by decide +kernel
theorem std_Y_lookBackFrom_18 : decode stc_Y_lookBackFrom 18 = .ok (.iaload, 1) := by decide +kernel
theorem std_Y_lookBackFrom_19 : decode stc_Y_lookBackFrom 19 = .ok (.if_icmp .ge 89, 3) := by decide +kernel
theorem std_Y_lookBackFrom_108 : decode stc_Y_lookBackFrom 108 = .ok (.aload_n 0, 1) := by decide +kernel
theorem std_Y_lookBackFrom_109 : decode stc_Y_lookBackFrom 109 = .ok (.getfield 28, 3) := by decide +kernel
theorem std_Y_lookBackFrom_112 : decode stc_Y_lookBackFrom 112 = .ok (.iload_n 2, 1) := by decide +kernel
theorem std_Y_lookBackFrom_113 : decode stc_Y_lookBackFrom 113 = .ok (.lload_n 3, 1) := by decide +kernel
theorem std_Y_lookBackFrom_114 : decode stc_Y_lookBackFrom 114 = .ok (.lastore, 1) := by decide +kernel
theorem std_Y_lookBackFrom_115 : decode stc_Y_lookBackFrom 115 = .ok (.aload_n 0, 1) := by decide +kernel
theorem std_Y_lookBackFrom_116 : decode stc_Y_lookBackFrom 116 = .ok (.getfield 21, 3) := by decide +kernel
theorem std_Y_lookBackFrom_119 : decode stc_Y_lookBackFrom 119 = .ok (.iload_n 2, 1) := by decide +kernel
theorem std_Y_lookBackFrom_120 : decode stc_Y_lookBackFrom 120 = .ok (.iload 5, 2) := by decide +kernel
theorem std_Y_lookBackFrom_122 : decode stc_Y_lookBackFrom 122 = .ok (.iastore, 1) := by decide +kernel
theorem std_Y_lookBackFrom_123 : decode stc_Y_lookBackFrom 123 = .ok (.return_, 1) := by decide +kernel
theorem std_Y_lookBackFrom_22 : decode stc_Y_lookBackFrom 22 = .ok (.aload_n 0, 1) := by decide +kernel
theorem std_Y_lookBackFrom_23 : decode stc_Y_lookBackFrom 23 = .ok (.iload_n 2, 1) := by decide +kernel
theorem std_Y_lookBackFrom_24 : decode stc_Y_lookBackFrom 24 = .ok (.iload 6, 2) := by decide +kernel
theorem std_Y_lookBackFrom_26 : decode stc_Y_lookBackFrom 26 = .ok (.invokevirtual 129, 3) := by decide +kernel
theorem std_Y_lookBackFrom_29 : decode stc_Y_lookBackFrom 29 = .ok (.istore 7, 2) := by decide +kernel
theorem std_Y_lookBackFrom_31 : decode stc_Y_lookBackFrom 31 = .ok (.iload 7, 2) := by decide +kernel
theorem std_Y_lookBackFrom_33 : decode stc_Y_lookBackFrom 33 = .ok (.ifCond .lt 69, 3) := by decide +kernel
theorem std_Y_lookBackFrom_102 : decode stc_Y_lookBackFrom 102 = .ok (.iinc 6 1, 3) := by decide +kernel
theorem std_Y_lookBackFrom_105 : decode stc_Y_lookBackFrom 105 = .ok (.goto (-97), 3) := by decide +kernel
theorem std_Y_lookBackFrom_36 : decode stc_Y_lookBackFrom 36 = .ok (.aload_n 0, 1) := by decide +kernel
theorem std_Y_lookBackFrom_37 : decode stc_Y_lookBackFrom 37 = .ok (.getfield 28, 3) := by decide +kernel
theorem std_Y_lookBackFrom_40 : decode stc_Y_lookBackFrom 40 = .ok (.iload 7, 2) := by decide +kernel
theorem std_Y_lookBackFrom_42 : decode stc_Y_lookBackFrom 42 = .ok (.laload, 1) := by decide +kernel
theorem std_Y_lookBackFrom_43 : decode stc_Y_lookBackFrom 43 = .ok (.lconst 0, 1) := by decide +kernel
theorem std_Y_lookBackFrom_44 : decode stc_Y_lookBackFrom 44 = .ok (.lcmp, 1) := by decide +kernel
theorem std_Y_lookBackFrom_45 : decode stc_Y_lookBackFrom 45 = .ok (.ifCond .le 57, 3) := by decide +kernel
theorem std_Y_lookBackFrom_48 : decode stc_Y_lookBackFrom 48 = .ok (.aload_n 0, 1) := by decide +kernel
theorem std_Y_lookBackFrom_49 : decode stc_Y_lookBackFrom 49 = .ok (.getfield 21, 3) := by decide +kernel
theorem std_Y_lookBackFrom_52 : decode stc_Y_lookBackFrom 52 = .ok (.iload 7, 2) := by decide +kernel
theorem std_Y_lookBackFrom_54 : decode stc_Y_lookBackFrom 54 = .ok (.iaload, 1) := by decide +kernel
theorem std_Y_lookBackFrom_55 : decode stc_Y_lookBackFrom 55 = .ok (.aload_n 0, 1) := by decide +kernel
theorem std_Y_lookBackFrom_56 : decode stc_Y_lookBackFrom 56 = .ok (.getfield 37, 3) := by decide +kernel
theorem std_Y_lookBackFrom_59 : decode stc_Y_lookBackFrom 59 = .ok (.getfield 132, 3) := by decide +kernel
theorem kw_1_41 : Cond.fieldLink "StateTables$Layers" 132 "StateTables$Told" "costs" "[I" ∈ stGW := st_t1 (List.mem_of_getElem? (i := 41) (by decide +kernel)) (by decide +kernel)
theorem std_Y_lookBackFrom_62 : decode stc_Y_lookBackFrom 62 = .ok (.iload_n 1, 1) := by decide +kernel
theorem std_Y_lookBackFrom_63 : decode stc_Y_lookBackFrom 63 = .ok (.iload 6, 2) := by decide +kernel
theorem std_Y_lookBackFrom_65 : decode stc_Y_lookBackFrom 65 = .ok (.invokestatic 104, 3) := by decide +kernel
theorem std_Y_lookBackFrom_68 : decode stc_Y_lookBackFrom 68 = .ok (.iaload, 1) := by decide +kernel
theorem std_Y_lookBackFrom_69 : decode stc_Y_lookBackFrom 69 = .ok (.iadd, 1) := by decide +kernel
theorem std_Y_lookBackFrom_70 : decode stc_Y_lookBackFrom 70 = .ok (.istore 8, 2) := by decide +kernel
theorem std_Y_lookBackFrom_72 : decode stc_Y_lookBackFrom 72 = .ok (.lload_n 3, 1) := by decide +kernel
theorem std_Y_lookBackFrom_73 : decode stc_Y_lookBackFrom 73 = .ok (.lconst 0, 1) := by decide +kernel
theorem std_Y_lookBackFrom_74 : decode stc_Y_lookBackFrom 74 = .ok (.lcmp, 1) := by decide +kernel
theorem std_Y_lookBackFrom_75 : decode stc_Y_lookBackFrom 75 = .ok (.ifCond .ne 8, 3) := by decide +kernel
theorem std_Y_lookBackFrom_83 : decode stc_Y_lookBackFrom 83 = .ok (.iload 5, 2) := by decide +kernel
theorem std_Y_lookBackFrom_85 : decode stc_Y_lookBackFrom 85 = .ok (.iload 8, 2) := by decide +kernel
theorem std_Y_lookBackFrom_87 : decode stc_Y_lookBackFrom 87 = .ok (.invokestatic 69, 3) := by decide +kernel
theorem kw_2_44 : Cond.methodLink "StateTables$Layers" 69 (Lib.Math.min.name) ∈ stGW := st_t2 (List.mem_of_getElem? (i := 44) (by decide +kernel)) (by decide +kernel)
theorem kw_2_45 : Cond.static (Lib.Math.min.name) ∈ stGW := st_t2 (List.mem_of_getElem? (i := 45) (by decide +kernel)) (by decide +kernel)
theorem kw_1_7 : Cond.initialized "java/lang/Math" ∈ stGW := st_t1 (List.mem_of_getElem? (i := 7) (by decide +kernel)) (by decide +kernel)
theorem kw_2_46 : Cond.code Lib.Math.min.name Lib.Math.min.code 2 (some .int) ∈ stGW := st_t2 (List.mem_of_getElem? (i := 46) (by decide +kernel)) (by decide +kernel)
theorem std_Y_lookBackFrom_90 : decode stc_Y_lookBackFrom 90 = .ok (.istore 5, 2) := by decide +kernel
theorem std_Y_lookBackFrom_92 : decode stc_Y_lookBackFrom 92 = .ok (.lload_n 3, 1) := by decide +kernel
theorem std_Y_lookBackFrom_93 : decode stc_Y_lookBackFrom 93 = .ok (.aload_n 0, 1) := by decide +kernel
theorem std_Y_lookBackFrom_94 : decode stc_Y_lookBackFrom 94 = .ok (.getfield 28, 3) := by decide +kernel
theorem std_Y_lookBackFrom_97 : decode stc_Y_lookBackFrom 97 = .ok (.iload 7, 2) := by decide +kernel
theorem std_Y_lookBackFrom_99 : decode stc_Y_lookBackFrom 99 = .ok (.laload, 1) := by decide +kernel
theorem std_Y_lookBackFrom_100 : decode stc_Y_lookBackFrom 100 = .ok (.ladd, 1) := by decide +kernel
theorem std_Y_lookBackFrom_101 : decode stc_Y_lookBackFrom 101 = .ok (.lstore_n 3, 1) := by decide +kernel
theorem std_Y_lookBackFrom_78 : decode stc_Y_lookBackFrom 78 = .ok (.iload 8, 2) := by decide +kernel
theorem std_Y_lookBackFrom_80 : decode stc_Y_lookBackFrom 80 = .ok (.goto 10, 3) := by decide +kernel
set_option maxHeartbeats 4000000 in
set_option maxRecDepth 100000 in
theorem c_lookBackFrom (l : Launch) (dC : Nat → ClassId) (dI : Nat → Nat → Nat) (cI cJ cZ : ClassId) (y0 : Nat) (ys : Nat) (yk : Nat) (yc : Nat) (yd : Nat) (yw : Nat) (yx : Nat) (yb : Nat) (yu : Nat) (total : Int) (t0 : Nat) (hs : Nat) (hc : Nat) (hf : Nat) (hg : Nat) (hb : Nat) (he : Nat) (hm : Nat) (steps : Int) (choices : Int) (bars : Int) (cap : Nat) (gcf : Int → Int) (gwf : Int → Int) (gbe : Int → Int) (fsz : Int → Int) (fco : Int → Int) (a : Int) (b : Int) (kcap : cap ≤ 4801) (ksz : ∀ j, 0 ≤ j → j < 12 → 0 ≤ fsz j ∧ fsz j ≤ 6) (ka : 0 ≤ a ∧ a < 12) (kb : 0 ≤ b ∧ b < (cap : Int)) (kbe : ∀ i, 0 ≤ i → i < fsz a → (-1 ≤ gbe ((b * 6) + i) ∧ gbe ((b * 6) + i) < (cap : Int)) ∧ (0 ≤ gbe ((b * 6) + i) → (0 ≤ gwf (gbe ((b * 6) + i)) ∧ gwf (gbe ((b * 6) + i)) ≤ 1000000000000) ∧ -1000000 ≤ gcf (gbe ((b * 6) + i)) ∧ gcf (gbe ((b * 6) + i)) ≤ 1000000)) (kco : ∀ j, 0 ≤ j → j < 72 → -1000 ≤ fco j ∧ fco j ≤ 1000) : ∀ sz, Met l sty_Y_lookBackFrom (Cond.code sty_Y_lookBackFrom stc_Y_lookBackFrom 9 none :: stGW) ({ frames := 1, cells := 0, slots := 0, locals := 22 } : Room) (va_Pc [.ref y0, .int (iI a), .int (iI b)] (zPre (dC, dI) stCl [(cI, .int), (cJ, .long), (cZ, .boolean)] st_nw [(y0, .inr (2, [.ref t0, .int (iI total), .ref ys, .ref yk, .ref yc, .ref yd, .ref yw, .ref yx, .ref yb, .ref yu])), (yd, .inl (cI, aI cap gcf)), (yx, .inl (cJ, aL cap gwf)), (yb, .inl (cI, aI (6 * cap) gbe)), (t0, .inr (1, [.int (iI steps), .int (iI choices), .int (iI bars), .ref hs, .ref hc, .ref hf, .ref hg, .ref hb, .ref he, .ref hm])), (hs, .inl (cI, aI 12 fsz)), (hc, .inl (cI, aI 72 fco))] sz)) (va_Qv (fun (_ : Unit) => True) (zPost (dC, dI) stCl [(cI, .int), (cJ, .long), (cZ, .boolean)] [(y0, .inr (2, [.ref t0, .int (iI total), .ref ys, .ref yk, .ref yc, .ref yd, .ref yw, .ref yx, .ref yb, .ref yu])), (yd, .inl (cI, aI cap gcf)), (yx, .inl (cJ, aL cap gwf)), (yb, .inl (cI, aI (6 * cap) gbe)), (t0, .inr (1, [.int (iI steps), .int (iI choices), .int (iI bars), .ref hs, .ref hc, .ref hf, .ref hg, .ref hb, .ref he, .ref hm])), (hs, .inl (cI, aI 12 fsz)), (hc, .inl (cI, aI 72 fco))] sz (fun _ : Unit => [(y0, .inr (2, [.ref t0, .int (iI total), .ref ys, .ref yk, .ref yc, .ref yd, .ref yw, .ref yx, .ref yb, .ref yu])), (yd, .inl (cI, aI cap (uZ gcf b (lbC gbe gwf gcf fco a b (fsz a).toNat)))), (yx, .inl (cJ, aL cap (uZ gwf b (lbW gbe gwf b (fsz a).toNat)))), (yb, .inl (cI, aI (6 * cap) gbe)), (t0, .inr (1, [.int (iI steps), .int (iI choices), .int (iI bars), .ref hs, .ref hc, .ref hf, .ref hg, .ref hb, .ref he, .ref hm])), (hs, .inl (cI, aI 12 fsz)), (hc, .inl (cI, aI 72 fco))])) (va_A [(y0, .inr (2, [.ref t0, .int (iI total), .ref ys, .ref yk, .ref yc, .ref yd, .ref yw, .ref yx, .ref yb, .ref yu])), (yd, .inl (cI, aI cap gcf)), (yx, .inl (cJ, aL cap gwf)), (yb, .inl (cI, aI (6 * cap) gbe)), (t0, .inr (1, [.int (iI steps), .int (iI choices), .int (iI bars), .ref hs, .ref hc, .ref hf, .ref hg, .ref hb, .ref he, .ref hm])), (hs, .inl (cI, aI 12 fsz)), (hc, .inl (cI, aI 72 fco))] sz)) 0 0 (va_A [(y0, .inr (2, [.ref t0, .int (iI total), .ref ys, .ref yk, .ref yc, .ref yd, .ref yw, .ref yx, .ref yb, .ref yu])), (yd, .inl (cI, aI cap gcf)), (yx, .inl (cJ, aL cap gwf)), (yb, .inl (cI, aI (6 * cap) gbe)), (t0, .inr (1, [.int (iI steps), .int (iI choices), .int (iI bars), .ref hs, .ref hc, .ref hf, .ref hg, .ref hb, .ref he, .ref hm])), (hs, .inl (cI, aI 12 fsz)), (hc, .inl (cI, aI 72 fco))] sz) := by
  refine met_v (by decide) rfl (Nat.le_of_ble_eq_true rfl) ?_
  intro p e s m below meth c A Q C hmn hret
  have hq0 := ksz a (by omega) (by omega)
  refine g_lconst C (z := 0) std_Y_lookBackFrom_0 (by decide) ?_
  refine g_lstore_n C (lv' := [(3, .long (lI 0)), (0, .ref y0), (1, .int (iI a)), (2, .int (iI b))]) std_Y_lookBackFrom_1 (by decide) rfl ?_
  refine g_iconst C std_Y_lookBackFrom_2 ?_
  refine g_istore C (lv' := [(5, .int (iI 0)), (3, .long (lI 0)), (0, .ref y0), (1, .int (iI a)), (2, .int (iI b))]) std_Y_lookBackFrom_3 (by decide) rfl ?_
  refine g_iconst C std_Y_lookBackFrom_5 ?_
  refine g_istore C (lv' := [(6, .int (iI 0)), (5, .int (iI 0)), (3, .long (lI 0)), (0, .ref y0), (1, .int (iI a)), (2, .int (iI b))]) std_Y_lookBackFrom_6 (by decide) rfl ?_
  have L8 : ∀ (nn8 : Nat) (x : Int) (y : Int) (v : Int), (0 ≤ x ∧ x ≤ fsz a) → (rI y ∧ (0 ≤ v ∧ v ≤ x * 1000000000000)) → v = lbW gbe gwf b x.toNat → y = lbC gbe gwf gcf fco a b x.toNat → (fsz a - x) < (nn8 : Int) → G p l e ({ frames := 1, cells := 0, slots := 0, locals := 22 } : Room) s m ([.ref y0, .int (iI a), .int (iI b)] : List Value).toArray below meth c (dC, dI) stCl 9 A 0 0 Q [(y0, .inr (2, [.ref t0, .int (iI total), .ref ys, .ref yk, .ref yc, .ref yd, .ref yw, .ref yx, .ref yb, .ref yu])), (yd, .inl (cI, aI cap gcf)), (yx, .inl (cJ, aL cap gwf)), (yb, .inl (cI, aI (6 * cap) gbe)), (t0, .inr (1, [.int (iI steps), .int (iI choices), .int (iI bars), .ref hs, .ref hc, .ref hf, .ref hg, .ref hb, .ref he, .ref hm])), (hs, .inl (cI, aI 12 fsz)), (hc, .inl (cI, aI 72 fco))] 8 [(6, .int (iI x)), (5, .int (iI y)), (3, .long (lI v)), (0, .ref y0), (1, .int (iI a)), (2, .int (iI b))] [] := by
    intro nn8
    induction nn8 with
    | zero =>
      intro x y v kx ky kv kc hnn8
      exact absurd hnn8 (by omega)
    | succ nn8 ih8 =>
      intro x y v kx ky kv kc hnn8
      refine g_iload C 0 std_Y_lookBackFrom_8 rfl ?_
      refine g_aload_n C 3 std_Y_lookBackFrom_10 rfl ?_
      refine g_get C (st_sub sti_Y) 0 rfl rfl 0 (by decide) (List.mem_cons_of_mem _ kw_1_83) rfl rfl std_Y_lookBackFrom_11 ?_
      refine g_get C (st_sub sti_T) 4 rfl rfl 3 (by decide) (List.mem_cons_of_mem _ kw_1_36) rfl rfl std_Y_lookBackFrom_14 ?_
      refine g_iload_n C 4 std_Y_lookBackFrom_17 rfl ?_
      refine g_iald C 5 0 rfl rfl (by omega) (by omega) (by omega) std_Y_lookBackFrom_18 ?_
      refine g_icmp_ge (tgt := 108) C std_Y_lookBackFrom_19 (by decide) ⟨by omega, by omega⟩ ⟨by omega, by omega⟩ (fun c1 => ?_) (fun c1 => ?_)
      · refine g_aload_n C 3 std_Y_lookBackFrom_108 rfl ?_
        refine g_get C (st_sub sti_Y) 0 rfl rfl 7 (by decide) (List.mem_cons_of_mem _ kw_1_96) rfl rfl std_Y_lookBackFrom_109 ?_
        refine g_iload_n C 5 std_Y_lookBackFrom_112 rfl ?_
        refine g_lload_n C 2 std_Y_lookBackFrom_113 rfl ?_
        refine g_last C (ws' := [(y0, .inr (2, [.ref t0, .int (iI total), .ref ys, .ref yk, .ref yc, .ref yd, .ref yw, .ref yx, .ref yb, .ref yu])), (yd, .inl (cI, aI cap gcf)), (yx, .inl (cJ, aL cap (uZ gwf b v))), (yb, .inl (cI, aI (6 * cap) gbe)), (t0, .inr (1, [.int (iI steps), .int (iI choices), .int (iI bars), .ref hs, .ref hc, .ref hf, .ref hg, .ref hb, .ref he, .ref hm])), (hs, .inl (cI, aI 12 fsz)), (hc, .inl (cI, aI 72 fco))]) 2 1 rfl rfl (by omega) (by omega) (by omega) std_Y_lookBackFrom_114 rfl ?_
        refine g_aload_n C 3 std_Y_lookBackFrom_115 rfl ?_
        refine g_get C (st_sub sti_Y) 0 rfl rfl 5 (by decide) (List.mem_cons_of_mem _ kw_1_92) rfl rfl std_Y_lookBackFrom_116 ?_
        refine g_iload_n C 5 std_Y_lookBackFrom_119 rfl ?_
        refine g_iload C 1 std_Y_lookBackFrom_120 rfl ?_
        refine g_iast C (ws' := [(y0, .inr (2, [.ref t0, .int (iI total), .ref ys, .ref yk, .ref yc, .ref yd, .ref yw, .ref yx, .ref yb, .ref yu])), (yd, .inl (cI, aI cap (uZ gcf b y))), (yx, .inl (cJ, aL cap (uZ gwf b v))), (yb, .inl (cI, aI (6 * cap) gbe)), (t0, .inr (1, [.int (iI steps), .int (iI choices), .int (iI bars), .ref hs, .ref hc, .ref hf, .ref hg, .ref hb, .ref he, .ref hm])), (hs, .inl (cI, aI 12 fsz)), (hc, .inl (cI, aI 72 fco))]) 1 0 rfl rfl (by omega) (by omega) (by omega) std_Y_lookBackFrom_122 rfl ?_
        have hxe : x = fsz a := by omega
        subst kv
        subst kc
        subst hxe
        exact hret _ _ () (trivial) std_Y_lookBackFrom_123
      · have hq1 := kbe x (by omega) (by omega)
        refine g_aload_n C 3 std_Y_lookBackFrom_22 rfl ?_
        refine g_iload_n C 5 std_Y_lookBackFrom_23 rfl ?_
        refine g_iload C 0 std_Y_lookBackFrom_24 rfl ?_
        refine g_V_i (wc := [(y0, .inr (2, [.ref t0, .int (iI total), .ref ys, .ref yk, .ref yc, .ref yd, .ref yw, .ref yx, .ref yb, .ref yu])), (yb, .inl (cI, aI (6 * cap) gbe))]) (wr := [(yd, .inl (cI, aI cap gcf)), (yx, .inl (cJ, aL cap gwf)), (t0, .inr (1, [.int (iI steps), .int (iI choices), .int (iI bars), .ref hs, .ref hc, .ref hf, .ref hg, .ref hb, .ref he, .ref hm])), (hs, .inl (cI, aI 12 fsz)), (hc, .inl (cI, aI 72 fco))]) (rest := []) C (c_nodeBehind l dC dI cI cJ cZ y0 ys yk yc yd yw yx yb yu total t0 cap gbe b x (kcap) (by omega)) (st_cV C kw_2_101 kw_2_98 kw_1_3 kw_2_99 kw_2_100 sth_Y_nodeBehind ⟨Nat.le_of_ble_eq_true rfl, Nat.le_of_ble_eq_true rfl⟩) 0 rfl rfl rfl rfl (Nat.le_of_ble_eq_true rfl) std_Y_lookBackFrom_26 ⟨Nat.le_of_ble_eq_true rfl, Nat.le_of_ble_eq_true rfl⟩ [0, 3] [1, 2, 4, 5, 6] rfl rfl rfl rfl (by decide) (fun r2 u3 h4 => ?_)
        subst h4
        refine g_ws (ws' := [(yd, .inl (cI, aI cap gcf)), (yx, .inl (cJ, aL cap gwf)), (t0, .inr (1, [.int (iI steps), .int (iI choices), .int (iI bars), .ref hs, .ref hc, .ref hf, .ref hg, .ref hb, .ref he, .ref hm])), (hs, .inl (cI, aI 12 fsz)), (hc, .inl (cI, aI 72 fco)), (y0, .inr (2, [.ref t0, .int (iI total), .ref ys, .ref yk, .ref yc, .ref yd, .ref yw, .ref yx, .ref yb, .ref yu])), (yb, .inl (cI, aI (6 * cap) gbe))]) rfl ?_
        refine g_istore C (lv' := [(7, .int (iI (gbe ((b * 6) + x)))), (6, .int (iI x)), (5, .int (iI y)), (3, .long (lI v)), (0, .ref y0), (1, .int (iI a)), (2, .int (iI b))]) std_Y_lookBackFrom_29 (by decide) rfl ?_
        refine g_iload C 0 std_Y_lookBackFrom_31 rfl ?_
        refine g_if_lt (tgt := 102) C std_Y_lookBackFrom_33 (by decide) ⟨by omega, by omega⟩ (fun c5 => ?_) (fun c5 => ?_)
        · refine g_iinc C (lv' := [(6, .int (iI (x + 1))), (7, .int (iI (gbe ((b * 6) + x)))), (5, .int (iI y)), (3, .long (lI v)), (0, .ref y0), (1, .int (iI a)), (2, .int (iI b))]) 1 std_Y_lookBackFrom_102 rfl (by decide) rfl ?_
          refine g_goto (tgt := 8) C std_Y_lookBackFrom_105 (by decide) ?_
          refine g_sub (ws' := [(y0, .inr (2, [.ref t0, .int (iI total), .ref ys, .ref yk, .ref yc, .ref yd, .ref yw, .ref yx, .ref yb, .ref yu])), (yd, .inl (cI, aI cap gcf)), (yx, .inl (cJ, aL cap gwf)), (yb, .inl (cI, aI (6 * cap) gbe)), (t0, .inr (1, [.int (iI steps), .int (iI choices), .int (iI bars), .ref hs, .ref hc, .ref hf, .ref hg, .ref hb, .ref he, .ref hm])), (hs, .inl (cI, aI 12 fsz)), (hc, .inl (cI, aI 72 fco))]) [5, 0, 1, 6, 2, 3, 4] rfl rfl ?_
          refine g_lv (lv' := [(6, .int (iI (x + 1))), (5, .int (iI y)), (3, .long (lI v)), (0, .ref y0), (1, .int (iI a)), (2, .int (iI b))]) [0, 2, 3, 4, 5, 6] rfl ?_
          refine g_wide (k := 0) (n := 0) (Nat.le_of_ble_eq_true rfl) (Nat.le_of_ble_eq_true rfl) ?_
          exact ih8 (x + 1) y v (by omega) (by first | omega | (constructor <;> omega)) (by first | rfl | (rw [lbW_no (by omega) (by omega)]; exact kv) | (rw [lbW_yes (by omega) ⟨by omega, by omega⟩, ← kv])) (by first | rfl | (rw [lbC_no (by omega) (by omega)]; exact kc) | (rw [lbC_first (by omega) ⟨by omega, by omega⟩ (by omega)]) | (rw [lbC_more (by omega) ⟨by omega, by omega⟩ (by omega), ← kc])) (by omega)
        · refine g_aload_n C 4 std_Y_lookBackFrom_36 rfl ?_
          refine g_get C (st_sub sti_Y) 5 rfl rfl 7 (by decide) (List.mem_cons_of_mem _ kw_1_96) rfl rfl std_Y_lookBackFrom_37 ?_
          refine g_iload C 0 std_Y_lookBackFrom_40 rfl ?_
          refine g_lald C 1 1 rfl rfl (by omega) (by omega) (by omega) std_Y_lookBackFrom_42 ?_
          refine g_lconst C (z := 0) std_Y_lookBackFrom_43 (by decide) ?_
          have hq2 := (hq1.2 (by omega)).1
          refine g_lcmp_le (tgt := 102) C std_Y_lookBackFrom_44 std_Y_lookBackFrom_45 (by decide) ⟨by omega, by omega⟩ ⟨by omega, by omega⟩ (fun c6 => ?_) (fun c6 => ?_)
          · refine g_iinc C (lv' := [(6, .int (iI (x + 1))), (7, .int (iI (gbe ((b * 6) + x)))), (5, .int (iI y)), (3, .long (lI v)), (0, .ref y0), (1, .int (iI a)), (2, .int (iI b))]) 1 std_Y_lookBackFrom_102 rfl (by decide) rfl ?_
            refine g_goto (tgt := 8) C std_Y_lookBackFrom_105 (by decide) ?_
            refine g_sub (ws' := [(y0, .inr (2, [.ref t0, .int (iI total), .ref ys, .ref yk, .ref yc, .ref yd, .ref yw, .ref yx, .ref yb, .ref yu])), (yd, .inl (cI, aI cap gcf)), (yx, .inl (cJ, aL cap gwf)), (yb, .inl (cI, aI (6 * cap) gbe)), (t0, .inr (1, [.int (iI steps), .int (iI choices), .int (iI bars), .ref hs, .ref hc, .ref hf, .ref hg, .ref hb, .ref he, .ref hm])), (hs, .inl (cI, aI 12 fsz)), (hc, .inl (cI, aI 72 fco))]) [5, 0, 1, 6, 2, 3, 4] rfl rfl ?_
            refine g_lv (lv' := [(6, .int (iI (x + 1))), (5, .int (iI y)), (3, .long (lI v)), (0, .ref y0), (1, .int (iI a)), (2, .int (iI b))]) [0, 2, 3, 4, 5, 6] rfl ?_
            refine g_wide (k := 0) (n := 0) (Nat.le_of_ble_eq_true rfl) (Nat.le_of_ble_eq_true rfl) ?_
            exact ih8 (x + 1) y v (by omega) (by first | omega | (constructor <;> omega)) (by first | rfl | (rw [lbW_no (by omega) (by omega)]; exact kv) | (rw [lbW_yes (by omega) ⟨by omega, by omega⟩, ← kv])) (by first | rfl | (rw [lbC_no (by omega) (by omega)]; exact kc) | (rw [lbC_first (by omega) ⟨by omega, by omega⟩ (by omega)]) | (rw [lbC_more (by omega) ⟨by omega, by omega⟩ (by omega), ← kc])) (by omega)
          · have hq3 := (hq1.2 (by omega)).2
            have hq4 := kco ((a * 6) + x) (by omega) (by omega)
            refine g_aload_n C 4 std_Y_lookBackFrom_48 rfl ?_
            refine g_get C (st_sub sti_Y) 5 rfl rfl 5 (by decide) (List.mem_cons_of_mem _ kw_1_92) rfl rfl std_Y_lookBackFrom_49 ?_
            refine g_iload C 0 std_Y_lookBackFrom_52 rfl ?_
            refine g_iald C 0 0 rfl rfl (by omega) (by omega) (by omega) std_Y_lookBackFrom_54 ?_
            refine g_aload_n C 4 std_Y_lookBackFrom_55 rfl ?_
            refine g_get C (st_sub sti_Y) 5 rfl rfl 0 (by decide) (List.mem_cons_of_mem _ kw_1_83) rfl rfl std_Y_lookBackFrom_56 ?_
            refine g_get C (st_sub sti_T) 2 rfl rfl 4 (by decide) (List.mem_cons_of_mem _ kw_1_41) rfl rfl std_Y_lookBackFrom_59 ?_
            refine g_iload_n C 5 std_Y_lookBackFrom_62 rfl ?_
            refine g_iload C 1 std_Y_lookBackFrom_63 rfl ?_
            refine g_SN_i (wc := []) (wr := [(yd, .inl (cI, aI cap gcf)), (yx, .inl (cJ, aL cap gwf)), (t0, .inr (1, [.int (iI steps), .int (iI choices), .int (iI bars), .ref hs, .ref hc, .ref hf, .ref hg, .ref hb, .ref he, .ref hm])), (hs, .inl (cI, aI 12 fsz)), (hc, .inl (cI, aI 72 fco)), (y0, .inr (2, [.ref t0, .int (iI total), .ref ys, .ref yk, .ref yc, .ref yd, .ref yw, .ref yx, .ref yb, .ref yu])), (yb, .inl (cI, aI (6 * cap) gbe))]) (rest := [.ref hc, .int (iI (gcf (gbe ((b * 6) + x))))]) C (c_placeOf l dC dI cI cJ cZ a x ) (st_cSN C kw_1_235 (List.mem_of_getElem? (i := 3) rfl) kw_1_1 kw_1_234 sth_S_placeOf ⟨Nat.le_of_ble_eq_true rfl, Nat.le_of_ble_eq_true rfl⟩) rfl rfl (Nat.le_of_ble_eq_true rfl) std_Y_lookBackFrom_65 ⟨Nat.le_of_ble_eq_true rfl, Nat.le_of_ble_eq_true rfl⟩ [] [0, 1, 2, 3, 4, 5, 6] rfl rfl rfl rfl (by decide) (fun r7 u8 h9 => ?_)
            subst h9
            refine g_ws (ws' := [(yd, .inl (cI, aI cap gcf)), (yx, .inl (cJ, aL cap gwf)), (t0, .inr (1, [.int (iI steps), .int (iI choices), .int (iI bars), .ref hs, .ref hc, .ref hf, .ref hg, .ref hb, .ref he, .ref hm])), (hs, .inl (cI, aI 12 fsz)), (hc, .inl (cI, aI 72 fco)), (y0, .inr (2, [.ref t0, .int (iI total), .ref ys, .ref yk, .ref yc, .ref yd, .ref yw, .ref yx, .ref yb, .ref yu])), (yb, .inl (cI, aI (6 * cap) gbe))]) rfl ?_
            refine g_iald C 4 0 rfl rfl (by omega) (by omega) (by omega) std_Y_lookBackFrom_68 ?_
            refine g_iadd C std_Y_lookBackFrom_69 ?_
            refine g_istore C (lv' := [(8, .int (iI ((gcf (gbe ((b * 6) + x))) + (fco ((a * 6) + x))))), (7, .int (iI (gbe ((b * 6) + x)))), (6, .int (iI x)), (5, .int (iI y)), (3, .long (lI v)), (0, .ref y0), (1, .int (iI a)), (2, .int (iI b))]) std_Y_lookBackFrom_70 (by decide) rfl ?_
            refine g_lload_n C 4 std_Y_lookBackFrom_72 rfl ?_
            refine g_lconst C (z := 0) std_Y_lookBackFrom_73 (by decide) ?_
            refine g_lcmp_ne (tgt := 83) C std_Y_lookBackFrom_74 std_Y_lookBackFrom_75 (by decide) ⟨by omega, by omega⟩ ⟨by omega, by omega⟩ (fun c10 => ?_) (fun c10 => ?_)
            · refine g_iload C 3 std_Y_lookBackFrom_83 rfl ?_
              refine g_iload C 0 std_Y_lookBackFrom_85 rfl ?_
              refine g_min C ⟨by omega, by omega⟩ ⟨by omega, by omega⟩ (List.mem_cons_of_mem _ kw_2_44) (List.mem_cons_of_mem _ kw_2_45) (List.mem_cons_of_mem _ kw_1_7) (List.mem_cons_of_mem _ kw_2_46) (Nat.le_of_ble_eq_true rfl) (Nat.le_of_ble_eq_true rfl) (Nat.le_of_ble_eq_true rfl) (Nat.le_of_ble_eq_true rfl) std_Y_lookBackFrom_87 ?_
              refine g_istore C (lv' := [(5, .int (iI (min y ((gcf (gbe ((b * 6) + x))) + (fco ((a * 6) + x)))))), (8, .int (iI ((gcf (gbe ((b * 6) + x))) + (fco ((a * 6) + x))))), (7, .int (iI (gbe ((b * 6) + x)))), (6, .int (iI x)), (3, .long (lI v)), (0, .ref y0), (1, .int (iI a)), (2, .int (iI b))]) std_Y_lookBackFrom_90 (by decide) rfl ?_
              refine g_lload_n C 4 std_Y_lookBackFrom_92 rfl ?_
              refine g_aload_n C 5 std_Y_lookBackFrom_93 rfl ?_
              refine g_get C (st_sub sti_Y) 5 rfl rfl 7 (by decide) (List.mem_cons_of_mem _ kw_1_96) rfl rfl std_Y_lookBackFrom_94 ?_
              refine g_iload C 2 std_Y_lookBackFrom_97 rfl ?_
              refine g_lald C 1 1 rfl rfl (by omega) (by omega) (by omega) std_Y_lookBackFrom_99 ?_
              refine g_ladd C std_Y_lookBackFrom_100 ?_
              refine g_lstore_n C (lv' := [(3, .long (lI (v + (gwf (gbe ((b * 6) + x)))))), (5, .int (iI (min y ((gcf (gbe ((b * 6) + x))) + (fco ((a * 6) + x)))))), (8, .int (iI ((gcf (gbe ((b * 6) + x))) + (fco ((a * 6) + x))))), (7, .int (iI (gbe ((b * 6) + x)))), (6, .int (iI x)), (0, .ref y0), (1, .int (iI a)), (2, .int (iI b))]) std_Y_lookBackFrom_101 (by decide) rfl ?_
              refine g_iinc C (lv' := [(6, .int (iI (x + 1))), (3, .long (lI (v + (gwf (gbe ((b * 6) + x)))))), (5, .int (iI (min y ((gcf (gbe ((b * 6) + x))) + (fco ((a * 6) + x)))))), (8, .int (iI ((gcf (gbe ((b * 6) + x))) + (fco ((a * 6) + x))))), (7, .int (iI (gbe ((b * 6) + x)))), (0, .ref y0), (1, .int (iI a)), (2, .int (iI b))]) 4 std_Y_lookBackFrom_102 rfl (by decide) rfl ?_
              refine g_goto (tgt := 8) C std_Y_lookBackFrom_105 (by decide) ?_
              refine g_sub (ws' := [(y0, .inr (2, [.ref t0, .int (iI total), .ref ys, .ref yk, .ref yc, .ref yd, .ref yw, .ref yx, .ref yb, .ref yu])), (yd, .inl (cI, aI cap gcf)), (yx, .inl (cJ, aL cap gwf)), (yb, .inl (cI, aI (6 * cap) gbe)), (t0, .inr (1, [.int (iI steps), .int (iI choices), .int (iI bars), .ref hs, .ref hc, .ref hf, .ref hg, .ref hb, .ref he, .ref hm])), (hs, .inl (cI, aI 12 fsz)), (hc, .inl (cI, aI 72 fco))]) [5, 0, 1, 6, 2, 3, 4] rfl rfl ?_
              refine g_lv (lv' := [(6, .int (iI (x + 1))), (5, .int (iI (min y ((gcf (gbe ((b * 6) + x))) + (fco ((a * 6) + x)))))), (3, .long (lI (v + (gwf (gbe ((b * 6) + x)))))), (0, .ref y0), (1, .int (iI a)), (2, .int (iI b))]) [0, 2, 1, 5, 6, 7] rfl ?_
              refine g_wide (k := 0) (n := 0) (Nat.le_of_ble_eq_true rfl) (Nat.le_of_ble_eq_true rfl) ?_
              exact ih8 (x + 1) (min y ((gcf (gbe ((b * 6) + x))) + (fco ((a * 6) + x)))) (v + (gwf (gbe ((b * 6) + x)))) (by omega) (by first | omega | (constructor <;> omega)) (by first | rfl | (rw [lbW_no (by omega) (by omega)]; exact kv) | (rw [lbW_yes (by omega) ⟨by omega, by omega⟩, ← kv])) (by first | rfl | (rw [lbC_no (by omega) (by omega)]; exact kc) | (rw [lbC_first (by omega) ⟨by omega, by omega⟩ (by omega)]) | (rw [lbC_more (by omega) ⟨by omega, by omega⟩ (by omega), ← kc])) (by omega)
            · refine g_iload C 0 std_Y_lookBackFrom_78 rfl ?_
              refine g_goto (tgt := 90) C std_Y_lookBackFrom_80 (by decide) ?_
              refine g_istore C (lv' := [(5, .int (iI ((gcf (gbe ((b * 6) + x))) + (fco ((a * 6) + x))))), (8, .int (iI ((gcf (gbe ((b * 6) + x))) + (fco ((a * 6) + x))))), (7, .int (iI (gbe ((b * 6) + x)))), (6, .int (iI x)), (3, .long (lI v)), (0, .ref y0), (1, .int (iI a)), (2, .int (iI b))]) std_Y_lookBackFrom_90 (by decide) rfl ?_
              refine g_lload_n C 4 std_Y_lookBackFrom_92 rfl ?_
              refine g_aload_n C 5 std_Y_lookBackFrom_93 rfl ?_
              refine g_get C (st_sub sti_Y) 5 rfl rfl 7 (by decide) (List.mem_cons_of_mem _ kw_1_96) rfl rfl std_Y_lookBackFrom_94 ?_
              refine g_iload C 2 std_Y_lookBackFrom_97 rfl ?_
              refine g_lald C 1 1 rfl rfl (by omega) (by omega) (by omega) std_Y_lookBackFrom_99 ?_
              refine g_ladd C std_Y_lookBackFrom_100 ?_
              refine g_lstore_n C (lv' := [(3, .long (lI (v + (gwf (gbe ((b * 6) + x)))))), (5, .int (iI ((gcf (gbe ((b * 6) + x))) + (fco ((a * 6) + x))))), (8, .int (iI ((gcf (gbe ((b * 6) + x))) + (fco ((a * 6) + x))))), (7, .int (iI (gbe ((b * 6) + x)))), (6, .int (iI x)), (0, .ref y0), (1, .int (iI a)), (2, .int (iI b))]) std_Y_lookBackFrom_101 (by decide) rfl ?_
              refine g_iinc C (lv' := [(6, .int (iI (x + 1))), (3, .long (lI (v + (gwf (gbe ((b * 6) + x)))))), (5, .int (iI ((gcf (gbe ((b * 6) + x))) + (fco ((a * 6) + x))))), (8, .int (iI ((gcf (gbe ((b * 6) + x))) + (fco ((a * 6) + x))))), (7, .int (iI (gbe ((b * 6) + x)))), (0, .ref y0), (1, .int (iI a)), (2, .int (iI b))]) 4 std_Y_lookBackFrom_102 rfl (by decide) rfl ?_
              refine g_goto (tgt := 8) C std_Y_lookBackFrom_105 (by decide) ?_
              refine g_sub (ws' := [(y0, .inr (2, [.ref t0, .int (iI total), .ref ys, .ref yk, .ref yc, .ref yd, .ref yw, .ref yx, .ref yb, .ref yu])), (yd, .inl (cI, aI cap gcf)), (yx, .inl (cJ, aL cap gwf)), (yb, .inl (cI, aI (6 * cap) gbe)), (t0, .inr (1, [.int (iI steps), .int (iI choices), .int (iI bars), .ref hs, .ref hc, .ref hf, .ref hg, .ref hb, .ref he, .ref hm])), (hs, .inl (cI, aI 12 fsz)), (hc, .inl (cI, aI 72 fco))]) [5, 0, 1, 6, 2, 3, 4] rfl rfl ?_
              refine g_lv (lv' := [(6, .int (iI (x + 1))), (5, .int (iI ((gcf (gbe ((b * 6) + x))) + (fco ((a * 6) + x))))), (3, .long (lI (v + (gwf (gbe ((b * 6) + x)))))), (0, .ref y0), (1, .int (iI a)), (2, .int (iI b))]) [0, 2, 1, 5, 6, 7] rfl ?_
              refine g_wide (k := 0) (n := 0) (Nat.le_of_ble_eq_true rfl) (Nat.le_of_ble_eq_true rfl) ?_
              exact ih8 (x + 1) ((gcf (gbe ((b * 6) + x))) + (fco ((a * 6) + x))) (v + (gwf (gbe ((b * 6) + x)))) (by omega) (by first | omega | (constructor <;> omega)) (by first | rfl | (rw [lbW_no (by omega) (by omega)]; exact kv) | (rw [lbW_yes (by omega) ⟨by omega, by omega⟩, ← kv])) (by first | rfl | (rw [lbC_no (by omega) (by omega)]; exact kc) | (rw [lbC_first (by omega) ⟨by omega, by omega⟩ (by omega)]) | (rw [lbC_more (by omega) ⟨by omega, by omega⟩ (by omega), ← kc])) (by omega)
  obtain ⟨nn0, hnn0⟩ : ∃ nn0 : Nat, (fsz a - 0) < (nn0 : Int) := z_nat _
  exact L8 nn0 0 0 0 (by omega) (by first | omega | (constructor <;> omega)) (by first | rfl | (rw [lbW_no (by omega) (by omega)]; exact kv) | (rw [lbW_yes (by omega) ⟨by omega, by omega⟩, ← kv])) (by first | rfl | (rw [lbC_no (by omega) (by omega)]; exact kc) | (rw [lbC_first (by omega) ⟨by omega, by omega⟩ (by omega)]) | (rw [lbC_more (by omega) ⟨by omega, by omega⟩ (by omega), ← kc])) hnn0
end
section
/-! sums, least values, one node made -/
/-- sums and least values over a stretch of whole numbers -/
def sumR (g : Int → Int) (s : Int) : Nat → Int
  | 0 => 0
  | n + 1 => sumR g s n + g (s + (n : Int))
noncomputable def minR (P : Int → Prop) (v : Int → Int) (s : Int) : Nat → Int
  | 0 => 900000
  | n + 1 => @ite Int (P (s + (n : Int))) (Classical.propDecidable _) (min (minR P v s n) (v (s + (n : Int)))) (minR P v s n)
theorem sumR_gap {g : Int → Int} {s : Int} {n : Nat} : ∀ k : Nat, (∀ i, s + (n : Int) ≤ i → i < s + ((n + k : Nat) : Int) → g i = 0) → sumR g s (n + k) = sumR g s n
  | 0, _ => rfl
  | k + 1, h => by
    show sumR g s (n + k) + g (s + ((n + k : Nat) : Int)) = _
    rw [h _ (by omega) (by omega), Int.add_zero]
    exact sumR_gap k (fun i h1 h2 => h i h1 (by omega))
theorem minR_yes {P : Int → Prop} {v : Int → Int} {s : Int} {n : Nat} (h : P (s + (n : Int))) : minR P v s (n + 1) = min (minR P v s n) (v (s + (n : Int))) := if_pos h
theorem minR_no {P : Int → Prop} {v : Int → Int} {s : Int} {n : Nat} (h : ¬ P (s + (n : Int))) : minR P v s (n + 1) = minR P v s n := if_neg h
theorem minR_gap {P : Int → Prop} {v : Int → Int} {s : Int} {n : Nat} : ∀ k : Nat, (∀ i, s + (n : Int) ≤ i → i < s + ((n + k : Nat) : Int) → ¬ P i) → minR P v s (n + k) = minR P v s n
  | 0, _ => rfl
  | k + 1, h => by
    rw [show n + (k + 1) = (n + k) + 1 by omega, minR_no (h _ (by omega) (by omega))]
    exact minR_gap k (fun i h1 h2 => h i h1 (by omega))
/-- one node is being made: its choice's cursor has come to CU b -/
def ANp (gbe gct gwt gcu : Int → Int) (b co e key total : Int) (CU F GC GW : Int → Int) : Prop :=
  (∀ j, ¬ j = b → CU j = gcu j) ∧ (gcu b ≤ CU b ∧ CU b ≤ e) ∧ (CU b < e → ¬ gbe (CU b * 6 + b) = -1) ∧
  (∀ i, gcu b ≤ i → i < CU b → (gbe (i * 6 + b) = key ∧ F (i * 6 + b) = total) ∨ (gbe (i * 6 + b) = -1 ∧ F (i * 6 + b) = -1)) ∧
  (∀ j, (∀ i, gcu b ≤ i → i < CU b → ¬ j = i * 6 + b) → F j = gbe j) ∧
  ((∀ j, ¬ j = total → GC j = gct j) ∧ GC total = min (gct (gcu b) + co) (minR (fun i => gbe (i * 6 + b) = key) (fun i => gct i + co) (gcu b) (CU b - gcu b).toNat) ∧ -200000 ≤ GC total ∧ GC total ≤ 200000) ∧
  ((∀ j, ¬ j = total → GW j = gwt j) ∧ GW total = sumR (fun i => if gbe (i * 6 + b) = key then gwt i else 0) (gcu b) (CU b - gcu b).toNat)
theorem an_0 {gbe gct gwt gcu : Int → Int} {b co e key total : Int} (h1 : gcu b < e) (h2 : ¬ gbe (gcu b * 6 + b) = -1) (h3 : -200000 ≤ gct (gcu b) + co ∧ gct (gcu b) + co ≤ 200000) : ANp gbe gct gwt gcu b co e key total gcu gbe (uZ gct total (gct (gcu b) + co)) (uZ gwt total 0) := by
  refine ⟨fun _ _ => rfl, ⟨Int.le_refl _, by omega⟩, fun _ => h2, fun i a b => by omega, fun _ _ => rfl, ⟨fun j h => uZ_n h, ?_, ?_, ?_⟩, fun j h => uZ_n h, ?_⟩
  · rw [uZ_s, Int.sub_self]
    show _ = min _ 900000
    omega
  · rw [uZ_s]; exact h3.1
  · rw [uZ_s]; exact h3.2
  · rw [uZ_s, Int.sub_self]; rfl
theorem an_step {gbe gct gwt gcu CU F GC GW CU2 : Int → Int} {b co e key total : Int} (h : ANp gbe gct gwt gcu b co e key total CU F GC GW) (hlt : CU b < e) (hkey : F (CU b * 6 + b) = key) (het : e ≤ total) (hk : ¬ key = -1) (hr : -200000 ≤ GC (CU b) + co ∧ GC (CU b) + co ≤ 200000)
    (q1 : ∀ j, ¬ j = b → CU2 j = uZ CU b (CU b + 1) j) (q2 : uZ CU b (CU b + 1) b ≤ CU2 b ∧ CU2 b ≤ e) (q3 : ∀ i, uZ CU b (CU b + 1) b ≤ i → i < CU2 b → uZ F (CU b * 6 + b) total (i * 6 + b) = -1) (q4 : CU2 b < e → ¬ uZ F (CU b * 6 + b) total (CU2 b * 6 + b) = -1) :
    ANp gbe gct gwt gcu b co e key total CU2 (uZ F (CU b * 6 + b) total) (uZ GC total (min (GC total) (GC (CU b) + co))) (uZ GW total (GW total + GW (CU b))) := by
  obtain ⟨k1, k2, k3, k4, k5, ⟨k6, k6b, k6c, k6d⟩, k7, k7b⟩ := h
  rw [uZ_s] at q2 q3
  have hF : ∀ i, CU b ≤ i → F (i * 6 + b) = gbe (i * 6 + b) := fun i hi => k5 _ (fun z h1 h2 => by omega)
  have hg : gbe (CU b * 6 + b) = key := by rw [← hF _ (Int.le_refl _)]; exact hkey
  have hm : ∀ i, CU b + 1 ≤ i → i < CU2 b → gbe (i * 6 + b) = -1 := fun i h1 h2 => by
    have := q3 i h1 h2
    rw [uZ_n (by omega), hF i (by omega)] at this
    exact this
  obtain ⟨n, hn⟩ : ∃ n : Nat, CU b = gcu b + (n : Int) := ⟨(CU b - gcu b).toNat, by omega⟩
  obtain ⟨t, ht⟩ : ∃ t : Nat, CU2 b = gcu b + ((n + 1 + t : Nat) : Int) := ⟨(CU2 b - CU b - 1).toNat, by omega⟩
  have e1 : (CU b - gcu b).toNat = n := by omega
  have e2 : (CU2 b - gcu b).toNat = (n + 1) + t := by omega
  have hct : GC (CU b) = gct (CU b) := k6 _ (by omega)
  have hwt : GW (CU b) = gwt (CU b) := k7 _ (by omega)
  rw [e1] at k6b k7b
  refine ⟨fun j hj => by rw [q1 j hj, uZ_n hj]; exact k1 j hj, ⟨by omega, q2.2⟩, fun hl => ?_, fun i h1 h2 => ?_, fun j hj => ?_, ⟨fun j hj => by rw [uZ_n hj]; exact k6 j hj, ?_, ?_, ?_⟩, fun j hj => by rw [uZ_n hj]; exact k7 j hj, ?_⟩
  · have := q4 hl
    rw [uZ_n (by omega), hF _ (by omega)] at this
    exact this
  · by_cases q : i = CU b
    · subst q; exact Or.inl ⟨hg, uZ_s⟩
    · by_cases r : i < CU b
      · rw [uZ_n (by omega)]; exact k4 i h1 r
      · rw [uZ_n (by omega), hF i (by omega)]
        exact Or.inr ⟨hm i (by omega) h2, hm i (by omega) h2⟩
  · rw [uZ_n (hj (CU b) (by omega) (by omega))]
    exact k5 j (fun i h1 h2 => hj i h1 (by omega))
  · rw [uZ_s, e2, minR_gap t (fun i h1 h2 => ?_), minR_yes ?_, k6b, hct, ← hn]
    · omega
    · show gbe ((gcu b + (n : Int)) * 6 + b) = key
      rw [← hn]; exact hg
    · show ¬ gbe (i * 6 + b) = key
      rw [hm i (by omega) (by omega)]; omega
  · rw [uZ_s]; omega
  · rw [uZ_s]; omega
  · rw [uZ_s, e2, sumR_gap t (fun i h1 h2 => ?_), hwt, k7b]
    · show _ = sumR _ _ n + _
      rw [← hn]
      dsimp only
      rw [if_pos hg]
    · show (if gbe (i * 6 + b) = key then gwt i else 0) = 0
      rw [if_neg]; rw [hm i (by omega) (by omega)]; omega
theorem an_be {gbe gct gwt gcu CU F GC GW : Int → Int} {b co e key total : Int} (h : ANp gbe gct gwt gcu b co e key total CU F GC GW) (kbe : ∀ i, gcu b ≤ i → i < e → rI (gbe (i * 6 + b))) : ∀ i, uZ CU b (CU b + 1) b ≤ i → i < e → rI (uZ F (CU b * 6 + b) total (i * 6 + b)) := by
  intro i h1 h2
  rw [uZ_s] at h1
  have h3 := h.2.1
  rw [uZ_n (by omega), h.2.2.2.2.1 (i * 6 + b) (fun z z1 z2 => by omega)]
  exact kbe i (by omega) h2
theorem an_gt {gbe gct gwt gcu CU F GC GW : Int → Int} {b co e total : Int} (h : ANp gbe gct gwt gcu b co e (gbe (gcu b * 6 + b)) total CU F GC GW) (hne : ¬ F (CU b * 6 + b) = gbe (gcu b * 6 + b)) : gcu b < CU b := by
  have h2 := h.2.1
  rcases Int.lt_or_le (gcu b) (CU b) with q | q
  · exact q
  · exfalso
    apply hne
    rw [h.2.2.2.2.1 (CU b * 6 + b) (fun z z1 z2 => by omega), show CU b = gcu b by omega]
end
section
/-! MORE ROWS: arraycopy, an array as an answer -/
def cpZ (f g : Int → Int) (sp dp n : Int) : Int → Int := fun j => if dp ≤ j ∧ j < dp + n then f (sp + (j - dp)) else g j
theorem cpZ_i {f g : Int → Int} {sp dp n : Int} (h1 : 0 ≤ sp) (h2 : 0 ≤ dp) (h3 : 0 ≤ n) (h4 : sp < 2147483648) (h5 : dp < 2147483648) (h6 : n < 2147483648) : va_cpy (fun j : Nat => iI (f (j : Int))) (fun j : Nat => iI (g (j : Int))) (iI sp).toNatClampNeg (iI dp).toNatClampNeg (iI n).toNatClampNeg = fun j : Nat => iI (cpZ f g sp dp n (j : Int)) := by
  funext j
  rw [iI_cl h1 h4, iI_cl h2 h5, iI_cl h3 h6]
  unfold va_cpy cpZ
  by_cases h : dp ≤ (j : Int) ∧ (j : Int) < dp + n
  · rw [if_pos h, if_pos (by omega)]
    dsimp only
    rw [show ((sp.toNat + (j - dp.toNat) : Nat) : Int) = sp + ((j : Int) - dp) by omega]
  · rw [if_neg h, if_neg (by omega)]
theorem cpZ_l {f g : Int → Int} {sp dp n : Int} (h1 : 0 ≤ sp) (h2 : 0 ≤ dp) (h3 : 0 ≤ n) (h4 : sp < 2147483648) (h5 : dp < 2147483648) (h6 : n < 2147483648) : va_cpy (fun j : Nat => lI (f (j : Int))) (fun j : Nat => lI (g (j : Int))) (iI sp).toNatClampNeg (iI dp).toNatClampNeg (iI n).toNatClampNeg = fun j : Nat => lI (cpZ f g sp dp n (j : Int)) := by
  funext j
  rw [iI_cl h1 h4, iI_cl h2 h5, iI_cl h3 h6]
  unfold va_cpy cpZ
  by_cases h : dp ≤ (j : Int) ∧ (j : Int) < dp + n
  · rw [if_pos h, if_pos (by omega)]
    dsimp only
    rw [show ((sp.toNat + (j - dp.toNat) : Nat) : Int) = sp + ((j : Int) - dp) by omega]
  · rw [if_neg h, if_neg (by omega)]
theorem cpZ_lo {f g : Int → Int} {n j : Int} (h1 : 0 ≤ j) (h2 : j < n) : cpZ f g 0 0 n j = f j := by
  unfold cpZ
  rw [if_pos (by omega)]
  congr 1
  omega
section ROWS2
variable {p : Program} {l : Launch} {e : Env} {R : Room} {s : State} {m : MethodId} {args : Array Value} {below : List Frame} {meth : Method} {c : Code} {D : va_G} {cl : List vw_C} {tys : List (ClassId × FieldType)} {nw : List Cond} {cc : ByteArray} {nL : Nat} {Ts : List Cond} {own : String} {A : Nat → Prop} {cells slots : Nat} {Q : State → Prop} {ws ws' : va_W} {pc : Nat} {lv lv' : List (Nat × Value)} {st : List Value}
theorem z_nneg {x : Int} (h : 0 ≤ x) (h2 : x < 2147483648) : ¬ iI x < 0 := by
  rw [show (0 : Int32) = iI 0 from rfl, iI_lt (by constructor <;> omega) (by decide)]
  omega
theorem g_copyI (C : CX p s m args meth c D cl tys nw cc nL Ts own A) {a0 a n0 n1 index : Nat} {cA : ClassId} {f g : Int → Int} {sp dp n : Int} (q0 q1 t0 : Nat) (ha0 : ws[q0]? = some (a0, .inl (cA, aI n0 f))) (ha1 : ws[q1]? = some (a, .inl (cA, aI n1 g))) (ht : tys[t0]? = some (cA, .int)) (h1 : 0 ≤ sp) (h2 : 0 ≤ dp) (h3 : 0 ≤ n) (h4 : sp + n ≤ (n0 : Int)) (h5 : dp + n ≤ (n1 : Int)) (h6 : (n0 : Int) ≤ 2147483647) (h7 : (n1 : Int) ≤ 2147483647)
    (hlink : Cond.methodLink own index arraycopyName ∈ Ts) (hnat : Cond.native arraycopyName ∈ Ts) (hstat : Cond.static arraycopyName ∈ Ts) (hini : Cond.initialized "java/lang/System" ∈ Ts) (hframes : 1 ≤ R.frames) (hlocals : (st.map fun v => v.category).sum + (nativeFrameWords "java/lang/System" "arraycopy" 5 + 11) ≤ R.locals) (hd : decode cc pc = .ok (.invokestatic index, 3)) (hw : ws.set q1 (a, .inl (cA, aI n1 (cpZ f g sp dp n))) = ws')
    (kk : G p l e R s m args below meth c D cl nL A cells slots Q ws' (pc + 3) lv st) : G p l e R s m args below meth c D cl nL A cells slots Q ws pc lv (.int (iI n) :: .int (iI dp) :: .ref a :: .int (iI sp) :: .ref a0 :: st) :=
  fun H locs ls hP hD hS hl => va_copyi (n0 := n0) (n1 := n1) (f := fun j : Nat => iI (f (j : Int))) (g := fun j : Nat => iI (g (j : Int))) C.1 C.2.1 (by rw [C.2.2.1]; exact hl.1.symm) C.2.2.2.1 (cx_ts C hlink) (cx_ts C hnat) (cx_ts C hstat) (cx_ts C hini) (cx_k C) hP hD hS q0 q1 t0 t0 ha0 ha1 ht ht rfl (z_nneg h1 (by omega)) (z_nneg h2 (by omega)) (z_nneg h3 (by omega)) (by rw [iI_cl h1 (by omega), iI_cl h3 (by omega)]; omega) (by rw [iI_cl h2 (by omega), iI_cl h3 (by omega)]; omega) (fun i hi => rfl) hframes hlocals hd (by
    rw [cpZ_i h1 h2 h3 (by omega) (by omega) (by omega)]
    intro H1 locs1 hP1 hD1 hS1
    exact kk H1 locs1 ls (hw ▸ hP1) (hw ▸ hD1) hS1 hl)
theorem g_copyL (C : CX p s m args meth c D cl tys nw cc nL Ts own A) {a0 a n0 n1 index : Nat} {cA : ClassId} {f g : Int → Int} {sp dp n : Int} (q0 q1 t0 : Nat) (ha0 : ws[q0]? = some (a0, .inl (cA, aL n0 f))) (ha1 : ws[q1]? = some (a, .inl (cA, aL n1 g))) (ht : tys[t0]? = some (cA, .long)) (h1 : 0 ≤ sp) (h2 : 0 ≤ dp) (h3 : 0 ≤ n) (h4 : sp + n ≤ (n0 : Int)) (h5 : dp + n ≤ (n1 : Int)) (h6 : (n0 : Int) ≤ 2147483647) (h7 : (n1 : Int) ≤ 2147483647)
    (hlink : Cond.methodLink own index arraycopyName ∈ Ts) (hnat : Cond.native arraycopyName ∈ Ts) (hstat : Cond.static arraycopyName ∈ Ts) (hini : Cond.initialized "java/lang/System" ∈ Ts) (hframes : 1 ≤ R.frames) (hlocals : (st.map fun v => v.category).sum + (nativeFrameWords "java/lang/System" "arraycopy" 5 + 11) ≤ R.locals) (hd : decode cc pc = .ok (.invokestatic index, 3)) (hw : ws.set q1 (a, .inl (cA, aL n1 (cpZ f g sp dp n))) = ws')
    (kk : G p l e R s m args below meth c D cl nL A cells slots Q ws' (pc + 3) lv st) : G p l e R s m args below meth c D cl nL A cells slots Q ws pc lv (.int (iI n) :: .int (iI dp) :: .ref a :: .int (iI sp) :: .ref a0 :: st) :=
  fun H locs ls hP hD hS hl => va_copyl (n0 := n0) (n1 := n1) (f := fun j : Nat => lI (f (j : Int))) (g := fun j : Nat => lI (g (j : Int))) C.1 C.2.1 (by rw [C.2.2.1]; exact hl.1.symm) C.2.2.2.1 (cx_ts C hlink) (cx_ts C hnat) (cx_ts C hstat) (cx_ts C hini) (cx_k C) hP hD hS q0 q1 t0 t0 ha0 ha1 ht ht rfl (z_nneg h1 (by omega)) (z_nneg h2 (by omega)) (z_nneg h3 (by omega)) (by rw [iI_cl h1 (by omega), iI_cl h3 (by omega)]; omega) (by rw [iI_cl h2 (by omega), iI_cl h3 (by omega)]; omega) (fun i hi => rfl) hframes hlocals hd (by
    rw [cpZ_l h1 h2 h3 (by omega) (by omega) (by omega)]
    intro H1 locs1 hP1 hD1 hS1
    exact kk H1 locs1 ls (hw ▸ hP1) (hw ▸ hD1) hS1 hl)
end ROWS2
theorem met_r {l : Launch} {y : MethodName} {wy wy' : List Cond} {rm : Room} {D : va_G} {cl : List vw_C} {tys : List (ClassId × FieldType)} {nw : List Cond} {cc : ByteArray} {maxL mc ms : Nat} {t : FieldType} {S : Type} {post : S → Prop} {w1 : S → Nat → va_W} {W0 : va_W} {av : List Value} (hy : plainName y.cls = true) (hw : wy = Cond.code y cc maxL (some (.array t)) :: wy') (hlen : (lg_sl av).length ≤ maxL)
    (body : ∀ (p : Program) (e : Env) (s : State) (m : MethodId) (below : List Frame) (meth : Method) (c : Code) (A : Nat → Prop) (Q : State → Prop), CX p s m av.toArray meth c D cl tys nw cc maxL wy y.cls A → meth.name = y.name →
      (∀ (pc : Nat) (lv : List (Nat × Value)) (u : S) (r : Nat), post u → decode cc pc = .ok (.areturn, 1) → G p l e rm s m av.toArray below meth c D cl maxL A mc ms Q (w1 u r) pc lv [.ref r]) →
      G p l e rm s m av.toArray below meth c D cl maxL A 0 0 Q W0 0 (lv_args 0 av) []) :
    ∀ sz, Met l y wy rm (va_Pc av (zPre D cl tys nw W0 sz)) (va_Qr post (fun u r => zPost D cl tys W0 sz (fun u : S => w1 u r) u) (va_A W0 sz)) mc ms (va_A W0 sz) := by
  intro sz
  refine Met.ofW (cc := cc) (maxL := maxL) (ret := some (.array t)) hy hw ?_
  intro p e s m args below meth c s₁ B hml hv
  obtain ⟨rfl, hsz, hP, hK, hD0, hN, hNo⟩ := hv
  have hx := B.exec
  have hb := B.bytes
  have hr := B.returns
  have hlocks := B.notSynchronized
  subst hsz
  have hD := hD0.self (sz := s.heap.size)
  have C : CX p s m av.toArray meth c D cl tys nw cc maxL wy y.cls (va_A W0 s.heap.size) := ⟨hx, hb, hml, findClass_of_methodNamed B.named, atoms_spec (ws := wy) B.pre, hK, fun q h => Or.inr h, hlocks, hN, hNo⟩
  rw [lg_entry_eq]
  refine body p e s m below meth c (va_A W0 s.heap.size) _ C (name_of_methodNamed B.named B.method).1 ?_ s.heap [] _ hP hD va_S.rf (lv_entry av hlen)
  intro pc lv u r hp hd H locs ls hP1 hD1 hS1 hl1
  exact W.aret (v := .ref r) hx hb hr (Or.inr ⟨t, rfl⟩) (Or.inr ⟨r, rfl⟩) (fun t ht hW => ⟨⟨u, r, rfl, hp, by rw [ht]; exact hP1, va_K.moved hW.alike hK, hD1⟩, hS1.F ht⟩) hS1.2.2 hd
end
section
/-! Layers: a node is made; rows grow -/
abbrev sty_Y_addNode : MethodName := ⟨"StateTables$Layers", "addNode", "(II)V"⟩
abbrev stc_Y_addNode : ByteArray := prog_3_method_13_code
theorem sth_Y_addNode : (sty_Y_addNode).cls ≠ "java/lang/invoke/MethodHandle" ∧ (sty_Y_addNode).cls ≠ "java/lang/invoke/VarHandle" ∧ (parseMethodDescriptor (sty_Y_addNode).desc).map (fun d => d.parameters.length) = some 2 := by decide +kernel
theorem std_Y_addNode_0 : decode stc_Y_addNode 0 = .ok (.aload_n 0, 1) := by decide +kernel
theorem std_Y_addNode_1 : decode stc_Y_addNode 1 = .ok (.aload_n 0, 1) := by decide +kernel
theorem std_Y_addNode_2 : decode stc_Y_addNode 2 = .ok (.getfield 34, 3) := by decide +kernel
theorem std_Y_addNode_5 : decode stc_Y_addNode 5 = .ok (.iload_n 2, 1) := by decide +kernel
theorem std_Y_addNode_6 : decode stc_Y_addNode 6 = .ok (.iaload, 1) := by decide +kernel
theorem std_Y_addNode_7 : decode stc_Y_addNode 7 = .ok (.iload_n 2, 1) := by decide +kernel
theorem std_Y_addNode_8 : decode stc_Y_addNode 8 = .ok (.invokevirtual 129, 3) := by decide +kernel
theorem std_Y_addNode_11 : decode stc_Y_addNode 11 = .ok (.istore_n 3, 1) := by decide +kernel
theorem std_Y_addNode_12 : decode stc_Y_addNode 12 = .ok (.aload_n 0, 1) := by decide +kernel
theorem std_Y_addNode_13 : decode stc_Y_addNode 13 = .ok (.getfield 37, 3) := by decide +kernel
theorem std_Y_addNode_16 : decode stc_Y_addNode 16 = .ok (.getfield 132, 3) := by decide +kernel
theorem std_Y_addNode_19 : decode stc_Y_addNode 19 = .ok (.iload_n 1, 1) := by decide +kernel
theorem std_Y_addNode_20 : decode stc_Y_addNode 20 = .ok (.iload_n 2, 1) := by decide +kernel
theorem std_Y_addNode_21 : decode stc_Y_addNode 21 = .ok (.invokestatic 104, 3) := by decide +kernel
theorem std_Y_addNode_24 : decode stc_Y_addNode 24 = .ok (.iaload, 1) := by decide +kernel
theorem std_Y_addNode_25 : decode stc_Y_addNode 25 = .ok (.istore 4, 2) := by decide +kernel
theorem std_Y_addNode_27 : decode stc_Y_addNode 27 = .ok (.aload_n 0, 1) := by decide +kernel
theorem std_Y_addNode_28 : decode stc_Y_addNode 28 = .ok (.getfield 60, 3) := by decide +kernel
theorem kw_1_85 : Cond.fieldLink "StateTables$Layers" 60 "StateTables$Layers" "total" "I" ∈ stGW := st_t1 (List.mem_of_getElem? (i := 85) (by decide +kernel)) (by decide +kernel)
theorem std_Y_addNode_31 : decode stc_Y_addNode 31 = .ok (.istore 5, 2) := by decide +kernel
theorem std_Y_addNode_33 : decode stc_Y_addNode 33 = .ok (.aload_n 0, 1) := by decide +kernel
theorem std_Y_addNode_34 : decode stc_Y_addNode 34 = .ok (.dup, 1) := by decide +kernel
theorem std_Y_addNode_35 : decode stc_Y_addNode 35 = .ok (.getfield 60, 3) := by decide +kernel
theorem std_Y_addNode_38 : decode stc_Y_addNode 38 = .ok (.iconst 1, 1) := by decide +kernel
theorem std_Y_addNode_39 : decode stc_Y_addNode 39 = .ok (.iadd, 1) := by decide +kernel
theorem std_Y_addNode_40 : decode stc_Y_addNode 40 = .ok (.putfield 60, 3) := by decide +kernel
theorem std_Y_addNode_43 : decode stc_Y_addNode 43 = .ok (.aload_n 0, 1) := by decide +kernel
theorem std_Y_addNode_44 : decode stc_Y_addNode 44 = .ok (.getfield 15, 3) := by decide +kernel
theorem std_Y_addNode_47 : decode stc_Y_addNode 47 = .ok (.iload 5, 2) := by decide +kernel
theorem std_Y_addNode_49 : decode stc_Y_addNode 49 = .ok (.iload_n 3, 1) := by decide +kernel
theorem std_Y_addNode_50 : decode stc_Y_addNode 50 = .ok (.iastore, 1) := by decide +kernel
theorem std_Y_addNode_51 : decode stc_Y_addNode 51 = .ok (.aload_n 0, 1) := by decide +kernel
theorem std_Y_addNode_52 : decode stc_Y_addNode 52 = .ok (.getfield 18, 3) := by decide +kernel
theorem std_Y_addNode_55 : decode stc_Y_addNode 55 = .ok (.iload 5, 2) := by decide +kernel
theorem std_Y_addNode_57 : decode stc_Y_addNode 57 = .ok (.aload_n 0, 1) := by decide +kernel
theorem std_Y_addNode_58 : decode stc_Y_addNode 58 = .ok (.getfield 18, 3) := by decide +kernel
theorem std_Y_addNode_61 : decode stc_Y_addNode 61 = .ok (.aload_n 0, 1) := by decide +kernel
theorem std_Y_addNode_62 : decode stc_Y_addNode 62 = .ok (.getfield 34, 3) := by decide +kernel
theorem std_Y_addNode_65 : decode stc_Y_addNode 65 = .ok (.iload_n 2, 1) := by decide +kernel
theorem std_Y_addNode_66 : decode stc_Y_addNode 66 = .ok (.iaload, 1) := by decide +kernel
theorem std_Y_addNode_67 : decode stc_Y_addNode 67 = .ok (.iaload, 1) := by decide +kernel
theorem std_Y_addNode_68 : decode stc_Y_addNode 68 = .ok (.iload 4, 2) := by decide +kernel
theorem std_Y_addNode_70 : decode stc_Y_addNode 70 = .ok (.iadd, 1) := by decide +kernel
theorem std_Y_addNode_71 : decode stc_Y_addNode 71 = .ok (.iastore, 1) := by decide +kernel
theorem std_Y_addNode_72 : decode stc_Y_addNode 72 = .ok (.aload_n 0, 1) := by decide +kernel
theorem std_Y_addNode_73 : decode stc_Y_addNode 73 = .ok (.getfield 24, 3) := by decide +kernel
theorem kw_1_94 : Cond.fieldLink "StateTables$Layers" 24 "StateTables$Layers" "waysTo" "[J" ∈ stGW := st_t1 (List.mem_of_getElem? (i := 94) (by decide +kernel)) (by decide +kernel)
theorem std_Y_addNode_76 : decode stc_Y_addNode 76 = .ok (.iload 5, 2) := by decide +kernel
theorem std_Y_addNode_78 : decode stc_Y_addNode 78 = .ok (.lconst 0, 1) := by decide +kernel
theorem std_Y_addNode_79 : decode stc_Y_addNode 79 = .ok (.lastore, 1) := by decide +kernel
theorem std_Y_addNode_80 : decode stc_Y_addNode 80 = .ok (.aload_n 0, 1) := by decide +kernel
theorem std_Y_addNode_81 : decode stc_Y_addNode 81 = .ok (.getfield 34, 3) := by decide +kernel
theorem std_Y_addNode_84 : decode stc_Y_addNode 84 = .ok (.iload_n 2, 1) := by decide +kernel
theorem std_Y_addNode_85 : decode stc_Y_addNode 85 = .ok (.iaload, 1) := by decide +kernel
theorem std_Y_addNode_86 : decode stc_Y_addNode 86 = .ok (.aload_n 0, 1) := by decide +kernel
theorem std_Y_addNode_87 : decode stc_Y_addNode 87 = .ok (.getfield 9, 3) := by decide +kernel
theorem std_Y_addNode_90 : decode stc_Y_addNode 90 = .ok (.iload_n 1, 1) := by decide +kernel
theorem std_Y_addNode_91 : decode stc_Y_addNode 91 = .ok (.iconst 1, 1) := by decide +kernel
theorem std_Y_addNode_92 : decode stc_Y_addNode 92 = .ok (.iadd, 1) := by decide +kernel
theorem std_Y_addNode_93 : decode stc_Y_addNode 93 = .ok (.iaload, 1) := by decide +kernel
theorem std_Y_addNode_94 : decode stc_Y_addNode 94 = .ok (.if_icmp .ge 103, 3) := by decide +kernel
theorem std_Y_addNode_197 : decode stc_Y_addNode 197 = .ok (.return_, 1) := by decide +kernel
theorem std_Y_addNode_97 : decode stc_Y_addNode 97 = .ok (.aload_n 0, 1) := by decide +kernel
theorem std_Y_addNode_98 : decode stc_Y_addNode 98 = .ok (.aload_n 0, 1) := by decide +kernel
theorem std_Y_addNode_99 : decode stc_Y_addNode 99 = .ok (.getfield 34, 3) := by decide +kernel
theorem std_Y_addNode_102 : decode stc_Y_addNode 102 = .ok (.iload_n 2, 1) := by decide +kernel
theorem std_Y_addNode_103 : decode stc_Y_addNode 103 = .ok (.iaload, 1) := by decide +kernel
theorem std_Y_addNode_104 : decode stc_Y_addNode 104 = .ok (.iload_n 2, 1) := by decide +kernel
theorem std_Y_addNode_105 : decode stc_Y_addNode 105 = .ok (.invokevirtual 129, 3) := by decide +kernel
theorem std_Y_addNode_108 : decode stc_Y_addNode 108 = .ok (.iload_n 3, 1) := by decide +kernel
theorem std_Y_addNode_109 : decode stc_Y_addNode 109 = .ok (.if_icmp .ne 88, 3) := by decide +kernel
theorem std_Y_addNode_112 : decode stc_Y_addNode 112 = .ok (.aload_n 0, 1) := by decide +kernel
theorem std_Y_addNode_113 : decode stc_Y_addNode 113 = .ok (.getfield 34, 3) := by decide +kernel
theorem std_Y_addNode_116 : decode stc_Y_addNode 116 = .ok (.iload_n 2, 1) := by decide +kernel
theorem std_Y_addNode_117 : decode stc_Y_addNode 117 = .ok (.iaload, 1) := by decide +kernel
theorem std_Y_addNode_118 : decode stc_Y_addNode 118 = .ok (.istore 6, 2) := by decide +kernel
theorem std_Y_addNode_120 : decode stc_Y_addNode 120 = .ok (.aload_n 0, 1) := by decide +kernel
theorem std_Y_addNode_121 : decode stc_Y_addNode 121 = .ok (.getfield 31, 3) := by decide +kernel
theorem std_Y_addNode_124 : decode stc_Y_addNode 124 = .ok (.iload 6, 2) := by decide +kernel
theorem std_Y_addNode_126 : decode stc_Y_addNode 126 = .ok (.bipush 6, 2) := by decide +kernel
theorem std_Y_addNode_128 : decode stc_Y_addNode 128 = .ok (.imul, 1) := by decide +kernel
theorem std_Y_addNode_129 : decode stc_Y_addNode 129 = .ok (.iload_n 2, 1) := by decide +kernel
theorem std_Y_addNode_130 : decode stc_Y_addNode 130 = .ok (.iadd, 1) := by decide +kernel
theorem std_Y_addNode_131 : decode stc_Y_addNode 131 = .ok (.iload 5, 2) := by decide +kernel
theorem std_Y_addNode_133 : decode stc_Y_addNode 133 = .ok (.iastore, 1) := by decide +kernel
theorem std_Y_addNode_134 : decode stc_Y_addNode 134 = .ok (.aload_n 0, 1) := by decide +kernel
theorem std_Y_addNode_135 : decode stc_Y_addNode 135 = .ok (.getfield 18, 3) := by decide +kernel
theorem std_Y_addNode_138 : decode stc_Y_addNode 138 = .ok (.iload 5, 2) := by decide +kernel
theorem std_Y_addNode_140 : decode stc_Y_addNode 140 = .ok (.aload_n 0, 1) := by decide +kernel
theorem std_Y_addNode_141 : decode stc_Y_addNode 141 = .ok (.getfield 18, 3) := by decide +kernel
theorem std_Y_addNode_144 : decode stc_Y_addNode 144 = .ok (.iload 5, 2) := by decide +kernel
theorem std_Y_addNode_146 : decode stc_Y_addNode 146 = .ok (.iaload, 1) := by decide +kernel
theorem std_Y_addNode_147 : decode stc_Y_addNode 147 = .ok (.aload_n 0, 1) := by decide +kernel
theorem std_Y_addNode_148 : decode stc_Y_addNode 148 = .ok (.getfield 18, 3) := by decide +kernel
theorem std_Y_addNode_151 : decode stc_Y_addNode 151 = .ok (.iload 6, 2) := by decide +kernel
theorem std_Y_addNode_153 : decode stc_Y_addNode 153 = .ok (.iaload, 1) := by decide +kernel
theorem std_Y_addNode_154 : decode stc_Y_addNode 154 = .ok (.iload 4, 2) := by decide +kernel
theorem std_Y_addNode_156 : decode stc_Y_addNode 156 = .ok (.iadd, 1) := by decide +kernel
theorem std_Y_addNode_157 : decode stc_Y_addNode 157 = .ok (.invokestatic 69, 3) := by decide +kernel
theorem std_Y_addNode_160 : decode stc_Y_addNode 160 = .ok (.iastore, 1) := by decide +kernel
theorem std_Y_addNode_161 : decode stc_Y_addNode 161 = .ok (.aload_n 0, 1) := by decide +kernel
theorem std_Y_addNode_162 : decode stc_Y_addNode 162 = .ok (.getfield 24, 3) := by decide +kernel
theorem std_Y_addNode_165 : decode stc_Y_addNode 165 = .ok (.iload 5, 2) := by decide +kernel
theorem std_Y_addNode_167 : decode stc_Y_addNode 167 = .ok (.dup2, 1) := by decide +kernel
theorem std_Y_addNode_168 : decode stc_Y_addNode 168 = .ok (.laload, 1) := by decide +kernel
theorem std_Y_addNode_169 : decode stc_Y_addNode 169 = .ok (.aload_n 0, 1) := by decide +kernel
theorem std_Y_addNode_170 : decode stc_Y_addNode 170 = .ok (.getfield 24, 3) := by decide +kernel
theorem std_Y_addNode_173 : decode stc_Y_addNode 173 = .ok (.iload 6, 2) := by decide +kernel
theorem std_Y_addNode_175 : decode stc_Y_addNode 175 = .ok (.laload, 1) := by decide +kernel
theorem std_Y_addNode_176 : decode stc_Y_addNode 176 = .ok (.ladd, 1) := by decide +kernel
theorem std_Y_addNode_177 : decode stc_Y_addNode 177 = .ok (.lastore, 1) := by decide +kernel
theorem std_Y_addNode_178 : decode stc_Y_addNode 178 = .ok (.aload_n 0, 1) := by decide +kernel
theorem std_Y_addNode_179 : decode stc_Y_addNode 179 = .ok (.getfield 34, 3) := by decide +kernel
theorem std_Y_addNode_182 : decode stc_Y_addNode 182 = .ok (.iload_n 2, 1) := by decide +kernel
theorem std_Y_addNode_183 : decode stc_Y_addNode 183 = .ok (.iload 6, 2) := by decide +kernel
theorem std_Y_addNode_185 : decode stc_Y_addNode 185 = .ok (.iconst 1, 1) := by decide +kernel
theorem std_Y_addNode_186 : decode stc_Y_addNode 186 = .ok (.iadd, 1) := by decide +kernel
theorem std_Y_addNode_187 : decode stc_Y_addNode 187 = .ok (.iastore, 1) := by decide +kernel
theorem std_Y_addNode_188 : decode stc_Y_addNode 188 = .ok (.aload_n 0, 1) := by decide +kernel
theorem std_Y_addNode_189 : decode stc_Y_addNode 189 = .ok (.iload_n 1, 1) := by decide +kernel
theorem std_Y_addNode_190 : decode stc_Y_addNode 190 = .ok (.iload_n 2, 1) := by decide +kernel
theorem std_Y_addNode_191 : decode stc_Y_addNode 191 = .ok (.invokevirtual 83, 3) := by decide +kernel
theorem kw_2_97 : Cond.code sty_Y_skipUnfollowed stc_Y_skipUnfollowed 4 none ∈ stGW := st_t2 (List.mem_of_getElem? (i := 97) (by decide +kernel)) (by decide +kernel)
theorem kw_2_94 : Cond.methodLink "StateTables$Layers" 83 (sty_Y_skipUnfollowed) ∈ stGW := st_t2 (List.mem_of_getElem? (i := 94) (by decide +kernel)) (by decide +kernel)
theorem kw_2_96 : Cond.instanceMethod (sty_Y_skipUnfollowed) ∈ stGW := st_t2 (List.mem_of_getElem? (i := 96) (by decide +kernel)) (by decide +kernel)
theorem kw_0_3 : Cond.selects "StateTables$Layers" (sty_Y_skipUnfollowed) (sty_Y_skipUnfollowed) ∈ stGW := st_t0 (List.mem_of_getElem? (i := 3) (by decide +kernel)) (by decide +kernel)
theorem std_Y_addNode_194 : decode stc_Y_addNode 194 = .ok (.goto (-114), 3) := by decide +kernel
set_option maxHeartbeats 4000000 in
set_option maxRecDepth 100000 in
theorem c_addNode (l : Launch) (dC : Nat → ClassId) (dI : Nat → Nat → Nat) (cI cJ cZ : ClassId) (y0 : Nat) (ys : Nat) (yk : Nat) (yc : Nat) (yd : Nat) (yw : Nat) (yx : Nat) (yb : Nat) (yu : Nat) (total : Int) (t0 : Nat) (hs : Nat) (hc : Nat) (hf : Nat) (hg : Nat) (hb : Nat) (he : Nat) (hm : Nat) (steps : Int) (choices : Int) (bars : Int) (cap : Nat) (gst : Int → Int) (gk : Int → Int) (gct : Int → Int) (gwt : Int → Int) (gbe : Int → Int) (gcu : Int → Int) (fco : Int → Int) (a : Int) (b : Int) (kcap : cap ≤ 4801) (kgst : ∀ j, 0 ≤ j → j < 14 → 0 ≤ gst j ∧ gst j ≤ cap) (ka : 0 ≤ a ∧ a < 12) (kb : 0 ≤ b ∧ b < 6) (kt : gst (a + 1) ≤ total ∧ total < (cap : Int)) (kc : 0 ≤ gcu b ∧ gcu b < gst (a + 1)) (kk : ¬ (gbe ((gcu b * 6) + b)) = -1) (kbe : ∀ i, gcu b ≤ i → i < gst (a + 1) → rI (gbe ((i * 6) + b))) (kg : ∀ i, gcu b ≤ i → i < gst (a + 1) → -100000 ≤ gct i ∧ gct i ≤ 100000) (kco : ∀ j, 0 ≤ j → j < 72 → -1000 ≤ fco j ∧ fco j ≤ 1000) : ∀ sz, Met l sty_Y_addNode (Cond.code sty_Y_addNode stc_Y_addNode 7 none :: stGW) ({ frames := 2, cells := 0, slots := 0, locals := 45 } : Room) (va_Pc [.ref y0, .int (iI a), .int (iI b)] (zPre (dC, dI) stCl [(cI, .int), (cJ, .long), (cZ, .boolean)] st_nw [(y0, .inr (2, [.ref t0, .int (iI total), .ref ys, .ref yk, .ref yc, .ref yd, .ref yw, .ref yx, .ref yb, .ref yu])), (ys, .inl (cI, aI 14 gst)), (yk, .inl (cI, aI cap gk)), (yc, .inl (cI, aI cap gct)), (yw, .inl (cJ, aL cap gwt)), (yb, .inl (cI, aI (6 * cap) gbe)), (yu, .inl (cI, aI 6 gcu)), (t0, .inr (1, [.int (iI steps), .int (iI choices), .int (iI bars), .ref hs, .ref hc, .ref hf, .ref hg, .ref hb, .ref he, .ref hm])), (hc, .inl (cI, aI 72 fco))] sz)) (va_Qv (fun (u : (Int → Int) × (Int → Int) × (Int → Int) × (Int → Int)) => ANp gbe gct gwt gcu b (fco ((a * 6) + b)) (gst (a + 1)) (gbe ((gcu b * 6) + b)) total u.1 u.2.1 u.2.2.1 u.2.2.2 ∧ gcu b < u.1 b ∧ (u.1 b < gst (a + 1) → ¬ gbe ((u.1 b * 6) + b) = (gbe ((gcu b * 6) + b)))) (zPost (dC, dI) stCl [(cI, .int), (cJ, .long), (cZ, .boolean)] [(y0, .inr (2, [.ref t0, .int (iI total), .ref ys, .ref yk, .ref yc, .ref yd, .ref yw, .ref yx, .ref yb, .ref yu])), (ys, .inl (cI, aI 14 gst)), (yk, .inl (cI, aI cap gk)), (yc, .inl (cI, aI cap gct)), (yw, .inl (cJ, aL cap gwt)), (yb, .inl (cI, aI (6 * cap) gbe)), (yu, .inl (cI, aI 6 gcu)), (t0, .inr (1, [.int (iI steps), .int (iI choices), .int (iI bars), .ref hs, .ref hc, .ref hf, .ref hg, .ref hb, .ref he, .ref hm])), (hc, .inl (cI, aI 72 fco))] sz (fun u : (Int → Int) × (Int → Int) × (Int → Int) × (Int → Int) => [(y0, .inr (2, [.ref t0, .int (iI (total + 1)), .ref ys, .ref yk, .ref yc, .ref yd, .ref yw, .ref yx, .ref yb, .ref yu])), (ys, .inl (cI, aI 14 gst)), (yk, .inl (cI, aI cap (uZ gk total (gbe ((gcu b * 6) + b))))), (yc, .inl (cI, aI cap (u.2.2.1))), (yw, .inl (cJ, aL cap (u.2.2.2))), (yb, .inl (cI, aI (6 * cap) (u.2.1))), (yu, .inl (cI, aI 6 (u.1))), (t0, .inr (1, [.int (iI steps), .int (iI choices), .int (iI bars), .ref hs, .ref hc, .ref hf, .ref hg, .ref hb, .ref he, .ref hm])), (hc, .inl (cI, aI 72 fco))])) (va_A [(y0, .inr (2, [.ref t0, .int (iI total), .ref ys, .ref yk, .ref yc, .ref yd, .ref yw, .ref yx, .ref yb, .ref yu])), (ys, .inl (cI, aI 14 gst)), (yk, .inl (cI, aI cap gk)), (yc, .inl (cI, aI cap gct)), (yw, .inl (cJ, aL cap gwt)), (yb, .inl (cI, aI (6 * cap) gbe)), (yu, .inl (cI, aI 6 gcu)), (t0, .inr (1, [.int (iI steps), .int (iI choices), .int (iI bars), .ref hs, .ref hc, .ref hf, .ref hg, .ref hb, .ref he, .ref hm])), (hc, .inl (cI, aI 72 fco))] sz)) 0 0 (va_A [(y0, .inr (2, [.ref t0, .int (iI total), .ref ys, .ref yk, .ref yc, .ref yd, .ref yw, .ref yx, .ref yb, .ref yu])), (ys, .inl (cI, aI 14 gst)), (yk, .inl (cI, aI cap gk)), (yc, .inl (cI, aI cap gct)), (yw, .inl (cJ, aL cap gwt)), (yb, .inl (cI, aI (6 * cap) gbe)), (yu, .inl (cI, aI 6 gcu)), (t0, .inr (1, [.int (iI steps), .int (iI choices), .int (iI bars), .ref hs, .ref hc, .ref hf, .ref hg, .ref hb, .ref he, .ref hm])), (hc, .inl (cI, aI 72 fco))] sz) := by
  refine met_v (by decide) rfl (Nat.le_of_ble_eq_true rfl) ?_
  intro p e s m below meth c A Q C hmn hret
  have hq1 := kgst (a + 1) (by omega) (by omega)
  have hq2 := kbe (gcu b) (by omega) (by omega)
  have hq3 := kg (gcu b) (by omega) (by omega)
  have hq4 := kco ((a * 6) + b) (by omega) (by omega)
  refine g_aload_n C 0 std_Y_addNode_0 rfl ?_
  refine g_aload_n C 0 std_Y_addNode_1 rfl ?_
  refine g_get C (st_sub sti_Y) 0 rfl rfl 9 (by decide) (List.mem_cons_of_mem _ kw_1_100) rfl rfl std_Y_addNode_2 ?_
  refine g_iload_n C 2 std_Y_addNode_5 rfl ?_
  refine g_iald C 6 0 rfl rfl (by omega) (by omega) (by omega) std_Y_addNode_6 ?_
  refine g_iload_n C 2 std_Y_addNode_7 rfl ?_
  refine g_V_i (wc := [(y0, .inr (2, [.ref t0, .int (iI total), .ref ys, .ref yk, .ref yc, .ref yd, .ref yw, .ref yx, .ref yb, .ref yu])), (yb, .inl (cI, aI (6 * cap) gbe))]) (wr := [(ys, .inl (cI, aI 14 gst)), (yk, .inl (cI, aI cap gk)), (yc, .inl (cI, aI cap gct)), (yw, .inl (cJ, aL cap gwt)), (yu, .inl (cI, aI 6 gcu)), (t0, .inr (1, [.int (iI steps), .int (iI choices), .int (iI bars), .ref hs, .ref hc, .ref hf, .ref hg, .ref hb, .ref he, .ref hm])), (hc, .inl (cI, aI 72 fco))]) (rest := []) C (c_nodeBehind l dC dI cI cJ cZ y0 ys yk yc yd yw yx yb yu total t0 cap gbe (gcu b) b (kcap) (by omega)) (st_cV C kw_2_101 kw_2_98 kw_1_3 kw_2_99 kw_2_100 sth_Y_nodeBehind ⟨Nat.le_of_ble_eq_true rfl, Nat.le_of_ble_eq_true rfl⟩) 0 rfl rfl rfl rfl (Nat.le_of_ble_eq_true rfl) std_Y_addNode_8 ⟨Nat.le_of_ble_eq_true rfl, Nat.le_of_ble_eq_true rfl⟩ [0, 5] [1, 2, 3, 4, 6, 7, 8] rfl rfl rfl rfl (by decide) (fun r1 u2 h3 => ?_)
  subst h3
  refine g_ws (ws' := [(ys, .inl (cI, aI 14 gst)), (yk, .inl (cI, aI cap gk)), (yc, .inl (cI, aI cap gct)), (yw, .inl (cJ, aL cap gwt)), (yu, .inl (cI, aI 6 gcu)), (t0, .inr (1, [.int (iI steps), .int (iI choices), .int (iI bars), .ref hs, .ref hc, .ref hf, .ref hg, .ref hb, .ref he, .ref hm])), (hc, .inl (cI, aI 72 fco)), (y0, .inr (2, [.ref t0, .int (iI total), .ref ys, .ref yk, .ref yc, .ref yd, .ref yw, .ref yx, .ref yb, .ref yu])), (yb, .inl (cI, aI (6 * cap) gbe))]) rfl ?_
  refine g_istore_n C (lv' := [(3, .int (iI (gbe (((gcu b) * 6) + b)))), (0, .ref y0), (1, .int (iI a)), (2, .int (iI b))]) std_Y_addNode_11 (by decide) rfl ?_
  refine g_aload_n C 1 std_Y_addNode_12 rfl ?_
  refine g_get C (st_sub sti_Y) 7 rfl rfl 0 (by decide) (List.mem_cons_of_mem _ kw_1_83) rfl rfl std_Y_addNode_13 ?_
  refine g_get C (st_sub sti_T) 5 rfl rfl 4 (by decide) (List.mem_cons_of_mem _ kw_1_41) rfl rfl std_Y_addNode_16 ?_
  refine g_iload_n C 2 std_Y_addNode_19 rfl ?_
  refine g_iload_n C 3 std_Y_addNode_20 rfl ?_
  refine g_SN_i (wc := []) (wr := [(ys, .inl (cI, aI 14 gst)), (yk, .inl (cI, aI cap gk)), (yc, .inl (cI, aI cap gct)), (yw, .inl (cJ, aL cap gwt)), (yu, .inl (cI, aI 6 gcu)), (t0, .inr (1, [.int (iI steps), .int (iI choices), .int (iI bars), .ref hs, .ref hc, .ref hf, .ref hg, .ref hb, .ref he, .ref hm])), (hc, .inl (cI, aI 72 fco)), (y0, .inr (2, [.ref t0, .int (iI total), .ref ys, .ref yk, .ref yc, .ref yd, .ref yw, .ref yx, .ref yb, .ref yu])), (yb, .inl (cI, aI (6 * cap) gbe))]) (rest := [.ref hc]) C (c_placeOf l dC dI cI cJ cZ a b ) (st_cSN C kw_1_235 (List.mem_of_getElem? (i := 3) rfl) kw_1_1 kw_1_234 sth_S_placeOf ⟨Nat.le_of_ble_eq_true rfl, Nat.le_of_ble_eq_true rfl⟩) rfl rfl (Nat.le_of_ble_eq_true rfl) std_Y_addNode_21 ⟨Nat.le_of_ble_eq_true rfl, Nat.le_of_ble_eq_true rfl⟩ [] [0, 1, 2, 3, 4, 5, 6, 7, 8] rfl rfl rfl rfl (by decide) (fun r4 u5 h6 => ?_)
  subst h6
  refine g_ws (ws' := [(ys, .inl (cI, aI 14 gst)), (yk, .inl (cI, aI cap gk)), (yc, .inl (cI, aI cap gct)), (yw, .inl (cJ, aL cap gwt)), (yu, .inl (cI, aI 6 gcu)), (t0, .inr (1, [.int (iI steps), .int (iI choices), .int (iI bars), .ref hs, .ref hc, .ref hf, .ref hg, .ref hb, .ref he, .ref hm])), (hc, .inl (cI, aI 72 fco)), (y0, .inr (2, [.ref t0, .int (iI total), .ref ys, .ref yk, .ref yc, .ref yd, .ref yw, .ref yx, .ref yb, .ref yu])), (yb, .inl (cI, aI (6 * cap) gbe))]) rfl ?_
  refine g_iald C 6 0 rfl rfl (by omega) (by omega) (by omega) std_Y_addNode_24 ?_
  refine g_istore C (lv' := [(4, .int (iI (fco ((a * 6) + b)))), (3, .int (iI (gbe (((gcu b) * 6) + b)))), (0, .ref y0), (1, .int (iI a)), (2, .int (iI b))]) std_Y_addNode_25 (by decide) rfl ?_
  refine g_aload_n C 2 std_Y_addNode_27 rfl ?_
  refine g_get C (st_sub sti_Y) 7 rfl rfl 1 (by decide) (List.mem_cons_of_mem _ kw_1_85) rfl rfl std_Y_addNode_28 ?_
  refine g_istore C (lv' := [(5, .int (iI total)), (4, .int (iI (fco ((a * 6) + b)))), (3, .int (iI (gbe (((gcu b) * 6) + b)))), (0, .ref y0), (1, .int (iI a)), (2, .int (iI b))]) std_Y_addNode_31 (by decide) rfl ?_
  refine g_aload_n C 3 std_Y_addNode_33 rfl ?_
  refine g_dup C std_Y_addNode_34 rfl ?_
  refine g_get C (st_sub sti_Y) 7 rfl rfl 1 (by decide) (List.mem_cons_of_mem _ kw_1_85) rfl rfl std_Y_addNode_35 ?_
  refine g_iconst C std_Y_addNode_38 ?_
  refine g_iadd C std_Y_addNode_39 ?_
  refine g_put C (ws' := [(ys, .inl (cI, aI 14 gst)), (yk, .inl (cI, aI cap gk)), (yc, .inl (cI, aI cap gct)), (yw, .inl (cJ, aL cap gwt)), (yu, .inl (cI, aI 6 gcu)), (t0, .inr (1, [.int (iI steps), .int (iI choices), .int (iI bars), .ref hs, .ref hc, .ref hf, .ref hg, .ref hb, .ref he, .ref hm])), (hc, .inl (cI, aI 72 fco)), (y0, .inr (2, [.ref t0, .int (iI (total + 1)), .ref ys, .ref yk, .ref yc, .ref yd, .ref yw, .ref yx, .ref yb, .ref yu])), (yb, .inl (cI, aI (6 * cap) gbe))]) (st_sub sti_Y) stt_Y sto_Y stn_Y 7 rfl rfl 1 (by decide) (List.mem_cons_of_mem _ kw_1_85) rfl rfl rfl rfl (Nat.le_of_ble_eq_true rfl) std_Y_addNode_40 rfl ?_
  refine g_aload_n C 3 std_Y_addNode_43 rfl ?_
  refine g_get C (st_sub sti_Y) 7 rfl rfl 3 (by decide) (List.mem_cons_of_mem _ kw_1_88) rfl rfl std_Y_addNode_44 ?_
  refine g_iload C 0 std_Y_addNode_47 rfl ?_
  refine g_iload_n C 2 std_Y_addNode_49 rfl ?_
  refine g_iast C (ws' := [(ys, .inl (cI, aI 14 gst)), (yk, .inl (cI, aI cap (uZ gk total (gbe (((gcu b) * 6) + b))))), (yc, .inl (cI, aI cap gct)), (yw, .inl (cJ, aL cap gwt)), (yu, .inl (cI, aI 6 gcu)), (t0, .inr (1, [.int (iI steps), .int (iI choices), .int (iI bars), .ref hs, .ref hc, .ref hf, .ref hg, .ref hb, .ref he, .ref hm])), (hc, .inl (cI, aI 72 fco)), (y0, .inr (2, [.ref t0, .int (iI (total + 1)), .ref ys, .ref yk, .ref yc, .ref yd, .ref yw, .ref yx, .ref yb, .ref yu])), (yb, .inl (cI, aI (6 * cap) gbe))]) 1 0 rfl rfl (by omega) (by omega) (by omega) std_Y_addNode_50 rfl ?_
  refine g_aload_n C 3 std_Y_addNode_51 rfl ?_
  refine g_get C (st_sub sti_Y) 7 rfl rfl 4 (by decide) (List.mem_cons_of_mem _ kw_1_90) rfl rfl std_Y_addNode_52 ?_
  refine g_iload C 0 std_Y_addNode_55 rfl ?_
  refine g_aload_n C 3 std_Y_addNode_57 rfl ?_
  refine g_get C (st_sub sti_Y) 7 rfl rfl 4 (by decide) (List.mem_cons_of_mem _ kw_1_90) rfl rfl std_Y_addNode_58 ?_
  refine g_aload_n C 3 std_Y_addNode_61 rfl ?_
  refine g_get C (st_sub sti_Y) 7 rfl rfl 9 (by decide) (List.mem_cons_of_mem _ kw_1_100) rfl rfl std_Y_addNode_62 ?_
  refine g_iload_n C 5 std_Y_addNode_65 rfl ?_
  refine g_iald C 4 0 rfl rfl (by omega) (by omega) (by omega) std_Y_addNode_66 ?_
  refine g_iald C 2 0 rfl rfl (by omega) (by omega) (by omega) std_Y_addNode_67 ?_
  refine g_iload C 1 std_Y_addNode_68 rfl ?_
  refine g_iadd C std_Y_addNode_70 ?_
  refine g_iast C (ws' := [(ys, .inl (cI, aI 14 gst)), (yk, .inl (cI, aI cap (uZ gk total (gbe (((gcu b) * 6) + b))))), (yc, .inl (cI, aI cap (uZ gct total ((gct (gcu b)) + (fco ((a * 6) + b)))))), (yw, .inl (cJ, aL cap gwt)), (yu, .inl (cI, aI 6 gcu)), (t0, .inr (1, [.int (iI steps), .int (iI choices), .int (iI bars), .ref hs, .ref hc, .ref hf, .ref hg, .ref hb, .ref he, .ref hm])), (hc, .inl (cI, aI 72 fco)), (y0, .inr (2, [.ref t0, .int (iI (total + 1)), .ref ys, .ref yk, .ref yc, .ref yd, .ref yw, .ref yx, .ref yb, .ref yu])), (yb, .inl (cI, aI (6 * cap) gbe))]) 2 0 rfl rfl (by omega) (by omega) (by omega) std_Y_addNode_71 rfl ?_
  refine g_aload_n C 3 std_Y_addNode_72 rfl ?_
  refine g_get C (st_sub sti_Y) 7 rfl rfl 6 (by decide) (List.mem_cons_of_mem _ kw_1_94) rfl rfl std_Y_addNode_73 ?_
  refine g_iload C 0 std_Y_addNode_76 rfl ?_
  refine g_lconst C (z := 0) std_Y_addNode_78 (by decide) ?_
  refine g_last C (ws' := [(ys, .inl (cI, aI 14 gst)), (yk, .inl (cI, aI cap (uZ gk total (gbe (((gcu b) * 6) + b))))), (yc, .inl (cI, aI cap (uZ gct total ((gct (gcu b)) + (fco ((a * 6) + b)))))), (yw, .inl (cJ, aL cap (uZ gwt total 0))), (yu, .inl (cI, aI 6 gcu)), (t0, .inr (1, [.int (iI steps), .int (iI choices), .int (iI bars), .ref hs, .ref hc, .ref hf, .ref hg, .ref hb, .ref he, .ref hm])), (hc, .inl (cI, aI 72 fco)), (y0, .inr (2, [.ref t0, .int (iI (total + 1)), .ref ys, .ref yk, .ref yc, .ref yd, .ref yw, .ref yx, .ref yb, .ref yu])), (yb, .inl (cI, aI (6 * cap) gbe))]) 3 1 rfl rfl (by omega) (by omega) (by omega) std_Y_addNode_79 rfl ?_
  have L80 : ∀ (nn80 : Nat) (CU : Int → Int) (F : Int → Int) (GC : Int → Int) (GW : Int → Int), ANp gbe gct gwt gcu b (fco ((a * 6) + b)) (gst (a + 1)) (gbe ((gcu b * 6) + b)) total CU F GC GW → (gst (a + 1) - CU b) < (nn80 : Int) → G p l e ({ frames := 2, cells := 0, slots := 0, locals := 45 } : Room) s m ([.ref y0, .int (iI a), .int (iI b)] : List Value).toArray below meth c (dC, dI) stCl 7 A 0 0 Q [(y0, .inr (2, [.ref t0, .int (iI (total + 1)), .ref ys, .ref yk, .ref yc, .ref yd, .ref yw, .ref yx, .ref yb, .ref yu])), (ys, .inl (cI, aI 14 gst)), (yk, .inl (cI, aI cap (uZ gk total (gbe (((gcu b) * 6) + b))))), (yc, .inl (cI, aI cap GC)), (yw, .inl (cJ, aL cap GW)), (yb, .inl (cI, aI (6 * cap) F)), (yu, .inl (cI, aI 6 CU)), (t0, .inr (1, [.int (iI steps), .int (iI choices), .int (iI bars), .ref hs, .ref hc, .ref hf, .ref hg, .ref hb, .ref he, .ref hm])), (hc, .inl (cI, aI 72 fco))] 80 [(5, .int (iI total)), (4, .int (iI (fco ((a * 6) + b)))), (3, .int (iI (gbe (((gcu b) * 6) + b)))), (0, .ref y0), (1, .int (iI a)), (2, .int (iI b))] [] := by
    intro nn80
    induction nn80 with
    | zero =>
      intro CU F GC GW kA hnn80
      exact absurd hnn80 (by have h2 := kA.2.1; omega)
    | succ nn80 ih80 =>
      intro CU F GC GW kA hnn80
      have hA2 := kA.2.1
      have hA5 := kA.2.2.2.2.1 ((CU b * 6) + b) (fun i h1 h2 => by omega)
      have hA6 := kA.2.2.2.2.2.1.2.2
      refine g_aload_n C 3 std_Y_addNode_80 rfl ?_
      refine g_get C (st_sub sti_Y) 0 rfl rfl 9 (by decide) (List.mem_cons_of_mem _ kw_1_100) rfl rfl std_Y_addNode_81 ?_
      refine g_iload_n C 5 std_Y_addNode_84 rfl ?_
      refine g_iald C 6 0 rfl rfl (by omega) (by omega) (by omega) std_Y_addNode_85 ?_
      refine g_aload_n C 3 std_Y_addNode_86 rfl ?_
      refine g_get C (st_sub sti_Y) 0 rfl rfl 2 (by decide) (List.mem_cons_of_mem _ kw_1_86) rfl rfl std_Y_addNode_87 ?_
      refine g_iload_n C 4 std_Y_addNode_90 rfl ?_
      refine g_iconst C std_Y_addNode_91 ?_
      refine g_iadd C std_Y_addNode_92 ?_
      refine g_iald C 1 0 rfl rfl (by omega) (by omega) (by omega) std_Y_addNode_93 ?_
      refine g_icmp_ge (tgt := 197) C std_Y_addNode_94 (by decide) ⟨by omega, by omega⟩ ⟨by omega, by omega⟩ (fun c7 => ?_) (fun c7 => ?_)
      · exact hret _ _ (CU, F, GC, GW) (⟨kA, by show gcu b < CU b; omega, fun h => absurd h (by show ¬ CU b < _; omega)⟩) std_Y_addNode_197
      · have hq5 := kbe (CU b) (by omega) (by omega)
        refine g_aload_n C 3 std_Y_addNode_97 rfl ?_
        refine g_aload_n C 3 std_Y_addNode_98 rfl ?_
        refine g_get C (st_sub sti_Y) 0 rfl rfl 9 (by decide) (List.mem_cons_of_mem _ kw_1_100) rfl rfl std_Y_addNode_99 ?_
        refine g_iload_n C 5 std_Y_addNode_102 rfl ?_
        refine g_iald C 6 0 rfl rfl (by omega) (by omega) (by omega) std_Y_addNode_103 ?_
        refine g_iload_n C 5 std_Y_addNode_104 rfl ?_
        refine g_V_i (wc := [(y0, .inr (2, [.ref t0, .int (iI (total + 1)), .ref ys, .ref yk, .ref yc, .ref yd, .ref yw, .ref yx, .ref yb, .ref yu])), (yb, .inl (cI, aI (6 * cap) F))]) (wr := [(ys, .inl (cI, aI 14 gst)), (yk, .inl (cI, aI cap (uZ gk total (gbe (((gcu b) * 6) + b))))), (yc, .inl (cI, aI cap GC)), (yw, .inl (cJ, aL cap GW)), (yu, .inl (cI, aI 6 CU)), (t0, .inr (1, [.int (iI steps), .int (iI choices), .int (iI bars), .ref hs, .ref hc, .ref hf, .ref hg, .ref hb, .ref he, .ref hm])), (hc, .inl (cI, aI 72 fco))]) (rest := []) C (c_nodeBehind l dC dI cI cJ cZ y0 ys yk yc yd yw yx yb yu (total + 1) t0 cap F (CU b) b (kcap) (by omega)) (st_cV C kw_2_101 kw_2_98 kw_1_3 kw_2_99 kw_2_100 sth_Y_nodeBehind ⟨Nat.le_of_ble_eq_true rfl, Nat.le_of_ble_eq_true rfl⟩) 0 rfl rfl rfl rfl (Nat.le_of_ble_eq_true rfl) std_Y_addNode_105 ⟨Nat.le_of_ble_eq_true rfl, Nat.le_of_ble_eq_true rfl⟩ [0, 5] [1, 2, 3, 4, 6, 7, 8] rfl rfl rfl rfl (by decide) (fun r8 u9 h10 => ?_)
        subst h10
        refine g_ws (ws' := [(ys, .inl (cI, aI 14 gst)), (yk, .inl (cI, aI cap (uZ gk total (gbe (((gcu b) * 6) + b))))), (yc, .inl (cI, aI cap GC)), (yw, .inl (cJ, aL cap GW)), (yu, .inl (cI, aI 6 CU)), (t0, .inr (1, [.int (iI steps), .int (iI choices), .int (iI bars), .ref hs, .ref hc, .ref hf, .ref hg, .ref hb, .ref he, .ref hm])), (hc, .inl (cI, aI 72 fco)), (y0, .inr (2, [.ref t0, .int (iI (total + 1)), .ref ys, .ref yk, .ref yc, .ref yd, .ref yw, .ref yx, .ref yb, .ref yu])), (yb, .inl (cI, aI (6 * cap) F))]) rfl ?_
        refine g_iload_n C 2 std_Y_addNode_108 rfl ?_
        refine g_icmp_ne (tgt := 197) C std_Y_addNode_109 (by decide) ⟨by omega, by omega⟩ ⟨by omega, by omega⟩ (fun c11 => ?_) (fun c11 => ?_)
        · refine g_sub (ws' := [(y0, .inr (2, [.ref t0, .int (iI (total + 1)), .ref ys, .ref yk, .ref yc, .ref yd, .ref yw, .ref yx, .ref yb, .ref yu])), (ys, .inl (cI, aI 14 gst)), (yk, .inl (cI, aI cap (uZ gk total (gbe (((gcu b) * 6) + b))))), (yc, .inl (cI, aI cap GC)), (yw, .inl (cJ, aL cap GW)), (yb, .inl (cI, aI (6 * cap) F)), (yu, .inl (cI, aI 6 CU)), (t0, .inr (1, [.int (iI steps), .int (iI choices), .int (iI bars), .ref hs, .ref hc, .ref hf, .ref hg, .ref hb, .ref he, .ref hm])), (hc, .inl (cI, aI 72 fco))]) [7, 0, 1, 2, 3, 8, 4, 5, 6] rfl rfl ?_
          refine g_wide (k := 0) (n := 0) (Nat.le_of_ble_eq_true rfl) (Nat.le_of_ble_eq_true rfl) ?_
          exact hret _ _ (CU, F, GC, GW) (⟨kA, an_gt kA c11, fun _ h => c11 (hA5.trans h)⟩) std_Y_addNode_197
        · have hq6 := kg (CU b) (by omega) (by omega)
          have hq7 := kA.2.2.2.2.2.1.1 (CU b) (by omega)
          refine g_aload_n C 3 std_Y_addNode_112 rfl ?_
          refine g_get C (st_sub sti_Y) 7 rfl rfl 9 (by decide) (List.mem_cons_of_mem _ kw_1_100) rfl rfl std_Y_addNode_113 ?_
          refine g_iload_n C 5 std_Y_addNode_116 rfl ?_
          refine g_iald C 4 0 rfl rfl (by omega) (by omega) (by omega) std_Y_addNode_117 ?_
          refine g_istore C (lv' := [(6, .int (iI (CU b))), (5, .int (iI total)), (4, .int (iI (fco ((a * 6) + b)))), (3, .int (iI (gbe (((gcu b) * 6) + b)))), (0, .ref y0), (1, .int (iI a)), (2, .int (iI b))]) std_Y_addNode_118 (by decide) rfl ?_
          refine g_aload_n C 4 std_Y_addNode_120 rfl ?_
          refine g_get C (st_sub sti_Y) 7 rfl rfl 8 (by decide) (List.mem_cons_of_mem _ kw_1_99) rfl rfl std_Y_addNode_121 ?_
          refine g_iload C 0 std_Y_addNode_124 rfl ?_
          refine g_bipush C std_Y_addNode_126 (by decide) ?_
          refine g_imul C std_Y_addNode_128 ?_
          refine g_iload_n C 6 std_Y_addNode_129 rfl ?_
          refine g_iadd C std_Y_addNode_130 ?_
          refine g_iload C 1 std_Y_addNode_131 rfl ?_
          refine g_iast C (ws' := [(ys, .inl (cI, aI 14 gst)), (yk, .inl (cI, aI cap (uZ gk total (gbe (((gcu b) * 6) + b))))), (yc, .inl (cI, aI cap GC)), (yw, .inl (cJ, aL cap GW)), (yu, .inl (cI, aI 6 CU)), (t0, .inr (1, [.int (iI steps), .int (iI choices), .int (iI bars), .ref hs, .ref hc, .ref hf, .ref hg, .ref hb, .ref he, .ref hm])), (hc, .inl (cI, aI 72 fco)), (y0, .inr (2, [.ref t0, .int (iI (total + 1)), .ref ys, .ref yk, .ref yc, .ref yd, .ref yw, .ref yx, .ref yb, .ref yu])), (yb, .inl (cI, aI (6 * cap) (uZ F (((CU b) * 6) + b) total)))]) 8 0 rfl rfl (by omega) (by omega) (by omega) std_Y_addNode_133 rfl ?_
          refine g_aload_n C 4 std_Y_addNode_134 rfl ?_
          refine g_get C (st_sub sti_Y) 7 rfl rfl 4 (by decide) (List.mem_cons_of_mem _ kw_1_90) rfl rfl std_Y_addNode_135 ?_
          refine g_iload C 1 std_Y_addNode_138 rfl ?_
          refine g_aload_n C 4 std_Y_addNode_140 rfl ?_
          refine g_get C (st_sub sti_Y) 7 rfl rfl 4 (by decide) (List.mem_cons_of_mem _ kw_1_90) rfl rfl std_Y_addNode_141 ?_
          refine g_iload C 1 std_Y_addNode_144 rfl ?_
          refine g_iald C 2 0 rfl rfl (by omega) (by omega) (by omega) std_Y_addNode_146 ?_
          refine g_aload_n C 4 std_Y_addNode_147 rfl ?_
          refine g_get C (st_sub sti_Y) 7 rfl rfl 4 (by decide) (List.mem_cons_of_mem _ kw_1_90) rfl rfl std_Y_addNode_148 ?_
          refine g_iload C 0 std_Y_addNode_151 rfl ?_
          refine g_iald C 2 0 rfl rfl (by omega) (by omega) (by omega) std_Y_addNode_153 ?_
          refine g_iload C 2 std_Y_addNode_154 rfl ?_
          refine g_iadd C std_Y_addNode_156 ?_
          refine g_min C ⟨by omega, by omega⟩ ⟨by omega, by omega⟩ (List.mem_cons_of_mem _ kw_2_44) (List.mem_cons_of_mem _ kw_2_45) (List.mem_cons_of_mem _ kw_1_7) (List.mem_cons_of_mem _ kw_2_46) (Nat.le_of_ble_eq_true rfl) (Nat.le_of_ble_eq_true rfl) (Nat.le_of_ble_eq_true rfl) (Nat.le_of_ble_eq_true rfl) std_Y_addNode_157 ?_
          refine g_iast C (ws' := [(ys, .inl (cI, aI 14 gst)), (yk, .inl (cI, aI cap (uZ gk total (gbe (((gcu b) * 6) + b))))), (yc, .inl (cI, aI cap (uZ GC total (min (GC total) ((GC (CU b)) + (fco ((a * 6) + b))))))), (yw, .inl (cJ, aL cap GW)), (yu, .inl (cI, aI 6 CU)), (t0, .inr (1, [.int (iI steps), .int (iI choices), .int (iI bars), .ref hs, .ref hc, .ref hf, .ref hg, .ref hb, .ref he, .ref hm])), (hc, .inl (cI, aI 72 fco)), (y0, .inr (2, [.ref t0, .int (iI (total + 1)), .ref ys, .ref yk, .ref yc, .ref yd, .ref yw, .ref yx, .ref yb, .ref yu])), (yb, .inl (cI, aI (6 * cap) (uZ F (((CU b) * 6) + b) total)))]) 2 0 rfl rfl (by omega) (by omega) (by omega) std_Y_addNode_160 rfl ?_
          refine g_aload_n C 4 std_Y_addNode_161 rfl ?_
          refine g_get C (st_sub sti_Y) 7 rfl rfl 6 (by decide) (List.mem_cons_of_mem _ kw_1_94) rfl rfl std_Y_addNode_162 ?_
          refine g_iload C 1 std_Y_addNode_165 rfl ?_
          refine g_dup2 C std_Y_addNode_167 rfl rfl ?_
          refine g_lald C 3 1 rfl rfl (by omega) (by omega) (by omega) std_Y_addNode_168 ?_
          refine g_aload_n C 4 std_Y_addNode_169 rfl ?_
          refine g_get C (st_sub sti_Y) 7 rfl rfl 6 (by decide) (List.mem_cons_of_mem _ kw_1_94) rfl rfl std_Y_addNode_170 ?_
          refine g_iload C 0 std_Y_addNode_173 rfl ?_
          refine g_lald C 3 1 rfl rfl (by omega) (by omega) (by omega) std_Y_addNode_175 ?_
          refine g_ladd C std_Y_addNode_176 ?_
          refine g_last C (ws' := [(ys, .inl (cI, aI 14 gst)), (yk, .inl (cI, aI cap (uZ gk total (gbe (((gcu b) * 6) + b))))), (yc, .inl (cI, aI cap (uZ GC total (min (GC total) ((GC (CU b)) + (fco ((a * 6) + b))))))), (yw, .inl (cJ, aL cap (uZ GW total ((GW total) + (GW (CU b)))))), (yu, .inl (cI, aI 6 CU)), (t0, .inr (1, [.int (iI steps), .int (iI choices), .int (iI bars), .ref hs, .ref hc, .ref hf, .ref hg, .ref hb, .ref he, .ref hm])), (hc, .inl (cI, aI 72 fco)), (y0, .inr (2, [.ref t0, .int (iI (total + 1)), .ref ys, .ref yk, .ref yc, .ref yd, .ref yw, .ref yx, .ref yb, .ref yu])), (yb, .inl (cI, aI (6 * cap) (uZ F (((CU b) * 6) + b) total)))]) 3 1 rfl rfl (by omega) (by omega) (by omega) std_Y_addNode_177 rfl ?_
          refine g_aload_n C 4 std_Y_addNode_178 rfl ?_
          refine g_get C (st_sub sti_Y) 7 rfl rfl 9 (by decide) (List.mem_cons_of_mem _ kw_1_100) rfl rfl std_Y_addNode_179 ?_
          refine g_iload_n C 6 std_Y_addNode_182 rfl ?_
          refine g_iload C 0 std_Y_addNode_183 rfl ?_
          refine g_iconst C std_Y_addNode_185 ?_
          refine g_iadd C std_Y_addNode_186 ?_
          refine g_iast C (ws' := [(ys, .inl (cI, aI 14 gst)), (yk, .inl (cI, aI cap (uZ gk total (gbe (((gcu b) * 6) + b))))), (yc, .inl (cI, aI cap (uZ GC total (min (GC total) ((GC (CU b)) + (fco ((a * 6) + b))))))), (yw, .inl (cJ, aL cap (uZ GW total ((GW total) + (GW (CU b)))))), (yu, .inl (cI, aI 6 (uZ CU b ((CU b) + 1)))), (t0, .inr (1, [.int (iI steps), .int (iI choices), .int (iI bars), .ref hs, .ref hc, .ref hf, .ref hg, .ref hb, .ref he, .ref hm])), (hc, .inl (cI, aI 72 fco)), (y0, .inr (2, [.ref t0, .int (iI (total + 1)), .ref ys, .ref yk, .ref yc, .ref yd, .ref yw, .ref yx, .ref yb, .ref yu])), (yb, .inl (cI, aI (6 * cap) (uZ F (((CU b) * 6) + b) total)))]) 4 0 rfl rfl (by omega) (by omega) (by omega) std_Y_addNode_187 rfl ?_
          refine g_aload_n C 4 std_Y_addNode_188 rfl ?_
          refine g_iload_n C 5 std_Y_addNode_189 rfl ?_
          refine g_iload_n C 6 std_Y_addNode_190 rfl ?_
          refine g_V_v (wc := [(y0, .inr (2, [.ref t0, .int (iI (total + 1)), .ref ys, .ref yk, .ref yc, .ref yd, .ref yw, .ref yx, .ref yb, .ref yu])), (ys, .inl (cI, aI 14 gst)), (yb, .inl (cI, aI (6 * cap) (uZ F (((CU b) * 6) + b) total))), (yu, .inl (cI, aI 6 (uZ CU b ((CU b) + 1))))]) (wr := [(yk, .inl (cI, aI cap (uZ gk total (gbe (((gcu b) * 6) + b))))), (yc, .inl (cI, aI cap (uZ GC total (min (GC total) ((GC (CU b)) + (fco ((a * 6) + b))))))), (yw, .inl (cJ, aL cap (uZ GW total ((GW total) + (GW (CU b)))))), (t0, .inr (1, [.int (iI steps), .int (iI choices), .int (iI bars), .ref hs, .ref hc, .ref hf, .ref hg, .ref hb, .ref he, .ref hm])), (hc, .inl (cI, aI 72 fco))]) (rest := []) C (c_skipUnfollowed l dC dI cI cJ cZ y0 ys yk yc yd yw yx yb yu (total + 1) t0 cap gst (uZ F (((CU b) * 6) + b) total) (uZ CU b ((CU b) + 1)) a b (kcap) (kgst) (by omega) (by omega) (by rw [uZ_s]; omega) (an_be kA kbe)) (st_cV C kw_2_97 kw_2_94 kw_1_3 kw_2_96 kw_0_3 sth_Y_skipUnfollowed ⟨Nat.le_of_ble_eq_true rfl, Nat.le_of_ble_eq_true rfl⟩) 0 rfl rfl rfl rfl (Nat.le_of_ble_eq_true rfl) std_Y_addNode_191 ⟨Nat.le_of_ble_eq_true rfl, Nat.le_of_ble_eq_true rfl⟩ [7, 0, 8, 4] [1, 2, 3, 5, 6] rfl rfl rfl rfl (by decide) (fun u13 h14 => ?_)
          refine g_ws (ws' := [(yk, .inl (cI, aI cap (uZ gk total (gbe (((gcu b) * 6) + b))))), (yc, .inl (cI, aI cap (uZ GC total (min (GC total) ((GC (CU b)) + (fco ((a * 6) + b))))))), (yw, .inl (cJ, aL cap (uZ GW total ((GW total) + (GW (CU b)))))), (t0, .inr (1, [.int (iI steps), .int (iI choices), .int (iI bars), .ref hs, .ref hc, .ref hf, .ref hg, .ref hb, .ref he, .ref hm])), (hc, .inl (cI, aI 72 fco)), (y0, .inr (2, [.ref t0, .int (iI (total + 1)), .ref ys, .ref yk, .ref yc, .ref yd, .ref yw, .ref yx, .ref yb, .ref yu])), (ys, .inl (cI, aI 14 gst)), (yb, .inl (cI, aI (6 * cap) (uZ F (((CU b) * 6) + b) total))), (yu, .inl (cI, aI 6 u13))]) rfl ?_
          refine g_goto (tgt := 80) C std_Y_addNode_194 (by decide) ?_
          refine g_sub (ws' := [(y0, .inr (2, [.ref t0, .int (iI (total + 1)), .ref ys, .ref yk, .ref yc, .ref yd, .ref yw, .ref yx, .ref yb, .ref yu])), (ys, .inl (cI, aI 14 gst)), (yk, .inl (cI, aI cap (uZ gk total (gbe (((gcu b) * 6) + b))))), (yc, .inl (cI, aI cap (uZ GC total (min (GC total) ((GC (CU b)) + (fco ((a * 6) + b))))))), (yw, .inl (cJ, aL cap (uZ GW total ((GW total) + (GW (CU b)))))), (yb, .inl (cI, aI (6 * cap) (uZ F (((CU b) * 6) + b) total))), (yu, .inl (cI, aI 6 u13)), (t0, .inr (1, [.int (iI steps), .int (iI choices), .int (iI bars), .ref hs, .ref hc, .ref hf, .ref hg, .ref hb, .ref he, .ref hm])), (hc, .inl (cI, aI 72 fco))]) [5, 6, 0, 1, 2, 7, 8, 3, 4] rfl rfl ?_
          refine g_lv (lv' := [(5, .int (iI total)), (4, .int (iI (fco ((a * 6) + b)))), (3, .int (iI (gbe (((gcu b) * 6) + b)))), (0, .ref y0), (1, .int (iI a)), (2, .int (iI b))]) [1, 2, 3, 4, 5, 6] rfl ?_
          refine g_wide (k := 0) (n := 0) (Nat.le_of_ble_eq_true rfl) (Nat.le_of_ble_eq_true rfl) ?_
          exact ih80 u13 (uZ F (((CU b) * 6) + b) total) (uZ GC total (min (GC total) ((GC (CU b)) + (fco ((a * 6) + b))))) (uZ GW total ((GW total) + (GW (CU b)))) (an_step kA (by omega) (by omega) (by omega) (by omega) (by omega) h14.1 h14.2.1 h14.2.2.1 h14.2.2.2) (by have hz := h14.2.1; rw [uZ_s] at hz; omega)
  refine g_sub (ws' := [(y0, .inr (2, [.ref t0, .int (iI (total + 1)), .ref ys, .ref yk, .ref yc, .ref yd, .ref yw, .ref yx, .ref yb, .ref yu])), (ys, .inl (cI, aI 14 gst)), (yk, .inl (cI, aI cap (uZ gk total (gbe (((gcu b) * 6) + b))))), (yc, .inl (cI, aI cap (uZ gct total ((gct (gcu b)) + (fco ((a * 6) + b)))))), (yw, .inl (cJ, aL cap (uZ gwt total 0))), (yb, .inl (cI, aI (6 * cap) gbe)), (yu, .inl (cI, aI 6 gcu)), (t0, .inr (1, [.int (iI steps), .int (iI choices), .int (iI bars), .ref hs, .ref hc, .ref hf, .ref hg, .ref hb, .ref he, .ref hm])), (hc, .inl (cI, aI 72 fco))]) [7, 0, 1, 2, 3, 8, 4, 5, 6] rfl rfl ?_
  refine g_wide (k := 0) (n := 0) (Nat.le_of_ble_eq_true rfl) (Nat.le_of_ble_eq_true rfl) ?_
  obtain ⟨nn0, hnn0⟩ : ∃ nn0 : Nat, (gst (a + 1) - gcu b) < (nn0 : Int) := z_nat _
  exact L80 nn0 gcu gbe (uZ gct total ((gct (gcu b)) + (fco ((a * 6) + b)))) (uZ gwt total 0) (an_0 (by omega) (by omega) (by omega)) hnn0
end
section
/-! Arrays.copyOf, Layers.growTo -/
abbrev sty_A_copyOfI : MethodName := ⟨"java/util/Arrays", "copyOf", "([II)[I"⟩
abbrev stc_A_copyOfI : ByteArray := prog_11_method_123_code
theorem sth_A_copyOfI : (sty_A_copyOfI).cls ≠ "java/lang/invoke/MethodHandle" ∧ (sty_A_copyOfI).cls ≠ "java/lang/invoke/VarHandle" ∧ (parseMethodDescriptor (sty_A_copyOfI).desc).map (fun d => d.parameters.length) = some 2 := by decide +kernel
theorem std_A_copyOfI_0 : decode stc_A_copyOfI 0 = .ok (.iload_n 1, 1) := by decide +kernel
theorem std_A_copyOfI_1 : decode stc_A_copyOfI 1 = .ok (.aload_n 0, 1) := by decide +kernel
theorem std_A_copyOfI_2 : decode stc_A_copyOfI 2 = .ok (.arraylength, 1) := by decide +kernel
theorem std_A_copyOfI_3 : decode stc_A_copyOfI 3 = .ok (.if_icmp .ne 11, 3) := by decide +kernel
theorem std_A_copyOfI_14 : decode stc_A_copyOfI 14 = .ok (.iload_n 1, 1) := by decide +kernel
theorem std_A_copyOfI_15 : decode stc_A_copyOfI 15 = .ok (.newarray .int, 2) := by decide +kernel
theorem kw_1_76 : Cond.arrayClass Jvm.ClassFile.FieldType.int ∈ stGW := st_t1 (List.mem_of_getElem? (i := 76) (by decide +kernel)) (by decide +kernel)
theorem std_A_copyOfI_17 : decode stc_A_copyOfI 17 = .ok (.astore_n 2, 1) := by decide +kernel
theorem std_A_copyOfI_18 : decode stc_A_copyOfI 18 = .ok (.aload_n 0, 1) := by decide +kernel
theorem std_A_copyOfI_19 : decode stc_A_copyOfI 19 = .ok (.iconst 0, 1) := by decide +kernel
theorem std_A_copyOfI_20 : decode stc_A_copyOfI 20 = .ok (.aload_n 2, 1) := by decide +kernel
theorem std_A_copyOfI_21 : decode stc_A_copyOfI 21 = .ok (.iconst 0, 1) := by decide +kernel
theorem std_A_copyOfI_22 : decode stc_A_copyOfI 22 = .ok (.aload_n 0, 1) := by decide +kernel
theorem std_A_copyOfI_23 : decode stc_A_copyOfI 23 = .ok (.arraylength, 1) := by decide +kernel
theorem std_A_copyOfI_24 : decode stc_A_copyOfI 24 = .ok (.iload_n 1, 1) := by decide +kernel
theorem std_A_copyOfI_25 : decode stc_A_copyOfI 25 = .ok (.invokestatic 304, 3) := by decide +kernel
theorem kw_2_64 : Cond.methodLink "java/util/Arrays" 304 (Lib.Math.min.name) ∈ stGW := st_t2 (List.mem_of_getElem? (i := 64) (by decide +kernel)) (by decide +kernel)
theorem std_A_copyOfI_28 : decode stc_A_copyOfI 28 = .ok (.invokestatic 150, 3) := by decide +kernel
theorem kw_2_65 : Cond.methodLink "java/util/Arrays" 150 (arraycopyName) ∈ stGW := st_t2 (List.mem_of_getElem? (i := 65) (by decide +kernel)) (by decide +kernel)
theorem kw_2_67 : Cond.native (arraycopyName) ∈ stGW := st_t2 (List.mem_of_getElem? (i := 67) (by decide +kernel)) (by decide +kernel)
theorem kw_2_66 : Cond.static (arraycopyName) ∈ stGW := st_t2 (List.mem_of_getElem? (i := 66) (by decide +kernel)) (by decide +kernel)
theorem kw_1_9 : Cond.initialized "java/lang/System" ∈ stGW := st_t1 (List.mem_of_getElem? (i := 9) (by decide +kernel)) (by decide +kernel)
theorem std_A_copyOfI_31 : decode stc_A_copyOfI 31 = .ok (.aload_n 2, 1) := by decide +kernel
theorem std_A_copyOfI_32 : decode stc_A_copyOfI 32 = .ok (.areturn, 1) := by decide +kernel
set_option maxHeartbeats 4000000 in
set_option maxRecDepth 100000 in
theorem c_copyOfI (l : Launch) (dC : Nat → ClassId) (dI : Nat → Nat → Nat) (cI cJ cZ : ClassId) (h : Nat) (n : Nat) (N : Nat) (f : Int → Int) (kn : n < N) (kN : N ≤ 100000) : ∀ sz, Met l sty_A_copyOfI (Cond.code sty_A_copyOfI stc_A_copyOfI 3 (some (.array .int)) :: stGW) ({ frames := 1, cells := 1, slots := N, locals := 40 } : Room) (va_Pc [.ref h, .int (iI ((N : Nat) : Int))] (zPre (dC, dI) stCl [(cI, .int), (cJ, .long), (cZ, .boolean)] st_nw [(h, .inl (cI, aI n f))] sz)) (va_Qr (fun (_ : Unit) => True) (fun u r => zPost (dC, dI) stCl [(cI, .int), (cJ, .long), (cZ, .boolean)] [(h, .inl (cI, aI n f))] sz (fun u : Unit => (fun (_ : Unit) (r : Nat) => [(h, .inl (cI, aI n f)), (r, .inl (cI, aI N (cpZ f (fun _ => 0) 0 0 (n : Int))))]) u r) u) (va_A [(h, .inl (cI, aI n f))] sz)) 1 N (va_A [(h, .inl (cI, aI n f))] sz) := by
  refine met_r (by decide) rfl (Nat.le_of_ble_eq_true rfl) ?_
  intro p e s m below meth c A Q C hmn hret
  refine g_iload_n C 1 std_A_copyOfI_0 rfl ?_
  refine g_aload_n C 0 std_A_copyOfI_1 rfl ?_
  refine g_alenI C 0 0 rfl rfl std_A_copyOfI_2 ?_
  refine g_icmp_ne (tgt := 14) C std_A_copyOfI_3 (by decide) ⟨by omega, by omega⟩ ⟨by omega, by omega⟩ (fun c1 => ?_) (fun c1 => ?_)
  · refine g_iload_n C 1 std_A_copyOfI_14 rfl ?_
    refine g_newI C (N := N) 0 rfl (List.mem_cons_of_mem _ kw_1_76) (rfl) (by omega) (Nat.le_of_ble_eq_true rfl) (by show _ ≤ N; omega) std_A_copyOfI_15 (fun q2 => ?_)
    refine g_ws (ws' := [(h, .inl (cI, aI n f)), (q2, .inl (cI, aI N (fun _ => 0)))]) rfl ?_
    refine g_astore_n C (lv' := [(2, .ref q2), (0, .ref h), (1, .int (iI ((N : Nat) : Int)))]) std_A_copyOfI_17 (by decide) rfl ?_
    refine g_aload_n C 1 std_A_copyOfI_18 rfl ?_
    refine g_iconst C std_A_copyOfI_19 ?_
    refine g_aload_n C 0 std_A_copyOfI_20 rfl ?_
    refine g_iconst C std_A_copyOfI_21 ?_
    refine g_aload_n C 1 std_A_copyOfI_22 rfl ?_
    refine g_alenI C 0 0 rfl rfl std_A_copyOfI_23 ?_
    refine g_iload_n C 2 std_A_copyOfI_24 rfl ?_
    refine g_min C ⟨by omega, by omega⟩ ⟨by omega, by omega⟩ (List.mem_cons_of_mem _ kw_2_64) (List.mem_cons_of_mem _ kw_2_45) (List.mem_cons_of_mem _ kw_1_7) (List.mem_cons_of_mem _ kw_2_46) (Nat.le_of_ble_eq_true rfl) (Nat.le_of_ble_eq_true rfl) (Nat.le_of_ble_eq_true rfl) (by show _ ≤ N; omega) std_A_copyOfI_25 ?_
    refine g_st (st' := [.int (iI ((n : Nat) : Int)), .int (iI 0), .ref q2, .int (iI 0), .ref h]) (by rw [Int.min_eq_left (by omega)]) ?_
    refine g_copyI C (ws' := [(h, .inl (cI, aI n f)), (q2, .inl (cI, aI N (cpZ f (fun _ => 0) 0 0 ((n : Nat) : Int))))]) 0 1 0 rfl rfl rfl (by omega) (by omega) (by omega) (by omega) (by omega) (by omega) (by omega) (List.mem_cons_of_mem _ kw_2_65) (List.mem_cons_of_mem _ kw_2_67) (List.mem_cons_of_mem _ kw_2_66) (List.mem_cons_of_mem _ kw_1_9) (Nat.le_of_ble_eq_true rfl) (Nat.le_of_ble_eq_true rfl) std_A_copyOfI_28 rfl ?_
    refine g_aload_n C 0 std_A_copyOfI_31 rfl ?_
    refine g_wide (k := 1) (n := N) (Nat.le_of_ble_eq_true rfl) (by omega) ?_
    exact hret _ _ () q2 (trivial) std_A_copyOfI_32
  · exfalso; omega

abbrev sty_A_copyOfL : MethodName := ⟨"java/util/Arrays", "copyOf", "([JI)[J"⟩
abbrev stc_A_copyOfL : ByteArray := prog_11_method_124_code
theorem sth_A_copyOfL : (sty_A_copyOfL).cls ≠ "java/lang/invoke/MethodHandle" ∧ (sty_A_copyOfL).cls ≠ "java/lang/invoke/VarHandle" ∧ (parseMethodDescriptor (sty_A_copyOfL).desc).map (fun d => d.parameters.length) = some 2 := by decide +kernel
theorem std_A_copyOfL_0 : decode stc_A_copyOfL 0 = .ok (.iload_n 1, 1) := by decide +kernel
theorem std_A_copyOfL_1 : decode stc_A_copyOfL 1 = .ok (.aload_n 0, 1) := by decide +kernel
theorem std_A_copyOfL_2 : decode stc_A_copyOfL 2 = .ok (.arraylength, 1) := by decide +kernel
theorem std_A_copyOfL_3 : decode stc_A_copyOfL 3 = .ok (.if_icmp .ne 11, 3) := by decide +kernel
theorem std_A_copyOfL_14 : decode stc_A_copyOfL 14 = .ok (.iload_n 1, 1) := by decide +kernel
theorem std_A_copyOfL_15 : decode stc_A_copyOfL 15 = .ok (.newarray .long, 2) := by decide +kernel
theorem kw_1_122 : Cond.arrayClass Jvm.ClassFile.FieldType.long ∈ stGW := st_t1 (List.mem_of_getElem? (i := 122) (by decide +kernel)) (by decide +kernel)
theorem std_A_copyOfL_17 : decode stc_A_copyOfL 17 = .ok (.astore_n 2, 1) := by decide +kernel
theorem std_A_copyOfL_18 : decode stc_A_copyOfL 18 = .ok (.aload_n 0, 1) := by decide +kernel
theorem std_A_copyOfL_19 : decode stc_A_copyOfL 19 = .ok (.iconst 0, 1) := by decide +kernel
theorem std_A_copyOfL_20 : decode stc_A_copyOfL 20 = .ok (.aload_n 2, 1) := by decide +kernel
theorem std_A_copyOfL_21 : decode stc_A_copyOfL 21 = .ok (.iconst 0, 1) := by decide +kernel
theorem std_A_copyOfL_22 : decode stc_A_copyOfL 22 = .ok (.aload_n 0, 1) := by decide +kernel
theorem std_A_copyOfL_23 : decode stc_A_copyOfL 23 = .ok (.arraylength, 1) := by decide +kernel
theorem std_A_copyOfL_24 : decode stc_A_copyOfL 24 = .ok (.iload_n 1, 1) := by decide +kernel
theorem std_A_copyOfL_25 : decode stc_A_copyOfL 25 = .ok (.invokestatic 304, 3) := by decide +kernel
theorem std_A_copyOfL_28 : decode stc_A_copyOfL 28 = .ok (.invokestatic 150, 3) := by decide +kernel
theorem std_A_copyOfL_31 : decode stc_A_copyOfL 31 = .ok (.aload_n 2, 1) := by decide +kernel
theorem std_A_copyOfL_32 : decode stc_A_copyOfL 32 = .ok (.areturn, 1) := by decide +kernel
set_option maxHeartbeats 4000000 in
set_option maxRecDepth 100000 in
theorem c_copyOfL (l : Launch) (dC : Nat → ClassId) (dI : Nat → Nat → Nat) (cI cJ cZ : ClassId) (h : Nat) (n : Nat) (N : Nat) (f : Int → Int) (kn : n < N) (kN : N ≤ 100000) : ∀ sz, Met l sty_A_copyOfL (Cond.code sty_A_copyOfL stc_A_copyOfL 3 (some (.array .long)) :: stGW) ({ frames := 1, cells := 1, slots := N, locals := 40 } : Room) (va_Pc [.ref h, .int (iI ((N : Nat) : Int))] (zPre (dC, dI) stCl [(cI, .int), (cJ, .long), (cZ, .boolean)] st_nw [(h, .inl (cJ, aL n f))] sz)) (va_Qr (fun (_ : Unit) => True) (fun u r => zPost (dC, dI) stCl [(cI, .int), (cJ, .long), (cZ, .boolean)] [(h, .inl (cJ, aL n f))] sz (fun u : Unit => (fun (_ : Unit) (r : Nat) => [(h, .inl (cJ, aL n f)), (r, .inl (cJ, aL N (cpZ f (fun _ => 0) 0 0 (n : Int))))]) u r) u) (va_A [(h, .inl (cJ, aL n f))] sz)) 1 N (va_A [(h, .inl (cJ, aL n f))] sz) := by
  refine met_r (by decide) rfl (Nat.le_of_ble_eq_true rfl) ?_
  intro p e s m below meth c A Q C hmn hret
  refine g_iload_n C 1 std_A_copyOfL_0 rfl ?_
  refine g_aload_n C 0 std_A_copyOfL_1 rfl ?_
  refine g_alenL C 0 1 rfl rfl std_A_copyOfL_2 ?_
  refine g_icmp_ne (tgt := 14) C std_A_copyOfL_3 (by decide) ⟨by omega, by omega⟩ ⟨by omega, by omega⟩ (fun c1 => ?_) (fun c1 => ?_)
  · refine g_iload_n C 1 std_A_copyOfL_14 rfl ?_
    refine g_newL C (N := N) 1 rfl (List.mem_cons_of_mem _ kw_1_122) (rfl) (by omega) (Nat.le_of_ble_eq_true rfl) (by show _ ≤ N; omega) std_A_copyOfL_15 (fun q2 => ?_)
    refine g_ws (ws' := [(h, .inl (cJ, aL n f)), (q2, .inl (cJ, aL N (fun _ => 0)))]) rfl ?_
    refine g_astore_n C (lv' := [(2, .ref q2), (0, .ref h), (1, .int (iI ((N : Nat) : Int)))]) std_A_copyOfL_17 (by decide) rfl ?_
    refine g_aload_n C 1 std_A_copyOfL_18 rfl ?_
    refine g_iconst C std_A_copyOfL_19 ?_
    refine g_aload_n C 0 std_A_copyOfL_20 rfl ?_
    refine g_iconst C std_A_copyOfL_21 ?_
    refine g_aload_n C 1 std_A_copyOfL_22 rfl ?_
    refine g_alenL C 0 1 rfl rfl std_A_copyOfL_23 ?_
    refine g_iload_n C 2 std_A_copyOfL_24 rfl ?_
    refine g_min C ⟨by omega, by omega⟩ ⟨by omega, by omega⟩ (List.mem_cons_of_mem _ kw_2_64) (List.mem_cons_of_mem _ kw_2_45) (List.mem_cons_of_mem _ kw_1_7) (List.mem_cons_of_mem _ kw_2_46) (Nat.le_of_ble_eq_true rfl) (Nat.le_of_ble_eq_true rfl) (Nat.le_of_ble_eq_true rfl) (by show _ ≤ N; omega) std_A_copyOfL_25 ?_
    refine g_st (st' := [.int (iI ((n : Nat) : Int)), .int (iI 0), .ref q2, .int (iI 0), .ref h]) (by rw [Int.min_eq_left (by omega)]) ?_
    refine g_copyL C (ws' := [(h, .inl (cJ, aL n f)), (q2, .inl (cJ, aL N (cpZ f (fun _ => 0) 0 0 ((n : Nat) : Int))))]) 0 1 1 rfl rfl rfl (by omega) (by omega) (by omega) (by omega) (by omega) (by omega) (by omega) (List.mem_cons_of_mem _ kw_2_65) (List.mem_cons_of_mem _ kw_2_67) (List.mem_cons_of_mem _ kw_2_66) (List.mem_cons_of_mem _ kw_1_9) (Nat.le_of_ble_eq_true rfl) (Nat.le_of_ble_eq_true rfl) std_A_copyOfL_28 rfl ?_
    refine g_aload_n C 0 std_A_copyOfL_31 rfl ?_
    refine g_wide (k := 1) (n := N) (Nat.le_of_ble_eq_true rfl) (by omega) ?_
    exact hret _ _ () q2 (trivial) std_A_copyOfL_32
  · exfalso; omega

abbrev sty_Y_growTo : MethodName := ⟨"StateTables$Layers", "growTo", "(I)V"⟩
abbrev stc_Y_growTo : ByteArray := prog_3_method_9_code
theorem sth_Y_growTo : (sty_Y_growTo).cls ≠ "java/lang/invoke/MethodHandle" ∧ (sty_Y_growTo).cls ≠ "java/lang/invoke/VarHandle" ∧ (parseMethodDescriptor (sty_Y_growTo).desc).map (fun d => d.parameters.length) = some 1 := by decide +kernel
theorem std_Y_growTo_0 : decode stc_Y_growTo 0 = .ok (.iload_n 1, 1) := by decide +kernel
theorem std_Y_growTo_1 : decode stc_Y_growTo 1 = .ok (.aload_n 0, 1) := by decide +kernel
theorem std_Y_growTo_2 : decode stc_Y_growTo 2 = .ok (.getfield 15, 3) := by decide +kernel
theorem std_Y_growTo_5 : decode stc_Y_growTo 5 = .ok (.arraylength, 1) := by decide +kernel
theorem std_Y_growTo_6 : decode stc_Y_growTo 6 = .ok (.if_icmp .gt 4, 3) := by decide +kernel
theorem std_Y_growTo_10 : decode stc_Y_growTo 10 = .ok (.iload_n 1, 1) := by decide +kernel
theorem std_Y_growTo_11 : decode stc_Y_growTo 11 = .ok (.iconst 2, 1) := by decide +kernel
theorem std_Y_growTo_12 : decode stc_Y_growTo 12 = .ok (.aload_n 0, 1) := by decide +kernel
theorem std_Y_growTo_13 : decode stc_Y_growTo 13 = .ok (.getfield 15, 3) := by decide +kernel
theorem std_Y_growTo_16 : decode stc_Y_growTo 16 = .ok (.arraylength, 1) := by decide +kernel
theorem std_Y_growTo_17 : decode stc_Y_growTo 17 = .ok (.imul, 1) := by decide +kernel
theorem std_Y_growTo_18 : decode stc_Y_growTo 18 = .ok (.sipush 4801, 3) := by decide +kernel
theorem std_Y_growTo_21 : decode stc_Y_growTo 21 = .ok (.invokestatic 69, 3) := by decide +kernel
theorem std_Y_growTo_24 : decode stc_Y_growTo 24 = .ok (.invokestatic 92, 3) := by decide +kernel
theorem kw_2_51 : Cond.methodLink "StateTables$Layers" 92 (Lib.Math.max.name) ∈ stGW := st_t2 (List.mem_of_getElem? (i := 51) (by decide +kernel)) (by decide +kernel)
theorem kw_2_52 : Cond.static (Lib.Math.max.name) ∈ stGW := st_t2 (List.mem_of_getElem? (i := 52) (by decide +kernel)) (by decide +kernel)
theorem kw_2_53 : Cond.code Lib.Math.max.name Lib.Math.max.code 2 (some .int) ∈ stGW := st_t2 (List.mem_of_getElem? (i := 53) (by decide +kernel)) (by decide +kernel)
theorem std_Y_growTo_27 : decode stc_Y_growTo 27 = .ok (.istore_n 2, 1) := by decide +kernel
theorem std_Y_growTo_28 : decode stc_Y_growTo 28 = .ok (.aload_n 0, 1) := by decide +kernel
theorem std_Y_growTo_29 : decode stc_Y_growTo 29 = .ok (.aload_n 0, 1) := by decide +kernel
theorem std_Y_growTo_30 : decode stc_Y_growTo 30 = .ok (.getfield 15, 3) := by decide +kernel
theorem std_Y_growTo_33 : decode stc_Y_growTo 33 = .ok (.iload_n 2, 1) := by decide +kernel
theorem std_Y_growTo_34 : decode stc_Y_growTo 34 = .ok (.invokestatic 95, 3) := by decide +kernel
theorem kw_2_56 : Cond.code sty_A_copyOfI stc_A_copyOfI 3 (some (.array .int)) ∈ stGW := st_t2 (List.mem_of_getElem? (i := 56) (by decide +kernel)) (by decide +kernel)
theorem kw_1_8 : Cond.initialized "java/util/Arrays" ∈ stGW := st_t1 (List.mem_of_getElem? (i := 8) (by decide +kernel)) (by decide +kernel)
theorem kw_2_54 : Cond.methodLink "StateTables$Layers" 95 (sty_A_copyOfI) ∈ stGW := st_t2 (List.mem_of_getElem? (i := 54) (by decide +kernel)) (by decide +kernel)
theorem kw_2_55 : Cond.static (sty_A_copyOfI) ∈ stGW := st_t2 (List.mem_of_getElem? (i := 55) (by decide +kernel)) (by decide +kernel)
theorem std_Y_growTo_37 : decode stc_Y_growTo 37 = .ok (.putfield 15, 3) := by decide +kernel
theorem std_Y_growTo_40 : decode stc_Y_growTo 40 = .ok (.aload_n 0, 1) := by decide +kernel
theorem std_Y_growTo_41 : decode stc_Y_growTo 41 = .ok (.aload_n 0, 1) := by decide +kernel
theorem std_Y_growTo_42 : decode stc_Y_growTo 42 = .ok (.getfield 18, 3) := by decide +kernel
theorem std_Y_growTo_45 : decode stc_Y_growTo 45 = .ok (.iload_n 2, 1) := by decide +kernel
theorem std_Y_growTo_46 : decode stc_Y_growTo 46 = .ok (.invokestatic 95, 3) := by decide +kernel
theorem std_Y_growTo_49 : decode stc_Y_growTo 49 = .ok (.putfield 18, 3) := by decide +kernel
theorem std_Y_growTo_52 : decode stc_Y_growTo 52 = .ok (.aload_n 0, 1) := by decide +kernel
theorem std_Y_growTo_53 : decode stc_Y_growTo 53 = .ok (.aload_n 0, 1) := by decide +kernel
theorem std_Y_growTo_54 : decode stc_Y_growTo 54 = .ok (.getfield 21, 3) := by decide +kernel
theorem std_Y_growTo_57 : decode stc_Y_growTo 57 = .ok (.iload_n 2, 1) := by decide +kernel
theorem std_Y_growTo_58 : decode stc_Y_growTo 58 = .ok (.invokestatic 95, 3) := by decide +kernel
theorem std_Y_growTo_61 : decode stc_Y_growTo 61 = .ok (.putfield 21, 3) := by decide +kernel
theorem std_Y_growTo_64 : decode stc_Y_growTo 64 = .ok (.aload_n 0, 1) := by decide +kernel
theorem std_Y_growTo_65 : decode stc_Y_growTo 65 = .ok (.aload_n 0, 1) := by decide +kernel
theorem std_Y_growTo_66 : decode stc_Y_growTo 66 = .ok (.getfield 24, 3) := by decide +kernel
theorem std_Y_growTo_69 : decode stc_Y_growTo 69 = .ok (.iload_n 2, 1) := by decide +kernel
theorem std_Y_growTo_70 : decode stc_Y_growTo 70 = .ok (.invokestatic 101, 3) := by decide +kernel
theorem kw_2_70 : Cond.code sty_A_copyOfL stc_A_copyOfL 3 (some (.array .long)) ∈ stGW := st_t2 (List.mem_of_getElem? (i := 70) (by decide +kernel)) (by decide +kernel)
theorem kw_2_68 : Cond.methodLink "StateTables$Layers" 101 (sty_A_copyOfL) ∈ stGW := st_t2 (List.mem_of_getElem? (i := 68) (by decide +kernel)) (by decide +kernel)
theorem kw_2_69 : Cond.static (sty_A_copyOfL) ∈ stGW := st_t2 (List.mem_of_getElem? (i := 69) (by decide +kernel)) (by decide +kernel)
theorem std_Y_growTo_73 : decode stc_Y_growTo 73 = .ok (.putfield 24, 3) := by decide +kernel
theorem std_Y_growTo_76 : decode stc_Y_growTo 76 = .ok (.aload_n 0, 1) := by decide +kernel
theorem std_Y_growTo_77 : decode stc_Y_growTo 77 = .ok (.aload_n 0, 1) := by decide +kernel
theorem std_Y_growTo_78 : decode stc_Y_growTo 78 = .ok (.getfield 28, 3) := by decide +kernel
theorem std_Y_growTo_81 : decode stc_Y_growTo 81 = .ok (.iload_n 2, 1) := by decide +kernel
theorem std_Y_growTo_82 : decode stc_Y_growTo 82 = .ok (.invokestatic 101, 3) := by decide +kernel
theorem std_Y_growTo_85 : decode stc_Y_growTo 85 = .ok (.putfield 28, 3) := by decide +kernel
theorem std_Y_growTo_88 : decode stc_Y_growTo 88 = .ok (.aload_n 0, 1) := by decide +kernel
theorem std_Y_growTo_89 : decode stc_Y_growTo 89 = .ok (.aload_n 0, 1) := by decide +kernel
theorem std_Y_growTo_90 : decode stc_Y_growTo 90 = .ok (.getfield 31, 3) := by decide +kernel
theorem std_Y_growTo_93 : decode stc_Y_growTo 93 = .ok (.iload_n 2, 1) := by decide +kernel
theorem std_Y_growTo_94 : decode stc_Y_growTo 94 = .ok (.bipush 6, 2) := by decide +kernel
theorem std_Y_growTo_96 : decode stc_Y_growTo 96 = .ok (.imul, 1) := by decide +kernel
theorem std_Y_growTo_97 : decode stc_Y_growTo 97 = .ok (.invokestatic 95, 3) := by decide +kernel
theorem std_Y_growTo_100 : decode stc_Y_growTo 100 = .ok (.putfield 31, 3) := by decide +kernel
theorem std_Y_growTo_103 : decode stc_Y_growTo 103 = .ok (.return_, 1) := by decide +kernel
theorem std_Y_growTo_9 : decode stc_Y_growTo 9 = .ok (.return_, 1) := by decide +kernel
set_option maxHeartbeats 4000000 in
set_option maxRecDepth 100000 in
theorem c_growTo (l : Launch) (dC : Nat → ClassId) (dI : Nat → Nat → Nat) (cI cJ cZ : ClassId) (y0 : Nat) (ys : Nat) (yk : Nat) (yc : Nat) (yd : Nat) (yw : Nat) (yx : Nat) (yb : Nat) (yu : Nat) (total : Int) (t0 : Nat) (cap : Nat) (N : Nat) (q : Nat) (gk : Int → Int) (gct : Int → Int) (gcf : Int → Int) (gwt : Int → Int) (gwf : Int → Int) (gbe : Int → Int) (a : Int) (kcap : cap ≤ 4801) (ka : 0 ≤ a ∧ a ≤ 4801) (kN : (a ≤ (cap : Int) ∧ N = cap) ∨ ((cap : Int) < a ∧ (N : Int) = max a (min (2 * (cap : Int)) 4801))) (kq : a ≤ (cap : Int) ∨ 11 * N ≤ q) : ∀ sz, Met l sty_Y_growTo (Cond.code sty_Y_growTo stc_Y_growTo 3 none :: stGW) ({ frames := 2, cells := 6, slots := q, locals := 62 } : Room) (va_Pc [.ref y0, .int (iI a)] (zPre (dC, dI) stCl [(cI, .int), (cJ, .long), (cZ, .boolean)] st_nw [(y0, .inr (2, [.ref t0, .int (iI total), .ref ys, .ref yk, .ref yc, .ref yd, .ref yw, .ref yx, .ref yb, .ref yu])), (yk, .inl (cI, aI cap gk)), (yc, .inl (cI, aI cap gct)), (yd, .inl (cI, aI cap gcf)), (yw, .inl (cJ, aL cap gwt)), (yx, .inl (cJ, aL cap gwf)), (yb, .inl (cI, aI (6 * cap) gbe))] sz)) (va_Qv (fun (u : Nat × Nat × Nat × Nat × Nat × Nat × (Int → Int) × (Int → Int) × (Int → Int) × (Int → Int) × (Int → Int) × (Int → Int)) => (∀ j, 0 ≤ j → j < (cap : Int) → u.2.2.2.2.2.2.1 j = gk j) ∧ (∀ j, 0 ≤ j → j < (cap : Int) → u.2.2.2.2.2.2.2.1 j = gct j) ∧ (∀ j, 0 ≤ j → j < (cap : Int) → u.2.2.2.2.2.2.2.2.1 j = gcf j) ∧ (∀ j, 0 ≤ j → j < (cap : Int) → u.2.2.2.2.2.2.2.2.2.1 j = gwt j) ∧ (∀ j, 0 ≤ j → j < (cap : Int) → u.2.2.2.2.2.2.2.2.2.2.1 j = gwf j) ∧ (∀ j, 0 ≤ j → j < 6 * (cap : Int) → u.2.2.2.2.2.2.2.2.2.2.2 j = gbe j)) (zPost (dC, dI) stCl [(cI, .int), (cJ, .long), (cZ, .boolean)] [(y0, .inr (2, [.ref t0, .int (iI total), .ref ys, .ref yk, .ref yc, .ref yd, .ref yw, .ref yx, .ref yb, .ref yu])), (yk, .inl (cI, aI cap gk)), (yc, .inl (cI, aI cap gct)), (yd, .inl (cI, aI cap gcf)), (yw, .inl (cJ, aL cap gwt)), (yx, .inl (cJ, aL cap gwf)), (yb, .inl (cI, aI (6 * cap) gbe))] sz (fun u : Nat × Nat × Nat × Nat × Nat × Nat × (Int → Int) × (Int → Int) × (Int → Int) × (Int → Int) × (Int → Int) × (Int → Int) => [(y0, .inr (2, [.ref t0, .int (iI total), .ref ys, .ref u.1, .ref u.2.1, .ref u.2.2.1, .ref u.2.2.2.1, .ref u.2.2.2.2.1, .ref u.2.2.2.2.2.1, .ref yu])), (u.1, .inl (cI, aI N (u.2.2.2.2.2.2.1))), (u.2.1, .inl (cI, aI N (u.2.2.2.2.2.2.2.1))), (u.2.2.1, .inl (cI, aI N (u.2.2.2.2.2.2.2.2.1))), (u.2.2.2.1, .inl (cJ, aL N (u.2.2.2.2.2.2.2.2.2.1))), (u.2.2.2.2.1, .inl (cJ, aL N (u.2.2.2.2.2.2.2.2.2.2.1))), (u.2.2.2.2.2.1, .inl (cI, aI (6 * N) (u.2.2.2.2.2.2.2.2.2.2.2)))])) (va_A [(y0, .inr (2, [.ref t0, .int (iI total), .ref ys, .ref yk, .ref yc, .ref yd, .ref yw, .ref yx, .ref yb, .ref yu])), (yk, .inl (cI, aI cap gk)), (yc, .inl (cI, aI cap gct)), (yd, .inl (cI, aI cap gcf)), (yw, .inl (cJ, aL cap gwt)), (yx, .inl (cJ, aL cap gwf)), (yb, .inl (cI, aI (6 * cap) gbe))] sz)) 6 q (va_A [(y0, .inr (2, [.ref t0, .int (iI total), .ref ys, .ref yk, .ref yc, .ref yd, .ref yw, .ref yx, .ref yb, .ref yu])), (yk, .inl (cI, aI cap gk)), (yc, .inl (cI, aI cap gct)), (yd, .inl (cI, aI cap gcf)), (yw, .inl (cJ, aL cap gwt)), (yx, .inl (cJ, aL cap gwf)), (yb, .inl (cI, aI (6 * cap) gbe))] sz) := by
  refine met_v (by decide) rfl (Nat.le_of_ble_eq_true rfl) ?_
  intro p e s m below meth c A Q C hmn hret
  refine g_iload_n C 1 std_Y_growTo_0 rfl ?_
  refine g_aload_n C 0 std_Y_growTo_1 rfl ?_
  refine g_get C (st_sub sti_Y) 0 rfl rfl 3 (by decide) (List.mem_cons_of_mem _ kw_1_88) rfl rfl std_Y_growTo_2 ?_
  refine g_alenI C 1 0 rfl rfl std_Y_growTo_5 ?_
  refine g_icmp_gt (tgt := 10) C std_Y_growTo_6 (by decide) ⟨by omega, by omega⟩ ⟨by omega, by omega⟩ (fun c1 => ?_) (fun c1 => ?_)
  · refine g_iload_n C 1 std_Y_growTo_10 rfl ?_
    refine g_iconst C std_Y_growTo_11 ?_
    refine g_aload_n C 0 std_Y_growTo_12 rfl ?_
    refine g_get C (st_sub sti_Y) 0 rfl rfl 3 (by decide) (List.mem_cons_of_mem _ kw_1_88) rfl rfl std_Y_growTo_13 ?_
    refine g_alenI C 1 0 rfl rfl std_Y_growTo_16 ?_
    refine g_imul C std_Y_growTo_17 ?_
    refine g_sipush C std_Y_growTo_18 (by decide) ?_
    refine g_min C ⟨by omega, by omega⟩ ⟨by omega, by omega⟩ (List.mem_cons_of_mem _ kw_2_44) (List.mem_cons_of_mem _ kw_2_45) (List.mem_cons_of_mem _ kw_1_7) (List.mem_cons_of_mem _ kw_2_46) (Nat.le_of_ble_eq_true rfl) (Nat.le_of_ble_eq_true rfl) (Nat.le_of_ble_eq_true rfl) (by show _ ≤ q; omega) std_Y_growTo_21 ?_
    refine g_max C ⟨by omega, by omega⟩ ⟨by omega, by omega⟩ (List.mem_cons_of_mem _ kw_2_51) (List.mem_cons_of_mem _ kw_2_52) (List.mem_cons_of_mem _ kw_1_7) (List.mem_cons_of_mem _ kw_2_53) (Nat.le_of_ble_eq_true rfl) (Nat.le_of_ble_eq_true rfl) (Nat.le_of_ble_eq_true rfl) (by show _ ≤ q; omega) std_Y_growTo_24 ?_
    refine g_istore_n C (lv' := [(2, .int (iI (max a (min (2 * ((cap : Nat) : Int)) 4801)))), (0, .ref y0), (1, .int (iI a))]) std_Y_growTo_27 (by decide) rfl ?_
    obtain ⟨kN1, kN2⟩ : (cap : Int) < a ∧ (N : Int) = max a (min (2 * (cap : Int)) 4801) := by omega
    rw [← kN2]
    refine g_aload_n C 1 std_Y_growTo_28 rfl ?_
    refine g_aload_n C 1 std_Y_growTo_29 rfl ?_
    refine g_get C (st_sub sti_Y) 0 rfl rfl 3 (by decide) (List.mem_cons_of_mem _ kw_1_88) rfl rfl std_Y_growTo_30 ?_
    refine g_iload_n C 0 std_Y_growTo_33 rfl ?_
    refine g_S_r (wc := [(yk, .inl (cI, aI cap gk))]) (wr := [(y0, .inr (2, [.ref t0, .int (iI total), .ref ys, .ref yk, .ref yc, .ref yd, .ref yw, .ref yx, .ref yb, .ref yu])), (yc, .inl (cI, aI cap gct)), (yd, .inl (cI, aI cap gcf)), (yw, .inl (cJ, aL cap gwt)), (yx, .inl (cJ, aL cap gwf)), (yb, .inl (cI, aI (6 * cap) gbe))]) (rest := [.ref y0]) C (c_copyOfI l dC dI cI cJ cZ yk cap N gk (by omega) (by omega)) (st_cS C kw_2_56 kw_2_54 kw_1_8 kw_2_55 sth_A_copyOfI ⟨Nat.le_of_ble_eq_true rfl, Nat.le_of_ble_eq_true rfl⟩) rfl rfl (Nat.le_of_ble_eq_true rfl) std_Y_growTo_34 ⟨Nat.le_of_ble_eq_true rfl, by show _ ≤ q; omega⟩ [1] [0, 2, 3, 4, 5, 6] rfl rfl rfl rfl (by decide) (fun u3 r2 h4 => ?_)
    refine g_ws (ws' := [(y0, .inr (2, [.ref t0, .int (iI total), .ref ys, .ref yk, .ref yc, .ref yd, .ref yw, .ref yx, .ref yb, .ref yu])), (yc, .inl (cI, aI cap gct)), (yd, .inl (cI, aI cap gcf)), (yw, .inl (cJ, aL cap gwt)), (yx, .inl (cJ, aL cap gwf)), (yb, .inl (cI, aI (6 * cap) gbe)), (yk, .inl (cI, aI cap gk)), (r2, .inl (cI, aI N (cpZ gk (fun _ => 0) 0 0 ((cap : Nat) : Int))))]) rfl ?_
    refine g_put C (ws' := [(y0, .inr (2, [.ref t0, .int (iI total), .ref ys, .ref r2, .ref yc, .ref yd, .ref yw, .ref yx, .ref yb, .ref yu])), (yc, .inl (cI, aI cap gct)), (yd, .inl (cI, aI cap gcf)), (yw, .inl (cJ, aL cap gwt)), (yx, .inl (cJ, aL cap gwf)), (yb, .inl (cI, aI (6 * cap) gbe)), (yk, .inl (cI, aI cap gk)), (r2, .inl (cI, aI N (cpZ gk (fun _ => 0) 0 0 ((cap : Nat) : Int))))]) (st_sub sti_Y) stt_Y sto_Y stn_Y 0 rfl rfl 3 (by decide) (List.mem_cons_of_mem _ kw_1_88) rfl rfl rfl rfl (Nat.le_of_ble_eq_true rfl) std_Y_growTo_37 rfl ?_
    refine g_aload_n C 1 std_Y_growTo_40 rfl ?_
    refine g_aload_n C 1 std_Y_growTo_41 rfl ?_
    refine g_get C (st_sub sti_Y) 0 rfl rfl 4 (by decide) (List.mem_cons_of_mem _ kw_1_90) rfl rfl std_Y_growTo_42 ?_
    refine g_iload_n C 0 std_Y_growTo_45 rfl ?_
    refine g_S_r (wc := [(yc, .inl (cI, aI cap gct))]) (wr := [(y0, .inr (2, [.ref t0, .int (iI total), .ref ys, .ref r2, .ref yc, .ref yd, .ref yw, .ref yx, .ref yb, .ref yu])), (yd, .inl (cI, aI cap gcf)), (yw, .inl (cJ, aL cap gwt)), (yx, .inl (cJ, aL cap gwf)), (yb, .inl (cI, aI (6 * cap) gbe)), (yk, .inl (cI, aI cap gk)), (r2, .inl (cI, aI N (cpZ gk (fun _ => 0) 0 0 ((cap : Nat) : Int))))]) (rest := [.ref y0]) C (c_copyOfI l dC dI cI cJ cZ yc cap N gct (by omega) (by omega)) (st_cS C kw_2_56 kw_2_54 kw_1_8 kw_2_55 sth_A_copyOfI ⟨Nat.le_of_ble_eq_true rfl, Nat.le_of_ble_eq_true rfl⟩) rfl rfl (Nat.le_of_ble_eq_true rfl) std_Y_growTo_46 ⟨Nat.le_of_ble_eq_true rfl, by show _ ≤ q; omega⟩ [1] [0, 2, 3, 4, 5, 6, 7] rfl rfl rfl rfl (by decide) (fun u6 r5 h7 => ?_)
    refine g_ws (ws' := [(y0, .inr (2, [.ref t0, .int (iI total), .ref ys, .ref r2, .ref yc, .ref yd, .ref yw, .ref yx, .ref yb, .ref yu])), (yd, .inl (cI, aI cap gcf)), (yw, .inl (cJ, aL cap gwt)), (yx, .inl (cJ, aL cap gwf)), (yb, .inl (cI, aI (6 * cap) gbe)), (yk, .inl (cI, aI cap gk)), (r2, .inl (cI, aI N (cpZ gk (fun _ => 0) 0 0 ((cap : Nat) : Int)))), (yc, .inl (cI, aI cap gct)), (r5, .inl (cI, aI N (cpZ gct (fun _ => 0) 0 0 ((cap : Nat) : Int))))]) rfl ?_
    refine g_put C (ws' := [(y0, .inr (2, [.ref t0, .int (iI total), .ref ys, .ref r2, .ref r5, .ref yd, .ref yw, .ref yx, .ref yb, .ref yu])), (yd, .inl (cI, aI cap gcf)), (yw, .inl (cJ, aL cap gwt)), (yx, .inl (cJ, aL cap gwf)), (yb, .inl (cI, aI (6 * cap) gbe)), (yk, .inl (cI, aI cap gk)), (r2, .inl (cI, aI N (cpZ gk (fun _ => 0) 0 0 ((cap : Nat) : Int)))), (yc, .inl (cI, aI cap gct)), (r5, .inl (cI, aI N (cpZ gct (fun _ => 0) 0 0 ((cap : Nat) : Int))))]) (st_sub sti_Y) stt_Y sto_Y stn_Y 0 rfl rfl 4 (by decide) (List.mem_cons_of_mem _ kw_1_90) rfl rfl rfl rfl (Nat.le_of_ble_eq_true rfl) std_Y_growTo_49 rfl ?_
    refine g_aload_n C 1 std_Y_growTo_52 rfl ?_
    refine g_aload_n C 1 std_Y_growTo_53 rfl ?_
    refine g_get C (st_sub sti_Y) 0 rfl rfl 5 (by decide) (List.mem_cons_of_mem _ kw_1_92) rfl rfl std_Y_growTo_54 ?_
    refine g_iload_n C 0 std_Y_growTo_57 rfl ?_
    refine g_S_r (wc := [(yd, .inl (cI, aI cap gcf))]) (wr := [(y0, .inr (2, [.ref t0, .int (iI total), .ref ys, .ref r2, .ref r5, .ref yd, .ref yw, .ref yx, .ref yb, .ref yu])), (yw, .inl (cJ, aL cap gwt)), (yx, .inl (cJ, aL cap gwf)), (yb, .inl (cI, aI (6 * cap) gbe)), (yk, .inl (cI, aI cap gk)), (r2, .inl (cI, aI N (cpZ gk (fun _ => 0) 0 0 ((cap : Nat) : Int)))), (yc, .inl (cI, aI cap gct)), (r5, .inl (cI, aI N (cpZ gct (fun _ => 0) 0 0 ((cap : Nat) : Int))))]) (rest := [.ref y0]) C (c_copyOfI l dC dI cI cJ cZ yd cap N gcf (by omega) (by omega)) (st_cS C kw_2_56 kw_2_54 kw_1_8 kw_2_55 sth_A_copyOfI ⟨Nat.le_of_ble_eq_true rfl, Nat.le_of_ble_eq_true rfl⟩) rfl rfl (Nat.le_of_ble_eq_true rfl) std_Y_growTo_58 ⟨Nat.le_of_ble_eq_true rfl, by show _ ≤ q; omega⟩ [1] [0, 2, 3, 4, 5, 6, 7, 8] rfl rfl rfl rfl (by decide) (fun u9 r8 h10 => ?_)
    refine g_ws (ws' := [(y0, .inr (2, [.ref t0, .int (iI total), .ref ys, .ref r2, .ref r5, .ref yd, .ref yw, .ref yx, .ref yb, .ref yu])), (yw, .inl (cJ, aL cap gwt)), (yx, .inl (cJ, aL cap gwf)), (yb, .inl (cI, aI (6 * cap) gbe)), (yk, .inl (cI, aI cap gk)), (r2, .inl (cI, aI N (cpZ gk (fun _ => 0) 0 0 ((cap : Nat) : Int)))), (yc, .inl (cI, aI cap gct)), (r5, .inl (cI, aI N (cpZ gct (fun _ => 0) 0 0 ((cap : Nat) : Int)))), (yd, .inl (cI, aI cap gcf)), (r8, .inl (cI, aI N (cpZ gcf (fun _ => 0) 0 0 ((cap : Nat) : Int))))]) rfl ?_
    refine g_put C (ws' := [(y0, .inr (2, [.ref t0, .int (iI total), .ref ys, .ref r2, .ref r5, .ref r8, .ref yw, .ref yx, .ref yb, .ref yu])), (yw, .inl (cJ, aL cap gwt)), (yx, .inl (cJ, aL cap gwf)), (yb, .inl (cI, aI (6 * cap) gbe)), (yk, .inl (cI, aI cap gk)), (r2, .inl (cI, aI N (cpZ gk (fun _ => 0) 0 0 ((cap : Nat) : Int)))), (yc, .inl (cI, aI cap gct)), (r5, .inl (cI, aI N (cpZ gct (fun _ => 0) 0 0 ((cap : Nat) : Int)))), (yd, .inl (cI, aI cap gcf)), (r8, .inl (cI, aI N (cpZ gcf (fun _ => 0) 0 0 ((cap : Nat) : Int))))]) (st_sub sti_Y) stt_Y sto_Y stn_Y 0 rfl rfl 5 (by decide) (List.mem_cons_of_mem _ kw_1_92) rfl rfl rfl rfl (Nat.le_of_ble_eq_true rfl) std_Y_growTo_61 rfl ?_
    refine g_aload_n C 1 std_Y_growTo_64 rfl ?_
    refine g_aload_n C 1 std_Y_growTo_65 rfl ?_
    refine g_get C (st_sub sti_Y) 0 rfl rfl 6 (by decide) (List.mem_cons_of_mem _ kw_1_94) rfl rfl std_Y_growTo_66 ?_
    refine g_iload_n C 0 std_Y_growTo_69 rfl ?_
    refine g_S_r (wc := [(yw, .inl (cJ, aL cap gwt))]) (wr := [(y0, .inr (2, [.ref t0, .int (iI total), .ref ys, .ref r2, .ref r5, .ref r8, .ref yw, .ref yx, .ref yb, .ref yu])), (yx, .inl (cJ, aL cap gwf)), (yb, .inl (cI, aI (6 * cap) gbe)), (yk, .inl (cI, aI cap gk)), (r2, .inl (cI, aI N (cpZ gk (fun _ => 0) 0 0 ((cap : Nat) : Int)))), (yc, .inl (cI, aI cap gct)), (r5, .inl (cI, aI N (cpZ gct (fun _ => 0) 0 0 ((cap : Nat) : Int)))), (yd, .inl (cI, aI cap gcf)), (r8, .inl (cI, aI N (cpZ gcf (fun _ => 0) 0 0 ((cap : Nat) : Int))))]) (rest := [.ref y0]) C (c_copyOfL l dC dI cI cJ cZ yw cap N gwt (by omega) (by omega)) (st_cS C kw_2_70 kw_2_68 kw_1_8 kw_2_69 sth_A_copyOfL ⟨Nat.le_of_ble_eq_true rfl, Nat.le_of_ble_eq_true rfl⟩) rfl rfl (Nat.le_of_ble_eq_true rfl) std_Y_growTo_70 ⟨Nat.le_of_ble_eq_true rfl, by show _ ≤ q; omega⟩ [1] [0, 2, 3, 4, 5, 6, 7, 8, 9] rfl rfl rfl rfl (by decide) (fun u12 r11 h13 => ?_)
    refine g_ws (ws' := [(y0, .inr (2, [.ref t0, .int (iI total), .ref ys, .ref r2, .ref r5, .ref r8, .ref yw, .ref yx, .ref yb, .ref yu])), (yx, .inl (cJ, aL cap gwf)), (yb, .inl (cI, aI (6 * cap) gbe)), (yk, .inl (cI, aI cap gk)), (r2, .inl (cI, aI N (cpZ gk (fun _ => 0) 0 0 ((cap : Nat) : Int)))), (yc, .inl (cI, aI cap gct)), (r5, .inl (cI, aI N (cpZ gct (fun _ => 0) 0 0 ((cap : Nat) : Int)))), (yd, .inl (cI, aI cap gcf)), (r8, .inl (cI, aI N (cpZ gcf (fun _ => 0) 0 0 ((cap : Nat) : Int)))), (yw, .inl (cJ, aL cap gwt)), (r11, .inl (cJ, aL N (cpZ gwt (fun _ => 0) 0 0 ((cap : Nat) : Int))))]) rfl ?_
    refine g_put C (ws' := [(y0, .inr (2, [.ref t0, .int (iI total), .ref ys, .ref r2, .ref r5, .ref r8, .ref r11, .ref yx, .ref yb, .ref yu])), (yx, .inl (cJ, aL cap gwf)), (yb, .inl (cI, aI (6 * cap) gbe)), (yk, .inl (cI, aI cap gk)), (r2, .inl (cI, aI N (cpZ gk (fun _ => 0) 0 0 ((cap : Nat) : Int)))), (yc, .inl (cI, aI cap gct)), (r5, .inl (cI, aI N (cpZ gct (fun _ => 0) 0 0 ((cap : Nat) : Int)))), (yd, .inl (cI, aI cap gcf)), (r8, .inl (cI, aI N (cpZ gcf (fun _ => 0) 0 0 ((cap : Nat) : Int)))), (yw, .inl (cJ, aL cap gwt)), (r11, .inl (cJ, aL N (cpZ gwt (fun _ => 0) 0 0 ((cap : Nat) : Int))))]) (st_sub sti_Y) stt_Y sto_Y stn_Y 0 rfl rfl 6 (by decide) (List.mem_cons_of_mem _ kw_1_94) rfl rfl rfl rfl (Nat.le_of_ble_eq_true rfl) std_Y_growTo_73 rfl ?_
    refine g_aload_n C 1 std_Y_growTo_76 rfl ?_
    refine g_aload_n C 1 std_Y_growTo_77 rfl ?_
    refine g_get C (st_sub sti_Y) 0 rfl rfl 7 (by decide) (List.mem_cons_of_mem _ kw_1_96) rfl rfl std_Y_growTo_78 ?_
    refine g_iload_n C 0 std_Y_growTo_81 rfl ?_
    refine g_S_r (wc := [(yx, .inl (cJ, aL cap gwf))]) (wr := [(y0, .inr (2, [.ref t0, .int (iI total), .ref ys, .ref r2, .ref r5, .ref r8, .ref r11, .ref yx, .ref yb, .ref yu])), (yb, .inl (cI, aI (6 * cap) gbe)), (yk, .inl (cI, aI cap gk)), (r2, .inl (cI, aI N (cpZ gk (fun _ => 0) 0 0 ((cap : Nat) : Int)))), (yc, .inl (cI, aI cap gct)), (r5, .inl (cI, aI N (cpZ gct (fun _ => 0) 0 0 ((cap : Nat) : Int)))), (yd, .inl (cI, aI cap gcf)), (r8, .inl (cI, aI N (cpZ gcf (fun _ => 0) 0 0 ((cap : Nat) : Int)))), (yw, .inl (cJ, aL cap gwt)), (r11, .inl (cJ, aL N (cpZ gwt (fun _ => 0) 0 0 ((cap : Nat) : Int))))]) (rest := [.ref y0]) C (c_copyOfL l dC dI cI cJ cZ yx cap N gwf (by omega) (by omega)) (st_cS C kw_2_70 kw_2_68 kw_1_8 kw_2_69 sth_A_copyOfL ⟨Nat.le_of_ble_eq_true rfl, Nat.le_of_ble_eq_true rfl⟩) rfl rfl (Nat.le_of_ble_eq_true rfl) std_Y_growTo_82 ⟨Nat.le_of_ble_eq_true rfl, by show _ ≤ q; omega⟩ [1] [0, 2, 3, 4, 5, 6, 7, 8, 9, 10] rfl rfl rfl rfl (by decide) (fun u15 r14 h16 => ?_)
    refine g_ws (ws' := [(y0, .inr (2, [.ref t0, .int (iI total), .ref ys, .ref r2, .ref r5, .ref r8, .ref r11, .ref yx, .ref yb, .ref yu])), (yb, .inl (cI, aI (6 * cap) gbe)), (yk, .inl (cI, aI cap gk)), (r2, .inl (cI, aI N (cpZ gk (fun _ => 0) 0 0 ((cap : Nat) : Int)))), (yc, .inl (cI, aI cap gct)), (r5, .inl (cI, aI N (cpZ gct (fun _ => 0) 0 0 ((cap : Nat) : Int)))), (yd, .inl (cI, aI cap gcf)), (r8, .inl (cI, aI N (cpZ gcf (fun _ => 0) 0 0 ((cap : Nat) : Int)))), (yw, .inl (cJ, aL cap gwt)), (r11, .inl (cJ, aL N (cpZ gwt (fun _ => 0) 0 0 ((cap : Nat) : Int)))), (yx, .inl (cJ, aL cap gwf)), (r14, .inl (cJ, aL N (cpZ gwf (fun _ => 0) 0 0 ((cap : Nat) : Int))))]) rfl ?_
    refine g_put C (ws' := [(y0, .inr (2, [.ref t0, .int (iI total), .ref ys, .ref r2, .ref r5, .ref r8, .ref r11, .ref r14, .ref yb, .ref yu])), (yb, .inl (cI, aI (6 * cap) gbe)), (yk, .inl (cI, aI cap gk)), (r2, .inl (cI, aI N (cpZ gk (fun _ => 0) 0 0 ((cap : Nat) : Int)))), (yc, .inl (cI, aI cap gct)), (r5, .inl (cI, aI N (cpZ gct (fun _ => 0) 0 0 ((cap : Nat) : Int)))), (yd, .inl (cI, aI cap gcf)), (r8, .inl (cI, aI N (cpZ gcf (fun _ => 0) 0 0 ((cap : Nat) : Int)))), (yw, .inl (cJ, aL cap gwt)), (r11, .inl (cJ, aL N (cpZ gwt (fun _ => 0) 0 0 ((cap : Nat) : Int)))), (yx, .inl (cJ, aL cap gwf)), (r14, .inl (cJ, aL N (cpZ gwf (fun _ => 0) 0 0 ((cap : Nat) : Int))))]) (st_sub sti_Y) stt_Y sto_Y stn_Y 0 rfl rfl 7 (by decide) (List.mem_cons_of_mem _ kw_1_96) rfl rfl rfl rfl (Nat.le_of_ble_eq_true rfl) std_Y_growTo_85 rfl ?_
    refine g_aload_n C 1 std_Y_growTo_88 rfl ?_
    refine g_aload_n C 1 std_Y_growTo_89 rfl ?_
    refine g_get C (st_sub sti_Y) 0 rfl rfl 8 (by decide) (List.mem_cons_of_mem _ kw_1_99) rfl rfl std_Y_growTo_90 ?_
    refine g_iload_n C 0 std_Y_growTo_93 rfl ?_
    refine g_bipush C std_Y_growTo_94 (by decide) ?_
    refine g_imul C std_Y_growTo_96 ?_
    refine g_st (st' := [.int (iI ((6 * N : Nat) : Int)), .ref yb, .ref y0]) (by rw [show ((N : Nat) : Int) * 6 = ((6 * N : Nat) : Int) by omega]) ?_
    refine g_S_r (wc := [(yb, .inl (cI, aI (6 * cap) gbe))]) (wr := [(y0, .inr (2, [.ref t0, .int (iI total), .ref ys, .ref r2, .ref r5, .ref r8, .ref r11, .ref r14, .ref yb, .ref yu])), (yk, .inl (cI, aI cap gk)), (r2, .inl (cI, aI N (cpZ gk (fun _ => 0) 0 0 ((cap : Nat) : Int)))), (yc, .inl (cI, aI cap gct)), (r5, .inl (cI, aI N (cpZ gct (fun _ => 0) 0 0 ((cap : Nat) : Int)))), (yd, .inl (cI, aI cap gcf)), (r8, .inl (cI, aI N (cpZ gcf (fun _ => 0) 0 0 ((cap : Nat) : Int)))), (yw, .inl (cJ, aL cap gwt)), (r11, .inl (cJ, aL N (cpZ gwt (fun _ => 0) 0 0 ((cap : Nat) : Int)))), (yx, .inl (cJ, aL cap gwf)), (r14, .inl (cJ, aL N (cpZ gwf (fun _ => 0) 0 0 ((cap : Nat) : Int))))]) (rest := [.ref y0]) C (c_copyOfI l dC dI cI cJ cZ yb (6 * cap) (6 * N) gbe (by omega) (by omega)) (st_cS C kw_2_56 kw_2_54 kw_1_8 kw_2_55 sth_A_copyOfI ⟨Nat.le_of_ble_eq_true rfl, Nat.le_of_ble_eq_true rfl⟩) rfl rfl (Nat.le_of_ble_eq_true rfl) std_Y_growTo_97 ⟨Nat.le_of_ble_eq_true rfl, by show _ ≤ q; omega⟩ [1] [0, 2, 3, 4, 5, 6, 7, 8, 9, 10, 11] rfl rfl rfl rfl (by decide) (fun u18 r17 h19 => ?_)
    refine g_ws (ws' := [(y0, .inr (2, [.ref t0, .int (iI total), .ref ys, .ref r2, .ref r5, .ref r8, .ref r11, .ref r14, .ref yb, .ref yu])), (yk, .inl (cI, aI cap gk)), (r2, .inl (cI, aI N (cpZ gk (fun _ => 0) 0 0 ((cap : Nat) : Int)))), (yc, .inl (cI, aI cap gct)), (r5, .inl (cI, aI N (cpZ gct (fun _ => 0) 0 0 ((cap : Nat) : Int)))), (yd, .inl (cI, aI cap gcf)), (r8, .inl (cI, aI N (cpZ gcf (fun _ => 0) 0 0 ((cap : Nat) : Int)))), (yw, .inl (cJ, aL cap gwt)), (r11, .inl (cJ, aL N (cpZ gwt (fun _ => 0) 0 0 ((cap : Nat) : Int)))), (yx, .inl (cJ, aL cap gwf)), (r14, .inl (cJ, aL N (cpZ gwf (fun _ => 0) 0 0 ((cap : Nat) : Int)))), (yb, .inl (cI, aI (6 * cap) gbe)), (r17, .inl (cI, aI (6 * N) (cpZ gbe (fun _ => 0) 0 0 (((6 * cap) : Nat) : Int))))]) rfl ?_
    refine g_put C (ws' := [(y0, .inr (2, [.ref t0, .int (iI total), .ref ys, .ref r2, .ref r5, .ref r8, .ref r11, .ref r14, .ref r17, .ref yu])), (yk, .inl (cI, aI cap gk)), (r2, .inl (cI, aI N (cpZ gk (fun _ => 0) 0 0 ((cap : Nat) : Int)))), (yc, .inl (cI, aI cap gct)), (r5, .inl (cI, aI N (cpZ gct (fun _ => 0) 0 0 ((cap : Nat) : Int)))), (yd, .inl (cI, aI cap gcf)), (r8, .inl (cI, aI N (cpZ gcf (fun _ => 0) 0 0 ((cap : Nat) : Int)))), (yw, .inl (cJ, aL cap gwt)), (r11, .inl (cJ, aL N (cpZ gwt (fun _ => 0) 0 0 ((cap : Nat) : Int)))), (yx, .inl (cJ, aL cap gwf)), (r14, .inl (cJ, aL N (cpZ gwf (fun _ => 0) 0 0 ((cap : Nat) : Int)))), (yb, .inl (cI, aI (6 * cap) gbe)), (r17, .inl (cI, aI (6 * N) (cpZ gbe (fun _ => 0) 0 0 (((6 * cap) : Nat) : Int))))]) (st_sub sti_Y) stt_Y sto_Y stn_Y 0 rfl rfl 8 (by decide) (List.mem_cons_of_mem _ kw_1_99) rfl rfl rfl rfl (Nat.le_of_ble_eq_true rfl) std_Y_growTo_100 rfl ?_
    refine g_sub (ws' := [(y0, .inr (2, [.ref t0, .int (iI total), .ref ys, .ref r2, .ref r5, .ref r8, .ref r11, .ref r14, .ref r17, .ref yu])), (r2, .inl (cI, aI N (cpZ gk (fun _ => 0) 0 0 ((cap : Nat) : Int)))), (r5, .inl (cI, aI N (cpZ gct (fun _ => 0) 0 0 ((cap : Nat) : Int)))), (r8, .inl (cI, aI N (cpZ gcf (fun _ => 0) 0 0 ((cap : Nat) : Int)))), (r11, .inl (cJ, aL N (cpZ gwt (fun _ => 0) 0 0 ((cap : Nat) : Int)))), (r14, .inl (cJ, aL N (cpZ gwf (fun _ => 0) 0 0 ((cap : Nat) : Int)))), (r17, .inl (cI, aI (6 * N) (cpZ gbe (fun _ => 0) 0 0 (((6 * cap) : Nat) : Int))))]) [0, 2, 4, 6, 8, 10, 12] rfl rfl ?_
    refine g_wide (k := 6) (n := q) (Nat.le_of_ble_eq_true rfl) (by omega) ?_
    exact hret _ _ (r2, r5, r8, r11, r14, r17, (cpZ gk (fun _ => 0) 0 0 ((cap : Nat) : Int)), (cpZ gct (fun _ => 0) 0 0 ((cap : Nat) : Int)), (cpZ gcf (fun _ => 0) 0 0 ((cap : Nat) : Int)), (cpZ gwt (fun _ => 0) 0 0 ((cap : Nat) : Int)), (cpZ gwf (fun _ => 0) 0 0 ((cap : Nat) : Int)), (cpZ gbe (fun _ => 0) 0 0 (((6 * cap) : Nat) : Int))) (⟨fun j h1 h2 => cpZ_lo (f := gk) (g := fun _ => 0) (n := ((cap : Nat) : Int)) h1 (by omega), fun j h1 h2 => cpZ_lo (f := gct) (g := fun _ => 0) (n := ((cap : Nat) : Int)) h1 (by omega), fun j h1 h2 => cpZ_lo (f := gcf) (g := fun _ => 0) (n := ((cap : Nat) : Int)) h1 (by omega), fun j h1 h2 => cpZ_lo (f := gwt) (g := fun _ => 0) (n := ((cap : Nat) : Int)) h1 (by omega), fun j h1 h2 => cpZ_lo (f := gwf) (g := fun _ => 0) (n := ((cap : Nat) : Int)) h1 (by omega), fun j h1 h2 => cpZ_lo (f := gbe) (g := fun _ => 0) (n := (((6 * cap) : Nat) : Int)) h1 (by omega)⟩) std_Y_growTo_103
  · refine g_wide (k := 6) (n := q) (Nat.le_of_ble_eq_true rfl) (by omega) ?_
    have hNc : N = cap := by omega
    subst hNc
    exact hret _ _ (yk, yc, yd, yw, yx, yb, gk, gct, gcf, gwt, gwf, gbe) (⟨fun _ _ _ => rfl, fun _ _ _ => rfl, fun _ _ _ => rfl, fun _ _ _ => rfl, fun _ _ _ => rfl, fun _ _ _ => rfl⟩) std_Y_growTo_9
end
section
/-! THE LAYERS, as numbers: keys, ways, costs -/
def vk (k : Int) : Prop := 0 ≤ k ∧ k / 512 ≤ 40 ∧ k / 8 % 64 ≤ 40 ∧ k % 8 ≤ 6
/-- what is told lies within its bounds -/
def TB (fsz fco ffu fsu fbb fmo : Int → Int) : Prop := (∀ j, 0 ≤ j → j < 12 → 0 ≤ fsz j ∧ fsz j ≤ 6) ∧ (∀ j, 0 ≤ j → j < 72 → -1000 ≤ fco j ∧ fco j ≤ 1000) ∧ (∀ j, 0 ≤ j → j < 72 → (0 ≤ ffu j ∧ ffu j ≤ 20) ∧ (0 ≤ fsu j ∧ fsu j ≤ 20) ∧ 0 ≤ fbb j ∧ fbb j < 64) ∧ (∀ j, 0 ≤ j → j < 2 → 0 ≤ fmo j ∧ fmo j ≤ 40)
theorem kn_dec {fbb ffu fsu fmo : Int → Int} {pl c k : Int} (h : ¬ kn fbb ffu fsu fmo pl c k = -1) : kop fbb ffu fsu fmo pl k := Classical.byContradiction fun q => h (kn_shut q)
theorem kn_val {fbb ffu fsu fmo : Int → Int} {pl c k : Int} (hk : 0 ≤ k) (h : ¬ kn fbb ffu fsu fmo pl c k = -1) : kn fbb ffu fsu fmo pl c k = 8 * (k / 8) + (ffu pl * 512 + fsu pl * 8 + (c + 1)) := by
  rw [kn_open (kn_dec h)]
  omega
theorem kn_vk {fsz fco ffu fsu fbb fmo : Int → Int} (hT : TB fsz fco ffu fsu fbb fmo) {pl c k : Int} (h0 : 0 ≤ pl) (h1 : pl < 72) (hc0 : 0 ≤ c) (hc : c < 6) (hk : vk k) (h : ¬ kn fbb ffu fsu fmo pl c k = -1) : vk (kn fbb ffu fsu fmo pl c k) ∧ kn fbb ffu fsu fmo pl c k % 8 = c + 1 ∧ 1 ≤ kn fbb ffu fsu fmo pl c k := by
  have h2 := kn_dec h
  have h3 := hT.2.2.1 pl h0 h1
  have h4 := hT.2.2.2 0 (by omega) (by omega)
  have h5 := hT.2.2.2 1 (by omega) (by omega)
  obtain ⟨-, h6, h7⟩ := h2
  rw [kn_open (kn_dec h)]
  unfold vk at hk ⊢
  omega
theorem kn_mono {fbb ffu fsu fmo : Int → Int} {pl c k1 k2 : Int} (h0 : 0 ≤ k1) (h : k1 ≤ k2) (q1 : ¬ kn fbb ffu fsu fmo pl c k1 = -1) (q2 : ¬ kn fbb ffu fsu fmo pl c k2 = -1) : kn fbb ffu fsu fmo pl c k1 ≤ kn fbb ffu fsu fmo pl c k2 := by
  rw [kn_val h0 q1, kn_val (by omega) q2]
  omega
/-- rows to a node of layer d -/
noncomputable def wt (fsz ffu fsu fbb fmo : Int → Int) : Nat → Int → Int
  | 0, k => if k = 0 then 1 else 0
  | d + 1, k => sumR (fun j => if (0 ≤ k % 8 - 1 ∧ k % 8 - 1 < fsz (d : Int)) ∧ kn fbb ffu fsu fmo ((d : Int) * 6 + (k % 8 - 1)) (k % 8 - 1) j = k then wt fsz ffu fsu fbb fmo d j else 0) 0 32768
noncomputable def ct (fsz fco ffu fsu fbb fmo : Int → Int) : Nat → Int → Int
  | 0, _ => 0
  | d + 1, k => minR (fun j => 0 < wt fsz ffu fsu fbb fmo d j ∧ kn fbb ffu fsu fmo ((d : Int) * 6 + (k % 8 - 1)) (k % 8 - 1) j = k) (fun j => ct fsz fco ffu fsu fbb fmo d j + fco ((d : Int) * 6 + (k % 8 - 1))) 0 32768
noncomputable def cn (fsz ffu fsu fbb fmo : Int → Int) (d : Nat) : Int := sumR (fun k => if 0 < wt fsz ffu fsu fbb fmo d k then 1 else 0) 0 32768
theorem sumR_nn {g : Int → Int} {s : Int} (h : ∀ i, 0 ≤ g i) : ∀ n, 0 ≤ sumR g s n
  | 0 => Int.le_refl 0
  | n + 1 => Int.add_nonneg (sumR_nn h n) (h _)
theorem wt_nn {fsz ffu fsu fbb fmo : Int → Int} : ∀ (d : Nat) (k : Int), 0 ≤ wt fsz ffu fsu fbb fmo d k
  | 0, k => by
    show 0 ≤ (if k = 0 then (1 : Int) else 0)
    split <;> omega
  | d + 1, k => by
    refine sumR_nn (fun i => ?_) _
    split
    · exact wt_nn d i
    · exact Int.le_refl 0
theorem sumR_pos {g : Int → Int} {s : Int} (h : ∀ i, 0 ≤ g i) : ∀ n, 0 < sumR g s n → ∃ i, s ≤ i ∧ i < s + (n : Int) ∧ 0 < g i
  | 0, q => absurd q (Int.lt_irrefl 0)
  | n + 1, q => by
    by_cases r : 0 < g (s + (n : Int))
    · exact ⟨s + (n : Int), by omega, by omega, r⟩
    · have r2 := h (s + (n : Int))
      have r3 : g (s + (n : Int)) = 0 := by omega
      have q2 : 0 < sumR g s n + g (s + (n : Int)) := q
      rw [r3, Int.add_zero] at q2
      obtain ⟨i, a, b, c⟩ := sumR_pos h n q2
      exact ⟨i, a, by omega, c⟩
/-- a key of the next layer comes from one of this -/
theorem wt_from {fsz ffu fsu fbb fmo : Int → Int} {d : Nat} {k : Int} (h : 0 < wt fsz ffu fsu fbb fmo (d + 1) k) : ∃ j, (0 ≤ j ∧ j < 32768) ∧ 0 < wt fsz ffu fsu fbb fmo d j ∧ (0 ≤ k % 8 - 1 ∧ k % 8 - 1 < fsz (d : Int)) ∧ kn fbb ffu fsu fmo ((d : Int) * 6 + (k % 8 - 1)) (k % 8 - 1) j = k := by
  obtain ⟨j, h1, h2, h3⟩ := sumR_pos (fun i => by
    show 0 ≤ (if (0 ≤ k % 8 - 1 ∧ k % 8 - 1 < fsz (d : Int)) ∧ kn fbb ffu fsu fmo ((d : Int) * 6 + (k % 8 - 1)) (k % 8 - 1) i = k then wt fsz ffu fsu fbb fmo d i else 0)
    split
    · exact wt_nn d i
    · exact Int.le_refl 0) _ h
  by_cases q : (0 ≤ k % 8 - 1 ∧ k % 8 - 1 < fsz (d : Int)) ∧ kn fbb ffu fsu fmo ((d : Int) * 6 + (k % 8 - 1)) (k % 8 - 1) j = k
  · rw [if_pos q] at h3
    exact ⟨j, ⟨by omega, by omega⟩, h3, q.1, q.2⟩
  · rw [if_neg q] at h3
    exact absurd h3 (Int.lt_irrefl 0)
theorem wt_vk {fsz fco ffu fsu fbb fmo : Int → Int} (hT : TB fsz fco ffu fsu fbb fmo) : ∀ (d : Nat) (k : Int), d ≤ 12 → 0 < wt fsz ffu fsu fbb fmo d k → vk k := by
  intro d
  induction d with
  | zero =>
    intro k _ h
    unfold wt at h
    by_cases q : k = 0
    · subst q; unfold vk; omega
    · rw [if_neg q] at h; omega
  | succ d ih =>
    intro k hd h
    obtain ⟨j, h1, h2, h3, h4⟩ := wt_from h
    have hj := ih j (by omega) h2
    have hs := hT.1 (d : Int) (by omega) (by omega)
    have hne : ¬ kn fbb ffu fsu fmo ((d : Int) * 6 + (k % 8 - 1)) (k % 8 - 1) j = -1 := by rw [h4]; omega
    have h5 := kn_vk hT (c := k % 8 - 1) (pl := (d : Int) * 6 + (k % 8 - 1)) (by omega) (by omega) (by omega) (by omega) hj hne
    rw [h4] at h5
    exact h5.1
/-- over the nodes, in the order of their keys, and over all keys -/
theorem sum_keys {g gk : Int → Int} {s : Int} : ∀ (n K : Nat), (∀ i j, s ≤ i → i < j → j < s + (n : Int) → gk i < gk j) → (∀ i, s ≤ i → i < s + (n : Int) → 0 ≤ gk i ∧ gk i < (K : Int)) → (∀ k, 0 ≤ k → k < (K : Int) → ¬ g k = 0 → ∃ i, s ≤ i ∧ i < s + (n : Int) ∧ gk i = k) → sumR (fun i => g (gk i)) s n = sumR g 0 K
  | 0, K, _, _, h3 => by
    have := sumR_gap (g := g) (s := 0) (n := 0) K (fun i a b => Classical.byContradiction fun q => by
      obtain ⟨z, z1, z2, -⟩ := h3 i (by omega) (by omega) q
      omega)
    rw [Nat.zero_add] at this
    rw [this]
    rfl
  | n + 1, K, h1, h2, h3 => by
    obtain ⟨a1, a2⟩ := h2 (s + (n : Int)) (by omega) (by omega)
    obtain ⟨m, hm⟩ : ∃ m : Nat, gk (s + (n : Int)) = (m : Int) := ⟨(gk (s + (n : Int))).toNat, by omega⟩
    obtain ⟨t, ht⟩ : ∃ t : Nat, K = (m + 1) + t := ⟨K - (m + 1), by omega⟩
    have e1 : sumR g 0 K = sumR g 0 (m + 1) := by
      rw [ht]
      refine sumR_gap t (fun i b1 b2 => Classical.byContradiction fun q => ?_)
      obtain ⟨z, z1, z2, z3⟩ := h3 i (by omega) (by omega) q
      by_cases r : z = s + (n : Int)
      · subst r; omega
      · have := h1 z (s + (n : Int)) z1 (by omega) (by omega); omega
    have ih := sum_keys (g := g) (gk := gk) (s := s) n m (fun i j b1 b2 b3 => h1 i j b1 b2 (by omega)) (fun i b1 b2 => ⟨(h2 i b1 (by omega)).1, by rw [← hm]; exact h1 i _ b1 (by omega) (by omega)⟩) (fun k b1 b2 b3 => by
      obtain ⟨z, z1, z2, z3⟩ := h3 k b1 (by omega) b3
      refine ⟨z, z1, ?_, z3⟩
      by_cases r : z = s + (n : Int)
      · subst r; omega
      · omega)
    rw [e1]
    show sumR (fun i => g (gk i)) s n + g (gk (s + (n : Int))) = sumR g 0 m + g (0 + (m : Int))
    rw [ih, hm, Int.zero_add]
theorem sum_keys_le {g gk : Int → Int} {s : Int} (hg : ∀ k, 0 ≤ g k) : ∀ (n K : Nat), (∀ i j, s ≤ i → i < j → j < s + (n : Int) → gk i < gk j) → (∀ i, s ≤ i → i < s + (n : Int) → 0 ≤ gk i ∧ gk i < (K : Int)) → sumR (fun i => g (gk i)) s n ≤ sumR g 0 K
  | 0, K, _, _ => sumR_nn hg K
  | n + 1, K, h1, h2 => by
    obtain ⟨a1, a2⟩ := h2 (s + (n : Int)) (by omega) (by omega)
    obtain ⟨m, hm⟩ : ∃ m : Nat, gk (s + (n : Int)) = (m : Int) := ⟨(gk (s + (n : Int))).toNat, by omega⟩
    have mono : ∀ t : Nat, sumR g 0 (m + 1) ≤ sumR g 0 (m + 1 + t) := by
      intro t
      induction t with
      | zero => exact Int.le_refl _
      | succ t ih => exact Int.le_trans ih (Int.le_add_of_nonneg_right (hg _))
    have e1 := mono (K - (m + 1))
    rw [show m + 1 + (K - (m + 1)) = K by omega] at e1
    have ih := sum_keys_le (g := g) (gk := gk) (s := s) hg n m (fun i j b1 b2 b3 => h1 i j b1 b2 (by omega)) (fun i b1 b2 => ⟨(h2 i b1 (by omega)).1, by rw [← hm]; exact h1 i _ b1 (by omega) (by omega)⟩)
    refine Int.le_trans ?_ e1
    show sumR (fun i => g (gk i)) s n + g (gk (s + (n : Int))) ≤ sumR g 0 m + g (0 + (m : Int))
    rw [hm, Int.zero_add]
    omega
theorem min_keys {P : Int → Prop} {v gk : Int → Int} {s : Int} : ∀ (n K : Nat), (∀ i j, s ≤ i → i < j → j < s + (n : Int) → gk i < gk j) → (∀ i, s ≤ i → i < s + (n : Int) → 0 ≤ gk i ∧ gk i < (K : Int)) → (∀ k, 0 ≤ k → k < (K : Int) → P k → ∃ i, s ≤ i ∧ i < s + (n : Int) ∧ gk i = k) → minR (fun i => P (gk i)) (fun i => v (gk i)) s n = minR P v 0 K
  | 0, K, _, _, h3 => by
    have := minR_gap (P := P) (v := v) (s := 0) (n := 0) K (fun i a b q => by
      obtain ⟨z, z1, z2, -⟩ := h3 i (by omega) (by omega) q
      omega)
    rw [Nat.zero_add] at this
    rw [this]
    rfl
  | n + 1, K, h1, h2, h3 => by
    obtain ⟨a1, a2⟩ := h2 (s + (n : Int)) (by omega) (by omega)
    obtain ⟨m, hm⟩ : ∃ m : Nat, gk (s + (n : Int)) = (m : Int) := ⟨(gk (s + (n : Int))).toNat, by omega⟩
    obtain ⟨t, ht⟩ : ∃ t : Nat, K = (m + 1) + t := ⟨K - (m + 1), by omega⟩
    have e1 : minR P v 0 K = minR P v 0 (m + 1) := by
      rw [ht]
      refine minR_gap t (fun i b1 b2 q => ?_)
      obtain ⟨z, z1, z2, z3⟩ := h3 i (by omega) (by omega) q
      by_cases r : z = s + (n : Int)
      · subst r; omega
      · have := h1 z (s + (n : Int)) z1 (by omega) (by omega); omega
    have ih := min_keys (P := P) (v := v) (gk := gk) (s := s) n m (fun i j b1 b2 b3 => h1 i j b1 b2 (by omega)) (fun i b1 b2 => ⟨(h2 i b1 (by omega)).1, by rw [← hm]; exact h1 i _ b1 (by omega) (by omega)⟩) (fun k b1 b2 b3 => by
      obtain ⟨z, z1, z2, z3⟩ := h3 k b1 (by omega) b3
      refine ⟨z, z1, ?_, z3⟩
      by_cases r : z = s + (n : Int)
      · subst r; omega
      · omega)
    rw [e1]
    by_cases q : P (gk (s + (n : Int)))
    · rw [minR_yes (P := fun i => P (gk i)) q, ih, minR_yes (P := P) (by rw [Int.zero_add, ← hm]; exact q), hm, Int.zero_add]
    · rw [minR_no (P := fun i => P (gk i)) q, ih, minR_no (P := P) (by rw [Int.zero_add, ← hm]; exact q)]
theorem sumR_split {g : Int → Int} {s : Int} {n : Nat} : ∀ m : Nat, sumR g s (n + m) = sumR g s n + sumR g (s + (n : Int)) m
  | 0 => (Int.add_zero _).symm
  | m + 1 => by
    show sumR g s (n + m) + g (s + ((n + m : Nat) : Int)) = sumR g s n + (sumR g (s + (n : Int)) m + g (s + (n : Int) + (m : Int)))
    rw [sumR_split m, show s + ((n + m : Nat) : Int) = s + (n : Int) + (m : Int) by omega, Int.add_assoc]
theorem sumR_congr {g h : Int → Int} {s : Int} : ∀ n : Nat, (∀ i, s ≤ i → i < s + (n : Int) → g i = h i) → sumR g s n = sumR h s n
  | 0, _ => rfl
  | n + 1, q => by
    show sumR g s n + _ = sumR h s n + _
    rw [sumR_congr n (fun i a b => q i a (by omega)), q _ (by omega) (by omega)]
theorem minR_congr {P P' : Int → Prop} {v v' : Int → Int} {s : Int} : ∀ n : Nat, (∀ i, s ≤ i → i < s + (n : Int) → (P i ↔ P' i) ∧ (P i → v i = v' i)) → minR P v s n = minR P' v' s n
  | 0, _ => rfl
  | n + 1, q => by
    obtain ⟨a, b⟩ := q (s + (n : Int)) (by omega) (by omega)
    have ih := minR_congr n (fun i h1 h2 => q i h1 (by omega))
    by_cases r : P (s + (n : Int))
    · rw [minR_yes r, minR_yes (a.mp r), ih, b r]
    · rw [minR_no r, minR_no (fun z => r (a.mpr z)), ih]
theorem minR_zero {P : Int → Prop} {v : Int → Int} {s : Int} : ∀ n : Nat, (∀ i, s ≤ i → i < s + (n : Int) → ¬ P i) → minR P v s n = 900000
  | 0, _ => rfl
  | n + 1, q => by
    rw [minR_no (q _ (by omega) (by omega))]
    exact minR_zero n (fun i a b => q i a (by omega))
theorem minR_split {P : Int → Prop} {v : Int → Int} {s : Int} {n : Nat} (h : ∀ i, s ≤ i → i < s + (n : Int) → ¬ P i) : ∀ m : Nat, minR P v s (n + m) = minR P v (s + (n : Int)) m
  | 0 => minR_zero n h
  | m + 1 => by
    have e : s + ((n + m : Nat) : Int) = s + (n : Int) + (m : Int) := by omega
    by_cases r : P (s + (n : Int) + (m : Int))
    · rw [show n + (m + 1) = (n + m) + 1 by omega, minR_yes (by rw [e]; exact r), minR_yes r, minR_split h m, e]
    · rw [show n + (m + 1) = (n + m) + 1 by omega, minR_no (by rw [e]; exact r), minR_no r, minR_split h m]
theorem minR_le {P : Int → Prop} {v : Int → Int} {s : Int} : ∀ n : Nat, ∀ i, s ≤ i → i < s + (n : Int) → P i → minR P v s n ≤ v i
  | 0, i, a, b, _ => by omega
  | n + 1, i, a, b, q => by
    by_cases r : i = s + (n : Int)
    · subst r; rw [minR_yes q]; omega
    · have ih := minR_le (P := P) (v := v) n i a (by omega) q
      by_cases z : P (s + (n : Int))
      · rw [minR_yes z]; omega
      · rw [minR_no z]; exact ih
theorem minR_ge {P : Int → Prop} {v : Int → Int} {s lo : Int} (h0 : lo ≤ 900000) : ∀ n : Nat, (∀ i, s ≤ i → i < s + (n : Int) → P i → lo ≤ v i) → lo ≤ minR P v s n
  | 0, _ => h0
  | n + 1, q => by
    have ih := minR_ge (P := P) (v := v) h0 n (fun i a b => q i a (by omega))
    by_cases z : P (s + (n : Int))
    · rw [minR_yes z]; have := q _ (by omega) (by omega) z; omega
    · rw [minR_no z]; exact ih
end
section
/-! LAYING ONE LAYER BEHIND ANOTHER: the invariant -/
theorem sumR_term {g : Int → Int} {s : Int} (h : ∀ i, 0 ≤ g i) : ∀ n : Nat, ∀ i, s ≤ i → i < s + (n : Int) → g i ≤ sumR g s n
  | 0, i, a, b => by omega
  | n + 1, i, a, b => by
    have h2 := sumR_nn (s := s) h n
    have h3 := h (s + (n : Int))
    show g i ≤ sumR g s n + g (s + (n : Int))
    by_cases r : i = s + (n : Int)
    · subst r; omega
    · have ih := sumR_term h n i a (by omega); omega
theorem sumR_upd {g g' : Int → Int} {s b : Int} (hne : ∀ i, ¬ i = b → g' i = g i) (hb : g b + 1 ≤ g' b) : ∀ n : Nat, (sumR g s n ≤ sumR g' s n) ∧ (s ≤ b → b < s + (n : Int) → sumR g s n + 1 ≤ sumR g' s n)
  | 0 => ⟨Int.le_refl _, fun a c => by omega⟩
  | n + 1 => by
    obtain ⟨i1, i2⟩ := sumR_upd (s := s) hne hb n
    show sumR g s n + g (s + (n : Int)) ≤ sumR g' s n + g' (s + (n : Int)) ∧ (_ → _ → sumR g s n + g (s + (n : Int)) + 1 ≤ sumR g' s n + g' (s + (n : Int)))
    by_cases r : s + (n : Int) = b
    · rw [r]; exact ⟨by omega, fun _ _ => by omega⟩
    · rw [hne _ r]
      refine ⟨by omega, fun a c => ?_⟩
      have := i2 a (by omega)
      omega
theorem sumR_cap {g : Int → Int} {s u b : Int} (h : ∀ i, s ≤ i → g i ≤ u) (hb : g b < u) : ∀ n : Nat, (∀ i, s ≤ i → i < s + (n : Int) → g i ≤ u) → sumR g s n ≤ (n : Int) * u ∧ (s ≤ b → b < s + (n : Int) → sumR g s n < (n : Int) * u)
  | 0, _ => ⟨by show (0 : Int) ≤ _; simp, fun a c => by omega⟩
  | n + 1, q => by
    obtain ⟨i1, i2⟩ := sumR_cap (s := s) h hb n (fun i a c => q i a (by omega))
    have e : ((n + 1 : Nat) : Int) * u = (n : Int) * u + u := by rw [Int.natCast_add, Int.add_mul]; simp
    rw [e]
    show sumR g s n + g (s + (n : Int)) ≤ _ ∧ (_ → _ → sumR g s n + g (s + (n : Int)) < _)
    have q1 := q (s + (n : Int)) (by omega) (by omega)
    refine ⟨by omega, fun a c => ?_⟩
    by_cases r : b = s + (n : Int)
    · rw [← r]; omega
    · have := i2 a (by omega); omega
def LO (fsz fco ffu fsu fbb fmo : Int → Int) (d : Nat) (s e : Int) (gk gwt gct : Int → Int) : Prop :=
  (∀ i, s ≤ i → i < e → vk (gk i) ∧ gwt i = wt fsz ffu fsu fbb fmo d (gk i) ∧ 0 < gwt i ∧ gct i = ct fsz fco ffu fsu fbb fmo d (gk i)) ∧
  (∀ i j, s ≤ i → i < j → j < e → gk i < gk j) ∧ (∀ k, 0 < wt fsz ffu fsu fbb fmo d k → ∃ i, s ≤ i ∧ i < e ∧ gk i = k)
def LBi (ffu fsu fbb fmo gk B0 : Int → Int) (a s e x : Int) (CU F : Int → Int) : Prop :=
  (∀ c, 0 ≤ c → c < x → (s ≤ CU c ∧ CU c ≤ e) ∧ (CU c < e → ¬ kn fbb ffu fsu fmo (a * 6 + c) c (gk (CU c)) = -1) ∧ (∀ i, s ≤ i → i < CU c → kn fbb ffu fsu fmo (a * 6 + c) c (gk i) = -1)) ∧
  (∀ c i, 0 ≤ c → c < x → s ≤ i → i < e → F (i * 6 + c) = kn fbb ffu fsu fmo (a * 6 + c) c (gk i)) ∧ (∀ j, j < s * 6 → F j = B0 j)
theorem li_0 {ffu fsu fbb fmo gk B0 CU F : Int → Int} {a s e : Int} (h : ∀ j, j < s * 6 → F j = B0 j) : LBi ffu fsu fbb fmo gk B0 a s e 0 CU F := ⟨fun c h1 h2 => by omega, fun c i h1 h2 => by omega, h⟩
theorem li_step {ffu fsu fbb fmo gk B0 CU F F1 CU2 : Int → Int} {a s e x : Int} (h : LBi ffu fsu fbb fmo gk B0 a s e x CU F) (hx : 0 ≤ x ∧ x < 6) (hse : s ≤ e)
    (f1 : ∀ i, s ≤ i → i < e → F1 (i * 6 + x) = kn fbb ffu fsu fmo (a * 6 + x) x (gk i)) (f2 : ∀ j, (∀ i, s ≤ i → i < e → ¬ j = i * 6 + x) → F1 j = F j)
    (q1 : ∀ j, ¬ j = x → CU2 j = uZ CU x s j) (q2 : uZ CU x s x ≤ CU2 x ∧ CU2 x ≤ e) (q3 : ∀ i, uZ CU x s x ≤ i → i < CU2 x → F1 (i * 6 + x) = -1) (q4 : CU2 x < e → ¬ F1 (CU2 x * 6 + x) = -1) (h6 : ∀ c, 0 ≤ c → c < x → c < 6) :
    LBi ffu fsu fbb fmo gk B0 a s e (x + 1) CU2 F1 := by
  obtain ⟨k1, k2, k3⟩ := h
  rw [uZ_s] at q2 q3
  refine ⟨fun c h1 h2 => ?_, fun c i h1 h2 h3 h4 => ?_, fun j hj => ?_⟩
  · by_cases q : c = x
    · subst q
      refine ⟨q2, fun hl => ?_, fun i i1 i2 => ?_⟩
      · rw [← f1 _ (by omega) hl]; exact q4 hl
      · rw [← f1 _ i1 (by omega)]; exact q3 i i1 i2
    · rw [q1 c q, uZ_n q]; exact k1 c h1 (by omega)
  · by_cases q : c = x
    · subst q; exact f1 i h3 h4
    · rw [f2 _ (fun z z1 z2 => by have := h6 c h1 (by omega); omega)]; exact k2 c i h1 (by omega) h3 h4
  · rw [f2 j (fun i i1 i2 => by omega)]; exact k3 j hj
def LBp (fsz fco ffu fsu fbb fmo gk gwt gct B0 : Int → Int) (d : Nat) (s e T : Int) (CU F GK GC GW : Int → Int) : Prop :=
  (∀ i, i < e → GK i = gk i ∧ GC i = gct i ∧ GW i = gwt i) ∧
  (∀ c, 0 ≤ c → c < fsz (d : Int) → (s ≤ CU c ∧ CU c ≤ e) ∧ (CU c < e → ¬ kn fbb ffu fsu fmo ((d : Int) * 6 + c) c (gk (CU c)) = -1)) ∧
  (∀ c i, 0 ≤ c → c < fsz (d : Int) → CU c ≤ i → i < e → F (i * 6 + c) = kn fbb ffu fsu fmo ((d : Int) * 6 + c) c (gk i)) ∧
  (∀ c i, 0 ≤ c → c < fsz (d : Int) → s ≤ i → i < CU c → (kn fbb ffu fsu fmo ((d : Int) * 6 + c) c (gk i) = -1 ∧ F (i * 6 + c) = -1) ∨ ((e ≤ F (i * 6 + c) ∧ F (i * 6 + c) < T) ∧ GK (F (i * 6 + c)) = kn fbb ffu fsu fmo ((d : Int) * 6 + c) c (gk i) ∧ ¬ kn fbb ffu fsu fmo ((d : Int) * 6 + c) c (gk i) = -1)) ∧
  (∀ m m', e ≤ m → m < m' → m' < T → GK m < GK m') ∧
  (∀ m c, e ≤ m → m < T → 0 ≤ c → c < fsz (d : Int) → CU c < e → GK m < kn fbb ffu fsu fmo ((d : Int) * 6 + c) c (gk (CU c))) ∧
  (∀ m, e ≤ m → m < T → vk (GK m) ∧ GW m = wt fsz ffu fsu fbb fmo (d + 1) (GK m) ∧ 0 < GW m ∧ GC m = ct fsz fco ffu fsu fbb fmo (d + 1) (GK m)) ∧
  (∀ j, j < s * 6 → F j = B0 j) ∧ e ≤ T ∧ T - e ≤ sumR (fun c => CU c - s) 0 (fsz (d : Int)).toNat
theorem lb_0 {fsz fco ffu fsu fbb fmo gk gwt gct B0 CU F : Int → Int} {d : Nat} {s e : Int} (h : LBi ffu fsu fbb fmo gk B0 (d : Int) s e (fsz (d : Int)) CU F) : LBp fsz fco ffu fsu fbb fmo gk gwt gct B0 d s e e CU F gk gct gwt := by
  obtain ⟨k1, k2, k3⟩ := h
  refine ⟨fun i _ => ⟨rfl, rfl, rfl⟩, fun c h1 h2 => ⟨(k1 c h1 h2).1, (k1 c h1 h2).2.1⟩, fun c i h1 h2 h3 h4 => k2 c i h1 h2 (by have := (k1 c h1 h2).1; omega) h4, fun c i h1 h2 h3 h4 => ?_, fun m m' h1 h2 h3 => by omega, fun m c h1 h2 => by omega, fun m h1 h2 => by omega, k3, Int.le_refl _, ?_⟩
  · have h5 := (k1 c h1 h2).2.2 i h3 h4
    refine Or.inl ⟨h5, ?_⟩
    rw [k2 c i h1 h2 h3 (by have := (k1 c h1 h2).1; omega)]; exact h5
  · rw [Int.sub_self]
    have : ∀ n : Nat, (n : Int) ≤ fsz (d : Int) → 0 ≤ sumR (fun c => CU c - s) 0 n := by
      intro n
      induction n with
      | zero => intro _; exact Int.le_refl 0
      | succ n ih =>
        intro hn
        show 0 ≤ sumR (fun c => CU c - s) 0 n + (CU (0 + (n : Int)) - s)
        have h1 := ih (by omega)
        have h2 := (k1 (0 + (n : Int)) (by omega) (by omega)).1
        omega
    rcases Int.lt_or_le (fsz (d : Int)) 0 with q | q
    · rw [show (fsz (d : Int)).toNat = 0 by omega]; exact Int.le_refl 0
    · exact this _ (by omega)
end
section
/-! ONE NODE MORE KEEPS THE INVARIANT -/
set_option maxHeartbeats 4000000 in
theorem lb_step {fsz fco ffu fsu fbb fmo gk gwt gct B0 CU F GK GC GW CU2 F2 GC2 GW2 : Int → Int} {d : Nat} {s e T b lk : Int} (hT : TB fsz fco ffu fsu fbb fmo) (hd : d < 12) (hL : LO fsz fco ffu fsu fbb fmo d s e gk gwt gct) (hse : s ≤ e)
    (h : LBp fsz fco ffu fsu fbb fmo gk gwt gct B0 d s e T CU F GK GC GW) (hb0 : 0 ≤ b) (hb : b < fsz (d : Int)) (hCW : CWp CU F e (fsz (d : Int)) b lk)
    (hA : ANp F GC GW CU b (fco ((d : Int) * 6 + b)) e (F (CU b * 6 + b)) T CU2 F2 GC2 GW2) (hgt : CU b < CU2 b) (hne : CU2 b < e → ¬ F (CU2 b * 6 + b) = F (CU b * 6 + b)) :
    LBp fsz fco ffu fsu fbb fmo gk gwt gct B0 d s e (T + 1) CU2 F2 (uZ GK T (F (CU b * 6 + b))) GC2 GW2 := by
  obtain ⟨l1, l2, l3, l4, l5, l6, l7, l8, l9, l10⟩ := h
  obtain ⟨o1, o2, o3⟩ := hL
  obtain ⟨a1, a2, a3, a4, a5, ⟨a6, a6b, a6c, a6d⟩, a7, a7b⟩ := hA
  have hsz := hT.1 (d : Int) (by omega) (by omega)
  have hCb : CU b < e := by omega
  have hlk : ∀ c, 0 ≤ c → c < fsz (d : Int) → CU c < e → F (CU b * 6 + b) ≤ F (CU c * 6 + c) := by
    rcases hCW with ⟨q, -⟩ | ⟨-, -, q3, q4⟩
    · omega
    · intro c c1 c2 c3; rw [← q3]; exact q4 c c1 c2 c3
  have hsb := (l2 b hb0 hb).1
  have hkey : F (CU b * 6 + b) = kn fbb ffu fsu fmo ((d : Int) * 6 + b) b (gk (CU b)) := l3 b (CU b) hb0 hb (Int.le_refl _) hCb
  have hk1 : ¬ kn fbb ffu fsu fmo ((d : Int) * 6 + b) b (gk (CU b)) = -1 := (l2 b hb0 hb).2 hCb
  have hNK : ∀ i, CU b ≤ i → i < e → F (i * 6 + b) = kn fbb ffu fsu fmo ((d : Int) * 6 + b) b (gk i) := fun i i1 i2 => l3 b i hb0 hb i1 i2
  have hvk : ∀ i, s ≤ i → i < e → vk (gk i) := fun i i1 i2 => (o1 i i1 i2).1
  have hop : ∀ c i, 0 ≤ c → c < fsz (d : Int) → s ≤ i → i < e → ¬ kn fbb ffu fsu fmo ((d : Int) * 6 + c) c (gk i) = -1 → vk (kn fbb ffu fsu fmo ((d : Int) * 6 + c) c (gk i)) ∧ kn fbb ffu fsu fmo ((d : Int) * 6 + c) c (gk i) % 8 = c + 1 ∧ 1 ≤ kn fbb ffu fsu fmo ((d : Int) * 6 + c) c (gk i) := fun c i c1 c2 i1 i2 q => kn_vk hT (by omega) (by omega) c1 (by omega) (hvk i i1 i2) q
  have hmono : ∀ i i', s ≤ i → i ≤ i' → i' < e → ¬ kn fbb ffu fsu fmo ((d : Int) * 6 + b) b (gk i) = -1 → ¬ kn fbb ffu fsu fmo ((d : Int) * 6 + b) b (gk i') = -1 → kn fbb ffu fsu fmo ((d : Int) * 6 + b) b (gk i) ≤ kn fbb ffu fsu fmo ((d : Int) * 6 + b) b (gk i') := by
    intro i i' i1 i2 i3 q1 q2
    refine kn_mono (hvk i i1 (by omega)).1 ?_ q1 q2
    by_cases r : i = i'
    · subst r; exact Int.le_refl _
    · exact Int.le_of_lt (o2 i i' i1 (by omega) i3)
  have hkb := hop b (CU b) hb0 hb (by omega) hCb hk1
  -- the other choices' places are untouched
  have hF2 : ∀ c i, 0 ≤ c → c < fsz (d : Int) → ¬ c = b → F2 (i * 6 + c) = F (i * 6 + c) := fun c i c1 c2 q => a5 _ (fun z z1 z2 => by omega)
  have hF2b : ∀ i, i < CU b ∨ CU2 b ≤ i → F2 (i * 6 + b) = F (i * 6 + b) := fun i q => a5 _ (fun z z1 z2 => by omega)
  -- which nodes lead to the key
  have hlow : ∀ i, s ≤ i → i < CU b → ¬ kn fbb ffu fsu fmo ((d : Int) * 6 + b) b (gk i) = F (CU b * 6 + b) := by
    intro i i1 i2 q
    rcases l4 b i hb0 hb i1 i2 with ⟨x1, -⟩ | ⟨x1, x2, x3⟩
    · rw [x1] at q; omega
    · have := l6 _ b x1.1 x1.2 hb0 hb hCb
      rw [x2, q, ← hkey] at this
      omega
  have hhigh : ∀ i, CU2 b ≤ i → i < e → ¬ kn fbb ffu fsu fmo ((d : Int) * 6 + b) b (gk i) = F (CU b * 6 + b) := by
    intro i i1 i2 q
    have p1 : ¬ kn fbb ffu fsu fmo ((d : Int) * 6 + b) b (gk (CU2 b)) = -1 := by rw [← hNK _ (by omega) (by omega)]; exact a3 (by omega)
    have p2 : ¬ kn fbb ffu fsu fmo ((d : Int) * 6 + b) b (gk i) = -1 := by rw [q, hkey]; exact hk1
    have p3 := hmono (CU2 b) i (by omega) i1 i2 p1 p2
    have p4 := hmono (CU b) (CU2 b) (by omega) (by omega) (by omega) hk1 p1
    apply hne (by omega)
    rw [hNK _ (by omega) (by omega)]
    omega
  obtain ⟨n1, hn1⟩ : ∃ n : Nat, CU b = s + (n : Int) := ⟨(CU b - s).toNat, by omega⟩
  obtain ⟨n2, hn2⟩ : ∃ n : Nat, CU2 b = s + ((n1 + n : Nat) : Int) := ⟨(CU2 b - CU b).toNat, by omega⟩
  obtain ⟨n3, hn3⟩ : ∃ n : Nat, e = s + ((n1 + n2 + n : Nat) : Int) := ⟨(e - CU2 b).toNat, by omega⟩
  have en2 : (CU2 b - CU b).toNat = n2 := by omega
  have hcov : ∀ j, 0 < wt fsz ffu fsu fbb fmo d j → ∃ i, s ≤ i ∧ i < s + ((n1 + n2 + n3 : Nat) : Int) ∧ gk i = j := fun j q => by
    obtain ⟨i, i1, i2, i3⟩ := o3 j q
    exact ⟨i, i1, by omega, i3⟩
  have hbnd : ∀ i, s ≤ i → i < s + ((n1 + n2 + n3 : Nat) : Int) → 0 ≤ gk i ∧ gk i < ((32768 : Nat) : Int) := fun i i1 i2 => by
    have := hvk i i1 (by omega)
    unfold vk at this
    omega
  have hinc : ∀ i j, s ≤ i → i < j → j < s + ((n1 + n2 + n3 : Nat) : Int) → gk i < gk j := fun i j i1 i2 i3 => o2 i j i1 i2 (by omega)
  have hK8 : F (CU b * 6 + b) % 8 - 1 = b := by rw [hkey]; omega
  -- the ways
  have hW : GW2 T = wt fsz ffu fsu fbb fmo (d + 1) (F (CU b * 6 + b)) := by
    rw [a7b, en2]
    show _ = sumR (fun j => if (0 ≤ F (CU b * 6 + b) % 8 - 1 ∧ F (CU b * 6 + b) % 8 - 1 < fsz (d : Int)) ∧ kn fbb ffu fsu fmo ((d : Int) * 6 + (F (CU b * 6 + b) % 8 - 1)) (F (CU b * 6 + b) % 8 - 1) j = F (CU b * 6 + b) then wt fsz ffu fsu fbb fmo d j else 0) 0 32768
    rw [hK8]
    rw [← sum_keys (g := fun j => if (0 ≤ b ∧ b < fsz (d : Int)) ∧ kn fbb ffu fsu fmo ((d : Int) * 6 + b) b j = F (CU b * 6 + b) then wt fsz ffu fsu fbb fmo d j else 0) (gk := gk) (s := s) (n1 + n2 + n3) 32768 hinc hbnd (fun k k1 k2 k3 => hcov k (by
      try dsimp only at k3
      by_cases q : (0 ≤ b ∧ b < fsz (d : Int)) ∧ kn fbb ffu fsu fmo ((d : Int) * 6 + b) b k = F (CU b * 6 + b)
      · rw [if_pos q] at k3
        have := wt_nn (fsz := fsz) (ffu := ffu) (fsu := fsu) (fbb := fbb) (fmo := fmo) d k
        omega
      · rw [if_neg q] at k3; omega))]
    rw [sumR_gap (n := n1 + n2) n3 (fun i i1 i2 => by
      try dsimp only
      rw [if_neg (fun q => hhigh i (by omega) (by omega) q.2)])]
    rw [sumR_split n2, ← hn1]
    have z0 : sumR (fun i => (fun j => if (0 ≤ b ∧ b < fsz (d : Int)) ∧ kn fbb ffu fsu fmo ((d : Int) * 6 + b) b j = F (CU b * 6 + b) then wt fsz ffu fsu fbb fmo d j else 0) (gk i)) s n1 = 0 := by
      have := sumR_gap (g := fun i => (fun j => if (0 ≤ b ∧ b < fsz (d : Int)) ∧ kn fbb ffu fsu fmo ((d : Int) * 6 + b) b j = F (CU b * 6 + b) then wt fsz ffu fsu fbb fmo d j else 0) (gk i)) (s := s) (n := 0) n1 (fun i i1 i2 => by
        try dsimp only
        rw [if_neg (fun q => hlow i (by omega) (by omega) q.2)])
      rw [Nat.zero_add] at this
      rw [this]; rfl
    rw [z0, Int.zero_add]
    refine sumR_congr n2 (fun i i1 i2 => ?_)
    try dsimp only
    rw [hNK i i1 (by omega)]
    by_cases q : kn fbb ffu fsu fmo ((d : Int) * 6 + b) b (gk i) = F (CU b * 6 + b)
    · rw [if_pos q, if_pos ⟨⟨hb0, hb⟩, q⟩, (l1 i (by omega)).2.2, (o1 i (by omega) (by omega)).2.1]
    · rw [if_neg q, if_neg (fun z => q z.2)]
  -- the costs
  have hC : GC2 T = ct fsz fco ffu fsu fbb fmo (d + 1) (F (CU b * 6 + b)) := by
    rw [a6b, en2]
    show _ = minR (fun j => 0 < wt fsz ffu fsu fbb fmo d j ∧ kn fbb ffu fsu fmo ((d : Int) * 6 + (F (CU b * 6 + b) % 8 - 1)) (F (CU b * 6 + b) % 8 - 1) j = F (CU b * 6 + b)) (fun j => ct fsz fco ffu fsu fbb fmo d j + fco ((d : Int) * 6 + (F (CU b * 6 + b) % 8 - 1))) 0 32768
    rw [hK8]
    rw [← min_keys (P := fun j => 0 < wt fsz ffu fsu fbb fmo d j ∧ kn fbb ffu fsu fmo ((d : Int) * 6 + b) b j = F (CU b * 6 + b)) (v := fun j => ct fsz fco ffu fsu fbb fmo d j + fco ((d : Int) * 6 + b)) (gk := gk) (s := s) (n1 + n2 + n3) 32768 hinc hbnd (fun k k1 k2 k3 => hcov k k3.1)]
    rw [minR_gap (n := n1 + n2) n3 (fun i i1 i2 q => hhigh i (by omega) (by omega) q.2)]
    rw [minR_split (n := n1) (fun i i1 i2 q => hlow i i1 (by omega) q.2) n2, ← hn1]
    refine Eq.trans ?_ (minR_congr (P := fun i => F (i * 6 + b) = F (CU b * 6 + b)) (v := fun i => GC i + fco ((d : Int) * 6 + b)) n2 (fun i i1 i2 => ?_))
    · have := minR_le (P := fun i => F (i * 6 + b) = F (CU b * 6 + b)) (v := fun i => GC i + fco ((d : Int) * 6 + b)) (s := CU b) n2 (CU b) (Int.le_refl _) (by omega) rfl
      try dsimp only at this
      omega
    · have q1 := o1 i (by omega) (by omega)
      refine ⟨⟨fun q => ⟨by rw [← q1.2.1]; exact q1.2.2.1, by rw [← hNK i i1 (by omega)]; exact q⟩, fun q => by rw [hNK i i1 (by omega)]; exact q.2⟩, fun _ => ?_⟩
      show GC i + fco ((d : Int) * 6 + b) = ct fsz fco ffu fsu fbb fmo d (gk i) + fco ((d : Int) * 6 + b)
      rw [(l1 i (by omega)).2.1, q1.2.2.2]
  have hWp : 0 < GW2 T := by
    rw [hW]
    have q1 := o1 (CU b) (by omega) hCb
    have := sumR_term (g := fun j => if (0 ≤ F (CU b * 6 + b) % 8 - 1 ∧ F (CU b * 6 + b) % 8 - 1 < fsz (d : Int)) ∧ kn fbb ffu fsu fmo ((d : Int) * 6 + (F (CU b * 6 + b) % 8 - 1)) (F (CU b * 6 + b) % 8 - 1) j = F (CU b * 6 + b) then wt fsz ffu fsu fbb fmo d j else 0) (s := 0) (fun i => by
      try dsimp only
      split
      · exact wt_nn d i
      · exact Int.le_refl 0) 32768 (gk (CU b)) (by have := q1.1; unfold vk at this; omega) (by have := q1.1; unfold vk at this; omega)
    try dsimp only at this
    rw [hK8, if_pos ⟨⟨hb0, hb⟩, hkey.symm⟩, ← q1.2.1] at this
    refine Int.lt_of_lt_of_le q1.2.2.1 ?_
    show _ ≤ sumR (fun j => if (0 ≤ F (CU b * 6 + b) % 8 - 1 ∧ F (CU b * 6 + b) % 8 - 1 < fsz (d : Int)) ∧ kn fbb ffu fsu fmo ((d : Int) * 6 + (F (CU b * 6 + b) % 8 - 1)) (F (CU b * 6 + b) % 8 - 1) j = F (CU b * 6 + b) then wt fsz ffu fsu fbb fmo d j else 0) 0 32768
    rw [hK8]
    exact this
  refine ⟨fun i i1 => ?_, fun c c1 c2 => ?_, fun c i c1 c2 i1 i2 => ?_, fun c i c1 c2 i1 i2 => ?_, fun m m' m1 m2 m3 => ?_, fun m c m1 m2 c1 c2 c3 => ?_, fun m m1 m2 => ?_, fun j hj => ?_, by omega, ?_⟩
  · rw [uZ_n (by omega), a6 i (by omega), a7 i (by omega)]; exact l1 i i1
  · by_cases q : c = b
    · subst q
      refine ⟨⟨by omega, a2.2⟩, fun hl => ?_⟩
      rw [← hNK _ (by omega) hl]; exact a3 hl
    · rw [a1 c q]; exact l2 c c1 c2
  · by_cases q : c = b
    · subst q; rw [hF2b i (Or.inr i1)]; exact hNK i (by omega) i2
    · rw [a1 c q] at i1; rw [hF2 c i c1 c2 q]; exact l3 c i c1 c2 i1 i2
  · by_cases q : c = b
    · subst q
      by_cases r : i < CU c
      · rw [hF2b i (Or.inl r)]
        rcases l4 c i c1 c2 i1 r with x | ⟨x1, x2, x3⟩
        · exact Or.inl x
        · exact Or.inr ⟨⟨x1.1, by omega⟩, by rw [uZ_n (by omega)]; exact x2, x3⟩
      · rcases a4 i (by omega) i2 with ⟨x1, x2⟩ | ⟨x1, x2⟩
        · rw [hNK i (by omega) (by omega)] at x1
          refine Or.inr ⟨⟨by omega, by omega⟩, ?_, ?_⟩
          · rw [x2, uZ_s, x1]
          · rw [x1, hkey]; exact hk1
        · rw [hNK i (by omega) (by omega)] at x1
          exact Or.inl ⟨x1, x2⟩
    · rw [a1 c q] at i2
      rw [hF2 c i c1 c2 q]
      rcases l4 c i c1 c2 i1 i2 with x | ⟨x1, x2, x3⟩
      · exact Or.inl x
      · exact Or.inr ⟨⟨x1.1, by omega⟩, by rw [uZ_n (by omega)]; exact x2, x3⟩
  · rw [uZ_n (k := T) (j := m) (by omega)]
    by_cases q : m' = T
    · subst q; rw [uZ_s, hkey]; exact l6 m b m1 m2 hb0 hb hCb
    · rw [uZ_n (by omega)]; exact l5 m m' m1 m2 (by omega)
  · by_cases q : c = b
    · subst q
      have p1 : ¬ kn fbb ffu fsu fmo ((d : Int) * 6 + c) c (gk (CU2 c)) = -1 := by rw [← hNK _ (by omega) c3]; exact a3 c3
      have p2 := hmono (CU c) (CU2 c) (by omega) (by omega) c3 hk1 p1
      by_cases r : m = T
      · subst r
        rw [uZ_s]
        have := hne c3
        rw [hNK _ (by omega) c3] at this
        omega
      · rw [uZ_n r]
        have := l6 m c m1 (by omega) c1 c2 hCb
        omega
    · rw [a1 c q] at c3 ⊢
      by_cases r : m = T
      · subst r
        rw [uZ_s]
        have p1 := hlk c c1 c2 c3
        have p2 := (hop c (CU c) c1 c2 (by have := (l2 c c1 c2).1; omega) c3 ((l2 c c1 c2).2 c3)).2.1
        rw [l3 c (CU c) c1 c2 (Int.le_refl _) c3] at p1
        have p3 := hkb.2.1
        rw [← hkey] at p3
        omega
      · rw [uZ_n r]; exact l6 m c m1 (by omega) c1 c2 c3
  · by_cases r : m = T
    · subst r
      rw [uZ_s]
      exact ⟨by rw [hkey]; exact hkb.1, hW, hWp, hC⟩
    · rw [uZ_n r, a7 m r, a6 m r]; exact l7 m m1 (by omega)
  · rw [a5 j (fun i i1 i2 => by omega)]; exact l8 j hj
  · have := (sumR_upd (g := fun c => CU c - s) (g' := fun c => CU2 c - s) (s := 0) (b := b) (fun i hi => by show CU2 i - s = CU i - s; rw [a1 i hi]) (by show CU b - s + 1 ≤ CU2 b - s; omega) (fsz (d : Int)).toNat).2 hb0 (by omega)
    omega
end
section
/-! A LAYER IS LAID, OR HAS TOO MANY NODES -/
theorem sumR_cap2 {g : Int → Int} {s u b : Int} (hb : g b < u) : ∀ n : Nat, (∀ i, s ≤ i → i < s + (n : Int) → g i ≤ u) → sumR g s n ≤ (n : Int) * u ∧ (s ≤ b → b < s + (n : Int) → sumR g s n < (n : Int) * u)
  | 0, _ => ⟨by show (0 : Int) ≤ _; simp, fun a c => by omega⟩
  | n + 1, q => by
    obtain ⟨i1, i2⟩ := sumR_cap2 (s := s) hb n (fun i a c => q i a (by omega))
    have e : ((n + 1 : Nat) : Int) * u = (n : Int) * u + u := by rw [Int.natCast_add, Int.add_mul]; simp
    rw [e]
    show sumR g s n + g (s + (n : Int)) ≤ _ ∧ (_ → _ → sumR g s n + g (s + (n : Int)) < _)
    have q1 := q (s + (n : Int)) (by omega) (by omega)
    refine ⟨by omega, fun a c => ?_⟩
    by_cases r : b = s + (n : Int)
    · rw [← r]; omega
    · have := i2 a (by omega); omega
theorem lb_room {fsz fco ffu fsu fbb fmo gk gwt gct B0 CU F GK GC GW : Int → Int} {d : Nat} {s e T b : Int} (h : LBp fsz fco ffu fsu fbb fmo gk gwt gct B0 d s e T CU F GK GC GW) (hb0 : 0 ≤ b) (hb : b < fsz (d : Int)) (hc : CU b < e) : T - e < (e - s) * fsz (d : Int) := by
  obtain ⟨l1, l2, l3, l4, l5, l6, l7, l8, l9, l10⟩ := h
  have := (sumR_cap2 (g := fun c => CU c - s) (s := 0) (u := e - s) (b := b) (by show CU b - s < e - s; omega) (fsz (d : Int)).toNat (fun i i1 i2 => by
    have := (l2 i i1 (by omega)).1
    show CU i - s ≤ e - s
    omega)).2 hb0 (by omega)
  rw [Int.toNat_of_nonneg (by omega), Int.mul_comm] at this
  omega
theorem sumR_one {g : Int → Int} {s : Int} : ∀ n : Nat, (∀ i, s ≤ i → i < s + (n : Int) → g i = 1) → sumR g s n = (n : Int)
  | 0, _ => rfl
  | n + 1, q => by
    show sumR g s n + g (s + (n : Int)) = _
    rw [sumR_one n (fun i a b => q i a (by omega)), q _ (by omega) (by omega)]
    omega
/-- the count of a layer's nodes -/
theorem lo_cn {fsz fco ffu fsu fbb fmo gk gwt gct : Int → Int} {d : Nat} {s e : Int} (hse : s ≤ e) (h : LO fsz fco ffu fsu fbb fmo d s e gk gwt gct) : e - s = cn fsz ffu fsu fbb fmo d := by
  obtain ⟨o1, o2, o3⟩ := h
  obtain ⟨n, hn⟩ : ∃ n : Nat, e = s + (n : Int) := ⟨(e - s).toNat, by omega⟩
  have := sum_keys (g := fun k => if 0 < wt fsz ffu fsu fbb fmo d k then 1 else 0) (gk := gk) (s := s) n 32768 (fun i j i1 i2 i3 => o2 i j i1 i2 (by omega)) (fun i i1 i2 => by
    have := (o1 i i1 (by omega)).1
    unfold vk at this
    omega) (fun k k1 k2 k3 => by
    by_cases q : 0 < wt fsz ffu fsu fbb fmo d k
    · obtain ⟨i, i1, i2, i3⟩ := o3 k q
      exact ⟨i, i1, by omega, i3⟩
    · exact absurd (if_neg q) k3)
  rw [sumR_one n (fun i i1 i2 => by
    have q := o1 i i1 (by omega)
    show (if 0 < wt fsz ffu fsu fbb fmo d (gk i) then (1 : Int) else 0) = 1
    rw [if_pos (by rw [← q.2.1]; exact q.2.2.1)])] at this
  unfold cn
  rw [← this]
  omega
/-- what a choice leads to from a node -/
def LK (fsz ffu fsu fbb fmo gk : Int → Int) (d : Nat) (s e T : Int) (F GK : Int → Int) : Prop :=
  ∀ c i, 0 ≤ c → c < fsz (d : Int) → s ≤ i → i < e → (kn fbb ffu fsu fmo ((d : Int) * 6 + c) c (gk i) = -1 ∧ F (i * 6 + c) = -1) ∨ ((e ≤ F (i * 6 + c) ∧ F (i * 6 + c) < T) ∧ GK (F (i * 6 + c)) = kn fbb ffu fsu fmo ((d : Int) * 6 + c) c (gk i) ∧ ¬ kn fbb ffu fsu fmo ((d : Int) * 6 + c) c (gk i) = -1)
theorem lb_done {fsz fco ffu fsu fbb fmo gk gwt gct B0 CU F GK GC GW : Int → Int} {d : Nat} {s e T : Int} (hT : TB fsz fco ffu fsu fbb fmo) (hd : d < 12) (hL : LO fsz fco ffu fsu fbb fmo d s e gk gwt gct) (h : LBp fsz fco ffu fsu fbb fmo gk gwt gct B0 d s e T CU F GK GC GW) (hall : ∀ c, 0 ≤ c → c < fsz (d : Int) → e ≤ CU c) :
    LO fsz fco ffu fsu fbb fmo (d + 1) e T GK GW GC ∧ LK fsz ffu fsu fbb fmo gk d s e T F GK := by
  obtain ⟨l1, l2, l3, l4, l5, l6, l7, l8, l9, l10⟩ := h
  have hk : LK fsz ffu fsu fbb fmo gk d s e T F GK := fun c i c1 c2 i1 i2 => l4 c i c1 c2 i1 (by have := hall c c1 c2; omega)
  refine ⟨⟨l7, l5, fun k q => ?_⟩, hk⟩
  have hsz := hT.1 (d : Int) (by omega) (by omega)
  obtain ⟨j, j1, j2, j3, j4⟩ := wt_from q
  obtain ⟨i, i1, i2, i3⟩ := hL.2.2 j j2
  rw [← i3] at j4
  rcases hk (k % 8 - 1) i j3.1 j3.2 i1 i2 with ⟨x, -⟩ | ⟨x1, x2, x3⟩
  · rw [j4] at x; omega
  · exact ⟨F (i * 6 + (k % 8 - 1)), x1.1, x1.2, by rw [x2, j4]⟩
theorem wt_pos {fsz fco ffu fsu fbb fmo : Int → Int} (hT : TB fsz fco ffu fsu fbb fmo) {d : Nat} (hd : d < 12) {c k : Int} (hc0 : 0 ≤ c) (hc : c < fsz (d : Int)) (hk : vk k) (hw : 0 < wt fsz ffu fsu fbb fmo d k) (h : ¬ kn fbb ffu fsu fmo ((d : Int) * 6 + c) c k = -1) : 0 < wt fsz ffu fsu fbb fmo (d + 1) (kn fbb ffu fsu fmo ((d : Int) * 6 + c) c k) := by
  have hsz := hT.1 (d : Int) (by omega) (by omega)
  have h1 := kn_vk hT (by omega) (by omega) hc0 (by omega) hk h
  generalize hK : kn fbb ffu fsu fmo ((d : Int) * 6 + c) c k = K at h1 ⊢
  have hK8 : K % 8 - 1 = c := by omega
  have := sumR_term (g := fun j => if (0 ≤ K % 8 - 1 ∧ K % 8 - 1 < fsz (d : Int)) ∧ kn fbb ffu fsu fmo ((d : Int) * 6 + (K % 8 - 1)) (K % 8 - 1) j = K then wt fsz ffu fsu fbb fmo d j else 0) (s := 0) (fun i => by
    show 0 ≤ (if (0 ≤ K % 8 - 1 ∧ K % 8 - 1 < fsz (d : Int)) ∧ kn fbb ffu fsu fmo ((d : Int) * 6 + (K % 8 - 1)) (K % 8 - 1) i = K then wt fsz ffu fsu fbb fmo d i else 0)
    split
    · exact wt_nn d i
    · exact Int.le_refl 0) 32768 k (by unfold vk at hk; omega) (by unfold vk at hk; omega)
  have e1 : (if (0 ≤ K % 8 - 1 ∧ K % 8 - 1 < fsz (d : Int)) ∧ kn fbb ffu fsu fmo ((d : Int) * 6 + (K % 8 - 1)) (K % 8 - 1) k = K then wt fsz ffu fsu fbb fmo d k else 0) = wt fsz ffu fsu fbb fmo d k := by
    rw [hK8, if_pos ⟨⟨hc0, hc⟩, hK⟩]
  have h3 : wt fsz ffu fsu fbb fmo d k ≤ wt fsz ffu fsu fbb fmo (d + 1) K := by
    rw [← e1]; exact this
  omega
theorem lb_full {fsz fco ffu fsu fbb fmo gk gwt gct B0 CU F GK GC GW : Int → Int} (hT : TB fsz fco ffu fsu fbb fmo) {d : Nat} (hd : d < 12) {s e T b : Int} (hL : LO fsz fco ffu fsu fbb fmo d s e gk gwt gct) (h : LBp fsz fco ffu fsu fbb fmo gk gwt gct B0 d s e T CU F GK GC GW) (hb0 : 0 ≤ b) (hb : b < fsz (d : Int)) (hc : CU b < e) (h4 : T = e + 400) : 400 < cn fsz ffu fsu fbb fmo (d + 1) := by
  obtain ⟨l1, l2, l3, l4, l5, l6, l7, l8, l9, l10⟩ := h
  have hsz := hT.1 (d : Int) (by omega) (by omega)
  have hsb := (l2 b hb0 hb).1
  have q := hL.1 (CU b) (by omega) hc
  have hk1 := (l2 b hb0 hb).2 hc
  have hv := kn_vk hT (by omega) (by omega) hb0 (by omega) q.1 hk1
  have hw := wt_pos hT hd hb0 hb q.1 (by rw [← q.2.1]; exact q.2.2.1) hk1
  generalize hK : kn fbb ffu fsu fmo ((d : Int) * 6 + b) b (gk (CU b)) = K at hk1 hv hw
  have h6 : ∀ m, e ≤ m → m < T → GK m < K := fun m m1 m2 => by rw [← hK]; exact l6 m b m1 m2 hb0 hb hc
  have := sum_keys_le (g := fun k => if 0 < wt fsz ffu fsu fbb fmo (d + 1) k then 1 else 0) (gk := uZ GK T K) (s := e) (fun k => by
    show 0 ≤ (if 0 < wt fsz ffu fsu fbb fmo (d + 1) k then (1 : Int) else 0)
    split <;> omega) 401 32768 (fun i j i1 i2 i3 => by
    rw [uZ_n (by omega)]
    by_cases r : j = T
    · subst r; rw [uZ_s]; exact h6 i i1 i2
    · rw [uZ_n r]; exact l5 i j i1 i2 (by omega)) (fun i i1 i2 => by
    by_cases r : i = T
    · subst r; rw [uZ_s]; have := hv.1; unfold vk at this; omega
    · rw [uZ_n r]; have := (l7 i i1 (by omega)).1; unfold vk at this; omega)
  rw [sumR_one 401 (fun i i1 i2 => by
    show (if 0 < wt fsz ffu fsu fbb fmo (d + 1) (uZ GK T K i) then (1 : Int) else 0) = 1
    by_cases r : i = T
    · subst r; rw [uZ_s, if_pos hw]
    · rw [uZ_n r, if_pos (by have := l7 i i1 (by omega); rw [← this.2.1]; exact this.2.2.1)])] at this
  unfold cn
  exact Int.lt_of_lt_of_le (show (400 : Int) < ((401 : Nat) : Int) by decide) this
theorem ct_rng {fsz fco ffu fsu fbb fmo : Int → Int} (hT : TB fsz fco ffu fsu fbb fmo) : ∀ (d : Nat) (k : Int), d ≤ 12 → 0 < wt fsz ffu fsu fbb fmo d k → -(1000 * (d : Int)) ≤ ct fsz fco ffu fsu fbb fmo d k ∧ ct fsz fco ffu fsu fbb fmo d k ≤ 1000 * (d : Int) := by
  intro d
  induction d with
  | zero => intro k _ _; unfold ct; omega
  | succ d ih =>
    intro k hd hw
    obtain ⟨j, j1, j2, j3, j4⟩ := wt_from hw
    have hsz := hT.1 (d : Int) (by omega) (by omega)
    have hco := hT.2.1 ((d : Int) * 6 + (k % 8 - 1)) (by omega) (by omega)
    have hj := ih j (by omega) j2
    have up := minR_le (P := fun j => 0 < wt fsz ffu fsu fbb fmo d j ∧ kn fbb ffu fsu fmo ((d : Int) * 6 + (k % 8 - 1)) (k % 8 - 1) j = k) (v := fun j => ct fsz fco ffu fsu fbb fmo d j + fco ((d : Int) * 6 + (k % 8 - 1))) (s := 0) 32768 j j1.1 (by omega) ⟨j2, j4⟩
    have lo := minR_ge (P := fun j => 0 < wt fsz ffu fsu fbb fmo d j ∧ kn fbb ffu fsu fmo ((d : Int) * 6 + (k % 8 - 1)) (k % 8 - 1) j = k) (v := fun j => ct fsz fco ffu fsu fbb fmo d j + fco ((d : Int) * 6 + (k % 8 - 1))) (s := 0) (lo := -(1000 * ((d : Int) + 1))) (by omega) 32768 (fun i i1 i2 q => by
      have := ih i (by omega) q.1
      show _ ≤ ct fsz fco ffu fsu fbb fmo d i + fco ((d : Int) * 6 + (k % 8 - 1))
      omega)
    unfold ct
    try dsimp only at up
    omega
end
section
/-! WHAT layBehind GIVES -/
theorem vk_all {k : Int} (h : vk k) : 0 ≤ k ∧ k < 32768 ∧ k / 512 ≤ 40 ∧ k / 8 % 64 ≤ 40 ∧ k % 8 ≤ 6 := by
  unfold vk at h
  omega
theorem kn_rI {fsz fco ffu fsu fbb fmo : Int → Int} (hT : TB fsz fco ffu fsu fbb fmo) {pl c k : Int} (h0 : 0 ≤ pl) (h1 : pl < 72) (hc0 : 0 ≤ c) (hc : c < 6) (hk : vk k) : rI (kn fbb ffu fsu fmo pl c k) := by
  by_cases q : kn fbb ffu fsu fmo pl c k = -1
  · rw [q]; decide
  · have := vk_all (kn_vk hT h0 h1 hc0 hc hk q).1
    constructor <;> omega
theorem lo_congr {fsz fco ffu fsu fbb fmo gk gwt gct gk1 gwt1 gct1 : Int → Int} {d : Nat} {s e : Int} (h : LO fsz fco ffu fsu fbb fmo d s e gk gwt gct) (g1 : ∀ i, s ≤ i → i < e → gk1 i = gk i) (g2 : ∀ i, s ≤ i → i < e → gwt1 i = gwt i) (g3 : ∀ i, s ≤ i → i < e → gct1 i = gct i) : LO fsz fco ffu fsu fbb fmo d s e gk1 gwt1 gct1 := by
  obtain ⟨o1, o2, o3⟩ := h
  refine ⟨fun i i1 i2 => ?_, fun i j i1 i2 i3 => ?_, fun k q => ?_⟩
  · rw [g1 i i1 i2, g2 i i1 i2, g3 i i1 i2]; exact o1 i i1 i2
  · rw [g1 i i1 (by omega), g1 j (by omega) i3]; exact o2 i j i1 i2 i3
  · obtain ⟨i, i1, i2, i3⟩ := o3 k q
    exact ⟨i, i1, i2, by rw [g1 i i1 i2]; exact i3⟩
theorem lk_congr {fsz ffu fsu fbb fmo gk gk1 F GK F1 GK1 : Int → Int} {d : Nat} {s e T : Int} (h : LK fsz ffu fsu fbb fmo gk d s e T F GK) (h6 : fsz (d : Int) ≤ 6) (g1 : ∀ i, s ≤ i → i < e → gk1 i = gk i) (g2 : ∀ j, s * 6 ≤ j → j < e * 6 → F1 j = F j) (g3 : ∀ m, e ≤ m → m < T → GK1 m = GK m) : LK fsz ffu fsu fbb fmo gk1 d s e T F1 GK1 := by
  intro c i c1 c2 i1 i2
  rw [g1 i i1 i2, g2 (i * 6 + c) (by omega) (by omega)]
  rcases h c i c1 c2 i1 i2 with x | ⟨x1, x2, x3⟩
  · exact Or.inl x
  · exact Or.inr ⟨x1, by rw [g3 _ x1.1 x1.2]; exact x2, x3⟩
theorem lb_out {fsz fco ffu fsu fbb fmo gk gwt gct gbe gk1 gwt1 gct1 gbe1 CU F GK GC GW : Int → Int} (hT : TB fsz fco ffu fsu fbb fmo) {d : Nat} (hd : d < 12) {s e T C : Int} (hs0 : 0 ≤ s) (hse : s ≤ e) (hec : e ≤ C) (g1 : ∀ j, 0 ≤ j → j < C → gk1 j = gk j) (g2 : ∀ j, 0 ≤ j → j < C → gct1 j = gct j) (g3 : ∀ j, 0 ≤ j → j < C → gwt1 j = gwt j) (g4 : ∀ j, 0 ≤ j → j < 6 * C → gbe1 j = gbe j)
    (hL1 : LO fsz fco ffu fsu fbb fmo d s e gk1 gwt1 gct1) (h : LBp fsz fco ffu fsu fbb fmo gk1 gwt1 gct1 gbe1 d s e T CU F GK GC GW) (hall : ∀ c, 0 ≤ c → c < fsz (d : Int) → e ≤ CU c) (h4 : T ≤ e + 400) :
    cn fsz ffu fsu fbb fmo (d + 1) ≤ 400 ∧ (e ≤ T ∧ T ≤ e + 400) ∧ LO fsz fco ffu fsu fbb fmo (d + 1) e T GK GW GC ∧ LK fsz ffu fsu fbb fmo gk d s e T F GK ∧ (∀ i, 0 ≤ i → i < e → GK i = gk i ∧ GC i = gct i ∧ GW i = gwt i) ∧ (∀ j, 0 ≤ j → j < s * 6 → F j = gbe j) := by
  obtain ⟨h1, h2⟩ := lb_done hT hd hL1 h hall
  have hsz := hT.1 (d : Int) (by omega) (by omega)
  obtain ⟨l1, l2, l3, l4, l5, l6, l7, l8, l9, l10⟩ := h
  have hc := lo_cn l9 h1
  refine ⟨by omega, ⟨l9, h4⟩, h1, lk_congr h2 hsz.2 (fun i i1 i2 => (g1 i (by omega) (by omega)).symm) (fun _ _ _ => rfl) (fun _ _ _ => rfl), fun i i1 i2 => ?_, fun j j1 j2 => ?_⟩
  · obtain ⟨x1, x2, x3⟩ := l1 i i2
    rw [x1, x2, x3]
    exact ⟨g1 i i1 (by omega), g2 i i1 (by omega), g3 i i1 (by omega)⟩
  · rw [l8 j j2]; exact g4 j j1 (by omega)
theorem st_le {g : Int → Int} {N k x : Int} (h : ∀ j, 0 ≤ j → j < 14 → 0 ≤ g j ∧ g j ≤ N) (hx : 0 ≤ x ∧ x ≤ N) : ∀ j, 0 ≤ j → j < 14 → 0 ≤ uZ g k x j ∧ uZ g k x j ≤ N := by
  intro j h1 h2
  by_cases q : j = k
  · subst q; rw [uZ_s]; exact hx
  · rw [uZ_n q]; exact h j h1 h2
theorem cw_rng {gcu gbe : Int → Int} {e x fo lk : Int} (h : CWp gcu gbe e x fo lk) (hx : 0 ≤ x ∧ x ≤ 6) : -1 ≤ fo ∧ fo < 6 := by
  rcases h with ⟨h1, -⟩ | ⟨h1, -⟩ <;> omega
end
section
/-! Layers.layBehind -/
abbrev sty_Y_layBehind : MethodName := ⟨"StateTables$Layers", "layBehind", "(I)Z"⟩
abbrev stc_Y_layBehind : ByteArray := prog_3_method_8_code
theorem sth_Y_layBehind : (sty_Y_layBehind).cls ≠ "java/lang/invoke/MethodHandle" ∧ (sty_Y_layBehind).cls ≠ "java/lang/invoke/VarHandle" ∧ (parseMethodDescriptor (sty_Y_layBehind).desc).map (fun d => d.parameters.length) = some 1 := by decide +kernel
theorem std_Y_layBehind_0 : decode stc_Y_layBehind 0 = .ok (.aload_n 0, 1) := by decide +kernel
theorem std_Y_layBehind_1 : decode stc_Y_layBehind 1 = .ok (.aload_n 0, 1) := by decide +kernel
theorem std_Y_layBehind_2 : decode stc_Y_layBehind 2 = .ok (.getfield 60, 3) := by decide +kernel
theorem std_Y_layBehind_5 : decode stc_Y_layBehind 5 = .ok (.sipush 400, 3) := by decide +kernel
theorem std_Y_layBehind_8 : decode stc_Y_layBehind 8 = .ok (.aload_n 0, 1) := by decide +kernel
theorem std_Y_layBehind_9 : decode stc_Y_layBehind 9 = .ok (.iload_n 1, 1) := by decide +kernel
theorem std_Y_layBehind_10 : decode stc_Y_layBehind 10 = .ok (.invokevirtual 51, 3) := by decide +kernel
theorem std_Y_layBehind_13 : decode stc_Y_layBehind 13 = .ok (.aload_n 0, 1) := by decide +kernel
theorem std_Y_layBehind_14 : decode stc_Y_layBehind 14 = .ok (.getfield 37, 3) := by decide +kernel
theorem std_Y_layBehind_17 : decode stc_Y_layBehind 17 = .ok (.getfield 66, 3) := by decide +kernel
theorem std_Y_layBehind_20 : decode stc_Y_layBehind 20 = .ok (.iload_n 1, 1) := by decide +kernel
theorem std_Y_layBehind_21 : decode stc_Y_layBehind 21 = .ok (.iaload, 1) := by decide +kernel
theorem std_Y_layBehind_22 : decode stc_Y_layBehind 22 = .ok (.imul, 1) := by decide +kernel
theorem std_Y_layBehind_23 : decode stc_Y_layBehind 23 = .ok (.invokestatic 69, 3) := by decide +kernel
theorem std_Y_layBehind_26 : decode stc_Y_layBehind 26 = .ok (.iadd, 1) := by decide +kernel
theorem std_Y_layBehind_27 : decode stc_Y_layBehind 27 = .ok (.invokevirtual 75, 3) := by decide +kernel
theorem kw_2_50 : Cond.code sty_Y_growTo stc_Y_growTo 3 none ∈ stGW := st_t2 (List.mem_of_getElem? (i := 50) (by decide +kernel)) (by decide +kernel)
theorem kw_2_47 : Cond.methodLink "StateTables$Layers" 75 (sty_Y_growTo) ∈ stGW := st_t2 (List.mem_of_getElem? (i := 47) (by decide +kernel)) (by decide +kernel)
theorem kw_2_49 : Cond.instanceMethod (sty_Y_growTo) ∈ stGW := st_t2 (List.mem_of_getElem? (i := 49) (by decide +kernel)) (by decide +kernel)
theorem kw_0_1 : Cond.selects "StateTables$Layers" (sty_Y_growTo) (sty_Y_growTo) ∈ stGW := st_t0 (List.mem_of_getElem? (i := 1) (by decide +kernel)) (by decide +kernel)
theorem std_Y_layBehind_30 : decode stc_Y_layBehind 30 = .ok (.iconst 0, 1) := by decide +kernel
theorem std_Y_layBehind_31 : decode stc_Y_layBehind 31 = .ok (.istore_n 2, 1) := by decide +kernel
theorem std_Y_layBehind_32 : decode stc_Y_layBehind 32 = .ok (.iload_n 2, 1) := by decide +kernel
theorem std_Y_layBehind_33 : decode stc_Y_layBehind 33 = .ok (.aload_n 0, 1) := by decide +kernel
theorem std_Y_layBehind_34 : decode stc_Y_layBehind 34 = .ok (.getfield 37, 3) := by decide +kernel
theorem std_Y_layBehind_37 : decode stc_Y_layBehind 37 = .ok (.getfield 66, 3) := by decide +kernel
theorem std_Y_layBehind_40 : decode stc_Y_layBehind 40 = .ok (.iload_n 1, 1) := by decide +kernel
theorem std_Y_layBehind_41 : decode stc_Y_layBehind 41 = .ok (.iaload, 1) := by decide +kernel
theorem std_Y_layBehind_42 : decode stc_Y_layBehind 42 = .ok (.if_icmp .ge 33, 3) := by decide +kernel
theorem std_Y_layBehind_75 : decode stc_Y_layBehind 75 = .ok (.iconst 0, 1) := by decide +kernel
theorem std_Y_layBehind_76 : decode stc_Y_layBehind 76 = .ok (.istore_n 2, 1) := by decide +kernel
theorem std_Y_layBehind_77 : decode stc_Y_layBehind 77 = .ok (.iload_n 2, 1) := by decide +kernel
theorem std_Y_layBehind_78 : decode stc_Y_layBehind 78 = .ok (.sipush 400, 3) := by decide +kernel
theorem std_Y_layBehind_81 : decode stc_Y_layBehind 81 = .ok (.if_icmp .gt 46, 3) := by decide +kernel
theorem std_Y_layBehind_127 : decode stc_Y_layBehind 127 = .ok (.iconst 0, 1) := by decide +kernel
theorem std_Y_layBehind_128 : decode stc_Y_layBehind 128 = .ok (.ireturn, 1) := by decide +kernel
theorem std_Y_layBehind_84 : decode stc_Y_layBehind 84 = .ok (.aload_n 0, 1) := by decide +kernel
theorem std_Y_layBehind_85 : decode stc_Y_layBehind 85 = .ok (.iload_n 1, 1) := by decide +kernel
theorem std_Y_layBehind_86 : decode stc_Y_layBehind 86 = .ok (.invokevirtual 86, 3) := by decide +kernel
theorem kw_2_105 : Cond.code sty_Y_choiceWithLeastKey stc_Y_choiceWithLeastKey 6 (some .int) ∈ stGW := st_t2 (List.mem_of_getElem? (i := 105) (by decide +kernel)) (by decide +kernel)
theorem kw_2_102 : Cond.methodLink "StateTables$Layers" 86 (sty_Y_choiceWithLeastKey) ∈ stGW := st_t2 (List.mem_of_getElem? (i := 102) (by decide +kernel)) (by decide +kernel)
theorem kw_2_104 : Cond.instanceMethod (sty_Y_choiceWithLeastKey) ∈ stGW := st_t2 (List.mem_of_getElem? (i := 104) (by decide +kernel)) (by decide +kernel)
theorem kw_0_4 : Cond.selects "StateTables$Layers" (sty_Y_choiceWithLeastKey) (sty_Y_choiceWithLeastKey) ∈ stGW := st_t0 (List.mem_of_getElem? (i := 4) (by decide +kernel)) (by decide +kernel)
theorem std_Y_layBehind_89 : decode stc_Y_layBehind 89 = .ok (.istore_n 3, 1) := by decide +kernel
theorem std_Y_layBehind_90 : decode stc_Y_layBehind 90 = .ok (.iload_n 3, 1) := by decide +kernel
theorem std_Y_layBehind_91 : decode stc_Y_layBehind 91 = .ok (.ifCond .ge 17, 3) := by decide +kernel
theorem std_Y_layBehind_108 : decode stc_Y_layBehind 108 = .ok (.iload_n 2, 1) := by decide +kernel
theorem std_Y_layBehind_109 : decode stc_Y_layBehind 109 = .ok (.sipush 400, 3) := by decide +kernel
theorem std_Y_layBehind_112 : decode stc_Y_layBehind 112 = .ok (.if_icmp .ge 9, 3) := by decide +kernel
theorem std_Y_layBehind_121 : decode stc_Y_layBehind 121 = .ok (.iinc 2 1, 3) := by decide +kernel
theorem std_Y_layBehind_124 : decode stc_Y_layBehind 124 = .ok (.goto (-47), 3) := by decide +kernel
theorem std_Y_layBehind_115 : decode stc_Y_layBehind 115 = .ok (.aload_n 0, 1) := by decide +kernel
theorem std_Y_layBehind_116 : decode stc_Y_layBehind 116 = .ok (.iload_n 1, 1) := by decide +kernel
theorem std_Y_layBehind_117 : decode stc_Y_layBehind 117 = .ok (.iload_n 3, 1) := by decide +kernel
theorem std_Y_layBehind_118 : decode stc_Y_layBehind 118 = .ok (.invokevirtual 89, 3) := by decide +kernel
theorem kw_2_109 : Cond.code sty_Y_addNode stc_Y_addNode 7 none ∈ stGW := st_t2 (List.mem_of_getElem? (i := 109) (by decide +kernel)) (by decide +kernel)
theorem kw_2_106 : Cond.methodLink "StateTables$Layers" 89 (sty_Y_addNode) ∈ stGW := st_t2 (List.mem_of_getElem? (i := 106) (by decide +kernel)) (by decide +kernel)
theorem kw_2_108 : Cond.instanceMethod (sty_Y_addNode) ∈ stGW := st_t2 (List.mem_of_getElem? (i := 108) (by decide +kernel)) (by decide +kernel)
theorem kw_0_5 : Cond.selects "StateTables$Layers" (sty_Y_addNode) (sty_Y_addNode) ∈ stGW := st_t0 (List.mem_of_getElem? (i := 5) (by decide +kernel)) (by decide +kernel)
theorem std_Y_layBehind_94 : decode stc_Y_layBehind 94 = .ok (.aload_n 0, 1) := by decide +kernel
theorem std_Y_layBehind_95 : decode stc_Y_layBehind 95 = .ok (.getfield 9, 3) := by decide +kernel
theorem std_Y_layBehind_98 : decode stc_Y_layBehind 98 = .ok (.iload_n 1, 1) := by decide +kernel
theorem std_Y_layBehind_99 : decode stc_Y_layBehind 99 = .ok (.iconst 2, 1) := by decide +kernel
theorem std_Y_layBehind_100 : decode stc_Y_layBehind 100 = .ok (.iadd, 1) := by decide +kernel
theorem std_Y_layBehind_101 : decode stc_Y_layBehind 101 = .ok (.aload_n 0, 1) := by decide +kernel
theorem std_Y_layBehind_102 : decode stc_Y_layBehind 102 = .ok (.getfield 60, 3) := by decide +kernel
theorem std_Y_layBehind_105 : decode stc_Y_layBehind 105 = .ok (.iastore, 1) := by decide +kernel
theorem std_Y_layBehind_106 : decode stc_Y_layBehind 106 = .ok (.iconst 1, 1) := by decide +kernel
theorem std_Y_layBehind_107 : decode stc_Y_layBehind 107 = .ok (.ireturn, 1) := by decide +kernel
theorem std_Y_layBehind_45 : decode stc_Y_layBehind 45 = .ok (.aload_n 0, 1) := by decide +kernel
theorem std_Y_layBehind_46 : decode stc_Y_layBehind 46 = .ok (.iload_n 1, 1) := by decide +kernel
theorem std_Y_layBehind_47 : decode stc_Y_layBehind 47 = .ok (.iload_n 2, 1) := by decide +kernel
theorem std_Y_layBehind_48 : decode stc_Y_layBehind 48 = .ok (.invokevirtual 79, 3) := by decide +kernel
theorem kw_2_79 : Cond.code sty_Y_findKeysBehind stc_Y_findKeysBehind 10 none ∈ stGW := st_t2 (List.mem_of_getElem? (i := 79) (by decide +kernel)) (by decide +kernel)
theorem kw_2_76 : Cond.methodLink "StateTables$Layers" 79 (sty_Y_findKeysBehind) ∈ stGW := st_t2 (List.mem_of_getElem? (i := 76) (by decide +kernel)) (by decide +kernel)
theorem kw_2_78 : Cond.instanceMethod (sty_Y_findKeysBehind) ∈ stGW := st_t2 (List.mem_of_getElem? (i := 78) (by decide +kernel)) (by decide +kernel)
theorem kw_0_2 : Cond.selects "StateTables$Layers" (sty_Y_findKeysBehind) (sty_Y_findKeysBehind) ∈ stGW := st_t0 (List.mem_of_getElem? (i := 2) (by decide +kernel)) (by decide +kernel)
theorem std_Y_layBehind_51 : decode stc_Y_layBehind 51 = .ok (.aload_n 0, 1) := by decide +kernel
theorem std_Y_layBehind_52 : decode stc_Y_layBehind 52 = .ok (.getfield 34, 3) := by decide +kernel
theorem std_Y_layBehind_55 : decode stc_Y_layBehind 55 = .ok (.iload_n 2, 1) := by decide +kernel
theorem std_Y_layBehind_56 : decode stc_Y_layBehind 56 = .ok (.aload_n 0, 1) := by decide +kernel
theorem std_Y_layBehind_57 : decode stc_Y_layBehind 57 = .ok (.getfield 9, 3) := by decide +kernel
theorem std_Y_layBehind_60 : decode stc_Y_layBehind 60 = .ok (.iload_n 1, 1) := by decide +kernel
theorem std_Y_layBehind_61 : decode stc_Y_layBehind 61 = .ok (.iaload, 1) := by decide +kernel
theorem std_Y_layBehind_62 : decode stc_Y_layBehind 62 = .ok (.iastore, 1) := by decide +kernel
theorem std_Y_layBehind_63 : decode stc_Y_layBehind 63 = .ok (.aload_n 0, 1) := by decide +kernel
theorem std_Y_layBehind_64 : decode stc_Y_layBehind 64 = .ok (.iload_n 1, 1) := by decide +kernel
theorem std_Y_layBehind_65 : decode stc_Y_layBehind 65 = .ok (.iload_n 2, 1) := by decide +kernel
theorem std_Y_layBehind_66 : decode stc_Y_layBehind 66 = .ok (.invokevirtual 83, 3) := by decide +kernel
theorem std_Y_layBehind_69 : decode stc_Y_layBehind 69 = .ok (.iinc 2 1, 3) := by decide +kernel
theorem std_Y_layBehind_72 : decode stc_Y_layBehind 72 = .ok (.goto (-40), 3) := by decide +kernel
set_option maxHeartbeats 4000000 in
set_option maxRecDepth 100000 in
theorem c_layBehind (l : Launch) (dC : Nat → ClassId) (dI : Nat → Nat → Nat) (cI cJ cZ : ClassId) (y0 : Nat) (ys : Nat) (yk : Nat) (yc : Nat) (yd : Nat) (yw : Nat) (yx : Nat) (yb : Nat) (yu : Nat) (total : Int) (t0 : Nat) (hs : Nat) (hc : Nat) (hf : Nat) (hg : Nat) (hb : Nat) (he : Nat) (hm : Nat) (steps : Int) (choices : Int) (bars : Int) (cap : Nat) (N : Nat) (q : Nat) (d : Nat) (gst : Int → Int) (gk : Int → Int) (gct : Int → Int) (gcf : Int → Int) (gwt : Int → Int) (gwf : Int → Int) (gbe : Int → Int) (gcu : Int → Int) (fsz : Int → Int) (fco : Int → Int) (ffu : Int → Int) (fsu : Int → Int) (fbb : Int → Int) (fmo : Int → Int) (kcap : cap ≤ 4801) (kgst : ∀ j, 0 ≤ j → j < 14 → 0 ≤ gst j ∧ gst j ≤ cap) (kd : d < 12) (kT : TB fsz fco ffu fsu fbb fmo) (ks : (gst ((d : Nat) : Int)) ≤ (gst (((d : Nat) : Int) + 1)) ∧ (gst (((d : Nat) : Int) + 1)) = total ∧ total ≤ 1 + 400 * ((d : Nat) : Int)) (kL : LO fsz fco ffu fsu fbb fmo d (gst ((d : Nat) : Int)) (gst (((d : Nat) : Int) + 1)) gk gwt gct) (kN : ((total + (min 400 (((gst (((d : Nat) : Int) + 1)) - (gst ((d : Nat) : Int))) * (fsz ((d : Nat) : Int))))) ≤ (cap : Int) ∧ N = cap) ∨ ((cap : Int) < (total + (min 400 (((gst (((d : Nat) : Int) + 1)) - (gst ((d : Nat) : Int))) * (fsz ((d : Nat) : Int))))) ∧ (N : Int) = max (total + (min 400 (((gst (((d : Nat) : Int) + 1)) - (gst ((d : Nat) : Int))) * (fsz ((d : Nat) : Int))))) (min (2 * (cap : Int)) 4801))) (kq : (total + (min 400 (((gst (((d : Nat) : Int) + 1)) - (gst ((d : Nat) : Int))) * (fsz ((d : Nat) : Int))))) ≤ (cap : Int) ∨ 11 * N ≤ q) : ∀ sz, Met l sty_Y_layBehind (Cond.code sty_Y_layBehind stc_Y_layBehind 4 (some .boolean) :: stGW) ({ frames := 3, cells := 6, slots := q, locals := 84 } : Room) (va_Pc [.ref y0, .int (iI ((d : Nat) : Int))] (zPre (dC, dI) stCl [(cI, .int), (cJ, .long), (cZ, .boolean)] st_nw [(y0, .inr (2, [.ref t0, .int (iI total), .ref ys, .ref yk, .ref yc, .ref yd, .ref yw, .ref yx, .ref yb, .ref yu])), (ys, .inl (cI, aI 14 gst)), (yk, .inl (cI, aI cap gk)), (yc, .inl (cI, aI cap gct)), (yd, .inl (cI, aI cap gcf)), (yw, .inl (cJ, aL cap gwt)), (yx, .inl (cJ, aL cap gwf)), (yb, .inl (cI, aI (6 * cap) gbe)), (yu, .inl (cI, aI 6 gcu)), (t0, .inr (1, [.int (iI steps), .int (iI choices), .int (iI bars), .ref hs, .ref hc, .ref hf, .ref hg, .ref hb, .ref he, .ref hm])), (hs, .inl (cI, aI 12 fsz)), (hc, .inl (cI, aI 72 fco)), (hf, .inl (cI, aI 72 ffu)), (hg, .inl (cI, aI 72 fsu)), (hb, .inl (cI, aI 72 fbb)), (hm, .inl (cI, aI 2 fmo))] sz)) (va_Qi (fun (r : Int32) (u : Nat × Nat × Nat × Nat × Nat × Nat × (Int → Int) × (Int → Int) × (Int → Int) × (Int → Int) × (Int → Int) × (Int → Int) × (Int → Int) × (Int → Int) × Int) => r = iI (bI ((cn fsz ffu fsu fbb fmo (d + 1)) ≤ 400)) ∧ (∀ j, 0 ≤ j → j < 14 → 0 ≤ u.2.2.2.2.2.2.1 j ∧ u.2.2.2.2.2.2.1 j ≤ (N : Int)) ∧ ((cn fsz ffu fsu fbb fmo (d + 1)) ≤ 400 → u.2.2.2.2.2.2.1 = uZ gst (((d : Nat) : Int) + 2) u.2.2.2.2.2.2.2.2.2.2.2.2.2.2 ∧ ((gst (((d : Nat) : Int) + 1)) ≤ u.2.2.2.2.2.2.2.2.2.2.2.2.2.2 ∧ u.2.2.2.2.2.2.2.2.2.2.2.2.2.2 ≤ (gst (((d : Nat) : Int) + 1)) + 400) ∧ LO fsz fco ffu fsu fbb fmo (d + 1) (gst (((d : Nat) : Int) + 1)) u.2.2.2.2.2.2.2.2.2.2.2.2.2.2 u.2.2.2.2.2.2.2.1 u.2.2.2.2.2.2.2.2.2.2.1 u.2.2.2.2.2.2.2.2.1 ∧ LK fsz ffu fsu fbb fmo gk d (gst ((d : Nat) : Int)) (gst (((d : Nat) : Int) + 1)) u.2.2.2.2.2.2.2.2.2.2.2.2.2.2 u.2.2.2.2.2.2.2.2.2.2.2.2.1 u.2.2.2.2.2.2.2.1 ∧ (∀ i, 0 ≤ i → i < (gst (((d : Nat) : Int) + 1)) → u.2.2.2.2.2.2.2.1 i = gk i ∧ u.2.2.2.2.2.2.2.2.1 i = gct i ∧ u.2.2.2.2.2.2.2.2.2.2.1 i = gwt i) ∧ (∀ j, 0 ≤ j → j < (gst ((d : Nat) : Int)) * 6 → u.2.2.2.2.2.2.2.2.2.2.2.2.1 j = gbe j))) (zPost (dC, dI) stCl [(cI, .int), (cJ, .long), (cZ, .boolean)] [(y0, .inr (2, [.ref t0, .int (iI total), .ref ys, .ref yk, .ref yc, .ref yd, .ref yw, .ref yx, .ref yb, .ref yu])), (ys, .inl (cI, aI 14 gst)), (yk, .inl (cI, aI cap gk)), (yc, .inl (cI, aI cap gct)), (yd, .inl (cI, aI cap gcf)), (yw, .inl (cJ, aL cap gwt)), (yx, .inl (cJ, aL cap gwf)), (yb, .inl (cI, aI (6 * cap) gbe)), (yu, .inl (cI, aI 6 gcu)), (t0, .inr (1, [.int (iI steps), .int (iI choices), .int (iI bars), .ref hs, .ref hc, .ref hf, .ref hg, .ref hb, .ref he, .ref hm])), (hs, .inl (cI, aI 12 fsz)), (hc, .inl (cI, aI 72 fco)), (hf, .inl (cI, aI 72 ffu)), (hg, .inl (cI, aI 72 fsu)), (hb, .inl (cI, aI 72 fbb)), (hm, .inl (cI, aI 2 fmo))] sz (fun u : Nat × Nat × Nat × Nat × Nat × Nat × (Int → Int) × (Int → Int) × (Int → Int) × (Int → Int) × (Int → Int) × (Int → Int) × (Int → Int) × (Int → Int) × Int => [(y0, .inr (2, [.ref t0, .int (iI (u.2.2.2.2.2.2.2.2.2.2.2.2.2.2)), .ref ys, .ref u.1, .ref u.2.1, .ref u.2.2.1, .ref u.2.2.2.1, .ref u.2.2.2.2.1, .ref u.2.2.2.2.2.1, .ref yu])), (ys, .inl (cI, aI 14 (u.2.2.2.2.2.2.1))), (u.1, .inl (cI, aI N (u.2.2.2.2.2.2.2.1))), (u.2.1, .inl (cI, aI N (u.2.2.2.2.2.2.2.2.1))), (u.2.2.1, .inl (cI, aI N (u.2.2.2.2.2.2.2.2.2.1))), (u.2.2.2.1, .inl (cJ, aL N (u.2.2.2.2.2.2.2.2.2.2.1))), (u.2.2.2.2.1, .inl (cJ, aL N (u.2.2.2.2.2.2.2.2.2.2.2.1))), (u.2.2.2.2.2.1, .inl (cI, aI (6 * N) (u.2.2.2.2.2.2.2.2.2.2.2.2.1))), (yu, .inl (cI, aI 6 (u.2.2.2.2.2.2.2.2.2.2.2.2.2.1))), (t0, .inr (1, [.int (iI steps), .int (iI choices), .int (iI bars), .ref hs, .ref hc, .ref hf, .ref hg, .ref hb, .ref he, .ref hm])), (hs, .inl (cI, aI 12 fsz)), (hc, .inl (cI, aI 72 fco)), (hf, .inl (cI, aI 72 ffu)), (hg, .inl (cI, aI 72 fsu)), (hb, .inl (cI, aI 72 fbb)), (hm, .inl (cI, aI 2 fmo))])) (va_A [(y0, .inr (2, [.ref t0, .int (iI total), .ref ys, .ref yk, .ref yc, .ref yd, .ref yw, .ref yx, .ref yb, .ref yu])), (ys, .inl (cI, aI 14 gst)), (yk, .inl (cI, aI cap gk)), (yc, .inl (cI, aI cap gct)), (yd, .inl (cI, aI cap gcf)), (yw, .inl (cJ, aL cap gwt)), (yx, .inl (cJ, aL cap gwf)), (yb, .inl (cI, aI (6 * cap) gbe)), (yu, .inl (cI, aI 6 gcu)), (t0, .inr (1, [.int (iI steps), .int (iI choices), .int (iI bars), .ref hs, .ref hc, .ref hf, .ref hg, .ref hb, .ref he, .ref hm])), (hs, .inl (cI, aI 12 fsz)), (hc, .inl (cI, aI 72 fco)), (hf, .inl (cI, aI 72 ffu)), (hg, .inl (cI, aI 72 fsu)), (hb, .inl (cI, aI 72 fbb)), (hm, .inl (cI, aI 2 fmo))] sz)) 6 q (va_A [(y0, .inr (2, [.ref t0, .int (iI total), .ref ys, .ref yk, .ref yc, .ref yd, .ref yw, .ref yx, .ref yb, .ref yu])), (ys, .inl (cI, aI 14 gst)), (yk, .inl (cI, aI cap gk)), (yc, .inl (cI, aI cap gct)), (yd, .inl (cI, aI cap gcf)), (yw, .inl (cJ, aL cap gwt)), (yx, .inl (cJ, aL cap gwf)), (yb, .inl (cI, aI (6 * cap) gbe)), (yu, .inl (cI, aI 6 gcu)), (t0, .inr (1, [.int (iI steps), .int (iI choices), .int (iI bars), .ref hs, .ref hc, .ref hf, .ref hg, .ref hb, .ref he, .ref hm])), (hs, .inl (cI, aI 12 fsz)), (hc, .inl (cI, aI 72 fco)), (hf, .inl (cI, aI 72 ffu)), (hg, .inl (cI, aI 72 fsu)), (hb, .inl (cI, aI 72 fbb)), (hm, .inl (cI, aI 2 fmo))] sz) := by
  refine met_z (by decide) rfl (Nat.le_of_ble_eq_true rfl) ?_
  intro p e s m below meth c A Q C hmn hret
  have hq0 := kT.1 ((d : Nat) : Int) (by omega) (by omega)
  have hqs := kgst ((d : Nat) : Int) (by omega) (by omega)
  have hqe := kgst (((d : Nat) : Int) + 1) (by omega) (by omega)
  have hpr : 0 ≤ ((gst (((d : Nat) : Int) + 1)) - (gst ((d : Nat) : Int))) * fsz ((d : Nat) : Int) := Int.mul_nonneg (by omega) (by omega)
  have hpr2 : ((gst (((d : Nat) : Int) + 1)) - (gst ((d : Nat) : Int))) * fsz ((d : Nat) : Int) ≤ 4801 * 6 := Int.mul_le_mul (by omega) (by omega) (by omega) (by omega)
  have ke := ks.2.1
  refine g_aload_n C 0 std_Y_layBehind_0 rfl ?_
  refine g_aload_n C 0 std_Y_layBehind_1 rfl ?_
  refine g_get C (st_sub sti_Y) 0 rfl rfl 1 (by decide) (List.mem_cons_of_mem _ kw_1_85) rfl rfl std_Y_layBehind_2 ?_
  refine g_sipush C std_Y_layBehind_5 (by decide) ?_
  refine g_aload_n C 0 std_Y_layBehind_8 rfl ?_
  refine g_iload_n C 1 std_Y_layBehind_9 rfl ?_
  refine g_V_i (wc := [(y0, .inr (2, [.ref t0, .int (iI total), .ref ys, .ref yk, .ref yc, .ref yd, .ref yw, .ref yx, .ref yb, .ref yu])), (ys, .inl (cI, aI 14 gst))]) (wr := [(yk, .inl (cI, aI cap gk)), (yc, .inl (cI, aI cap gct)), (yd, .inl (cI, aI cap gcf)), (yw, .inl (cJ, aL cap gwt)), (yx, .inl (cJ, aL cap gwf)), (yb, .inl (cI, aI (6 * cap) gbe)), (yu, .inl (cI, aI 6 gcu)), (t0, .inr (1, [.int (iI steps), .int (iI choices), .int (iI bars), .ref hs, .ref hc, .ref hf, .ref hg, .ref hb, .ref he, .ref hm])), (hs, .inl (cI, aI 12 fsz)), (hc, .inl (cI, aI 72 fco)), (hf, .inl (cI, aI 72 ffu)), (hg, .inl (cI, aI 72 fsu)), (hb, .inl (cI, aI 72 fbb)), (hm, .inl (cI, aI 2 fmo))]) (rest := [.int (iI 400), .int (iI total), .ref y0]) C (c_sizeOf l dC dI cI cJ cZ y0 ys yk yc yd yw yx yb yu total t0 gst ((d : Nat) : Int) (by omega)) (st_cV C kw_2_43 kw_2_40 kw_1_3 kw_2_41 kw_2_42 sth_Y_sizeOf ⟨Nat.le_of_ble_eq_true rfl, Nat.le_of_ble_eq_true rfl⟩) 0 rfl rfl rfl rfl (Nat.le_of_ble_eq_true rfl) std_Y_layBehind_10 ⟨Nat.le_of_ble_eq_true rfl, by show _ ≤ q; omega⟩ [0, 1] [2, 3, 4, 5, 6, 7, 8, 9, 10, 11, 12, 13, 14, 15] rfl rfl rfl rfl (by decide) (fun r1 u2 h3 => ?_)
  subst h3
  refine g_ws (ws' := [(yk, .inl (cI, aI cap gk)), (yc, .inl (cI, aI cap gct)), (yd, .inl (cI, aI cap gcf)), (yw, .inl (cJ, aL cap gwt)), (yx, .inl (cJ, aL cap gwf)), (yb, .inl (cI, aI (6 * cap) gbe)), (yu, .inl (cI, aI 6 gcu)), (t0, .inr (1, [.int (iI steps), .int (iI choices), .int (iI bars), .ref hs, .ref hc, .ref hf, .ref hg, .ref hb, .ref he, .ref hm])), (hs, .inl (cI, aI 12 fsz)), (hc, .inl (cI, aI 72 fco)), (hf, .inl (cI, aI 72 ffu)), (hg, .inl (cI, aI 72 fsu)), (hb, .inl (cI, aI 72 fbb)), (hm, .inl (cI, aI 2 fmo)), (y0, .inr (2, [.ref t0, .int (iI total), .ref ys, .ref yk, .ref yc, .ref yd, .ref yw, .ref yx, .ref yb, .ref yu])), (ys, .inl (cI, aI 14 gst))]) rfl ?_
  refine g_aload_n C 0 std_Y_layBehind_13 rfl ?_
  refine g_get C (st_sub sti_Y) 14 rfl rfl 0 (by decide) (List.mem_cons_of_mem _ kw_1_83) rfl rfl std_Y_layBehind_14 ?_
  refine g_get C (st_sub sti_T) 7 rfl rfl 3 (by decide) (List.mem_cons_of_mem _ kw_1_36) rfl rfl std_Y_layBehind_17 ?_
  refine g_iload_n C 1 std_Y_layBehind_20 rfl ?_
  refine g_iald C 8 0 rfl rfl (by omega) (by omega) (by omega) std_Y_layBehind_21 ?_
  refine g_imul C std_Y_layBehind_22 ?_
  refine g_min C ⟨by omega, by omega⟩ ⟨by omega, by omega⟩ (List.mem_cons_of_mem _ kw_2_44) (List.mem_cons_of_mem _ kw_2_45) (List.mem_cons_of_mem _ kw_1_7) (List.mem_cons_of_mem _ kw_2_46) (Nat.le_of_ble_eq_true rfl) (Nat.le_of_ble_eq_true rfl) (Nat.le_of_ble_eq_true rfl) (by show _ ≤ q; omega) std_Y_layBehind_23 ?_
  refine g_iadd C std_Y_layBehind_26 ?_
  refine g_V_v (wc := [(y0, .inr (2, [.ref t0, .int (iI total), .ref ys, .ref yk, .ref yc, .ref yd, .ref yw, .ref yx, .ref yb, .ref yu])), (yk, .inl (cI, aI cap gk)), (yc, .inl (cI, aI cap gct)), (yd, .inl (cI, aI cap gcf)), (yw, .inl (cJ, aL cap gwt)), (yx, .inl (cJ, aL cap gwf)), (yb, .inl (cI, aI (6 * cap) gbe))]) (wr := [(yu, .inl (cI, aI 6 gcu)), (t0, .inr (1, [.int (iI steps), .int (iI choices), .int (iI bars), .ref hs, .ref hc, .ref hf, .ref hg, .ref hb, .ref he, .ref hm])), (hs, .inl (cI, aI 12 fsz)), (hc, .inl (cI, aI 72 fco)), (hf, .inl (cI, aI 72 ffu)), (hg, .inl (cI, aI 72 fsu)), (hb, .inl (cI, aI 72 fbb)), (hm, .inl (cI, aI 2 fmo)), (ys, .inl (cI, aI 14 gst))]) (rest := []) C (c_growTo l dC dI cI cJ cZ y0 ys yk yc yd yw yx yb yu total t0 cap N q gk gct gcf gwt gwf gbe (total + (min 400 (((gst (((d : Nat) : Int) + 1)) - (gst ((d : Nat) : Int))) * (fsz ((d : Nat) : Int))))) (kcap) (by omega) (kN) (kq)) (st_cV C kw_2_50 kw_2_47 kw_1_3 kw_2_49 kw_0_1 sth_Y_growTo ⟨Nat.le_of_ble_eq_true rfl, Nat.le_of_ble_eq_true rfl⟩) 0 rfl rfl rfl rfl (Nat.le_of_ble_eq_true rfl) std_Y_layBehind_27 ⟨Nat.le_of_ble_eq_true rfl, by show _ ≤ q; omega⟩ [14, 0, 1, 2, 3, 4, 5] [6, 7, 8, 9, 10, 11, 12, 13, 15] rfl rfl rfl rfl (by decide) (fun u5 h6 => ?_)
  obtain ⟨q7, q8, q9, q10, q11, q12, GK13, GC14, GD15, GW16, GX17, GB18⟩ := u5
  dsimp only at h6
  refine g_ws (ws' := [(yu, .inl (cI, aI 6 gcu)), (t0, .inr (1, [.int (iI steps), .int (iI choices), .int (iI bars), .ref hs, .ref hc, .ref hf, .ref hg, .ref hb, .ref he, .ref hm])), (hs, .inl (cI, aI 12 fsz)), (hc, .inl (cI, aI 72 fco)), (hf, .inl (cI, aI 72 ffu)), (hg, .inl (cI, aI 72 fsu)), (hb, .inl (cI, aI 72 fbb)), (hm, .inl (cI, aI 2 fmo)), (ys, .inl (cI, aI 14 gst)), (y0, .inr (2, [.ref t0, .int (iI total), .ref ys, .ref q7, .ref q8, .ref q9, .ref q10, .ref q11, .ref q12, .ref yu])), (q7, .inl (cI, aI N GK13)), (q8, .inl (cI, aI N GC14)), (q9, .inl (cI, aI N GD15)), (q10, .inl (cJ, aL N GW16)), (q11, .inl (cJ, aL N GX17)), (q12, .inl (cI, aI (6 * N) GB18))]) rfl ?_
  have hGro := h6
  have kcap1 : N ≤ 4801 := by omega
  have hcN : cap ≤ N := by omega
  have kgst1 : ∀ j, 0 ≤ j → j < 14 → 0 ≤ gst j ∧ gst j ≤ (N : Int) := fun j h1 h2 => by have := kgst j h1 h2; omega
  have kL1 : LO fsz fco ffu fsu fbb fmo d (gst ((d : Nat) : Int)) (gst (((d : Nat) : Int) + 1)) GK13 GW16 GC14 := lo_congr kL (fun i i1 i2 => h6.1 i (by omega) (by omega)) (fun i i1 i2 => h6.2.2.2.1 i (by omega) (by omega)) (fun i i1 i2 => h6.2.1 i (by omega) (by omega))
  refine g_iconst C std_Y_layBehind_30 ?_
  refine g_istore_n C (lv' := [(2, .int (iI 0)), (0, .ref y0), (1, .int (iI ((d : Nat) : Int)))]) std_Y_layBehind_31 (by decide) rfl ?_
  have L32 : ∀ (nn32 : Nat) (x : Int) (F : Int → Int) (CU : Int → Int), (0 ≤ x ∧ x ≤ fsz ((d : Nat) : Int)) → LBi ffu fsu fbb fmo GK13 GB18 ((d : Nat) : Int) (gst ((d : Nat) : Int)) (gst (((d : Nat) : Int) + 1)) x CU F → (fsz ((d : Nat) : Int) - x) < (nn32 : Int) → G p l e ({ frames := 3, cells := 6, slots := q, locals := 84 } : Room) s m ([.ref y0, .int (iI ((d : Nat) : Int))] : List Value).toArray below meth c (dC, dI) stCl 4 A 6 q Q [(yu, .inl (cI, aI 6 CU)), (t0, .inr (1, [.int (iI steps), .int (iI choices), .int (iI bars), .ref hs, .ref hc, .ref hf, .ref hg, .ref hb, .ref he, .ref hm])), (hs, .inl (cI, aI 12 fsz)), (hc, .inl (cI, aI 72 fco)), (hf, .inl (cI, aI 72 ffu)), (hg, .inl (cI, aI 72 fsu)), (hb, .inl (cI, aI 72 fbb)), (hm, .inl (cI, aI 2 fmo)), (ys, .inl (cI, aI 14 gst)), (y0, .inr (2, [.ref t0, .int (iI total), .ref ys, .ref q7, .ref q8, .ref q9, .ref q10, .ref q11, .ref q12, .ref yu])), (q7, .inl (cI, aI N GK13)), (q8, .inl (cI, aI N GC14)), (q9, .inl (cI, aI N GD15)), (q10, .inl (cJ, aL N GW16)), (q11, .inl (cJ, aL N GX17)), (q12, .inl (cI, aI (6 * N) F))] 32 [(2, .int (iI x)), (0, .ref y0), (1, .int (iI ((d : Nat) : Int)))] [] := by
    intro nn32
    induction nn32 with
    | zero =>
      intro x F CU kx kI hnn32
      exact absurd hnn32 (by omega)
    | succ nn32 ih32 =>
      intro x F CU kx kI hnn32
      refine g_iload_n C 0 std_Y_layBehind_32 rfl ?_
      refine g_aload_n C 1 std_Y_layBehind_33 rfl ?_
      refine g_get C (st_sub sti_Y) 9 rfl rfl 0 (by decide) (List.mem_cons_of_mem _ kw_1_83) rfl rfl std_Y_layBehind_34 ?_
      refine g_get C (st_sub sti_T) 1 rfl rfl 3 (by decide) (List.mem_cons_of_mem _ kw_1_36) rfl rfl std_Y_layBehind_37 ?_
      refine g_iload_n C 2 std_Y_layBehind_40 rfl ?_
      refine g_iald C 2 0 rfl rfl (by omega) (by omega) (by omega) std_Y_layBehind_41 ?_
      refine g_icmp_ge (tgt := 75) C std_Y_layBehind_42 (by decide) ⟨by omega, by omega⟩ ⟨by omega, by omega⟩ (fun c19 => ?_) (fun c19 => ?_)
      · have hxe : x = fsz ((d : Nat) : Int) := by omega
        rw [hxe] at kI
        refine g_iconst C std_Y_layBehind_75 ?_
        refine g_istore_n C (lv' := [(2, .int (iI 0)), (0, .ref y0), (1, .int (iI ((d : Nat) : Int)))]) std_Y_layBehind_76 (by decide) rfl ?_
        have L77 : ∀ (nn77 : Nat) (x : Int) (T : Int) (CU : Int → Int) (F : Int → Int) (GK : Int → Int) (GC : Int → Int) (GW : Int → Int), (0 ≤ x ∧ x ≤ 401) → ((gst (((d : Nat) : Int) + 1)) ≤ T ∧ T ≤ (N : Int)) → ((x ≤ 400 ∧ T = (gst (((d : Nat) : Int) + 1)) + x ∧ LBp fsz fco ffu fsu fbb fmo GK13 GW16 GC14 GB18 d (gst ((d : Nat) : Int)) (gst (((d : Nat) : Int) + 1)) T CU F GK GC GW) ∨ (x = 401 ∧ 400 < (cn fsz ffu fsu fbb fmo (d + 1)))) → (401 - x) < (nn77 : Int) → G p l e ({ frames := 3, cells := 6, slots := q, locals := 84 } : Room) s m ([.ref y0, .int (iI ((d : Nat) : Int))] : List Value).toArray below meth c (dC, dI) stCl 4 A 6 q Q [(yu, .inl (cI, aI 6 CU)), (t0, .inr (1, [.int (iI steps), .int (iI choices), .int (iI bars), .ref hs, .ref hc, .ref hf, .ref hg, .ref hb, .ref he, .ref hm])), (hs, .inl (cI, aI 12 fsz)), (hc, .inl (cI, aI 72 fco)), (hf, .inl (cI, aI 72 ffu)), (hg, .inl (cI, aI 72 fsu)), (hb, .inl (cI, aI 72 fbb)), (hm, .inl (cI, aI 2 fmo)), (ys, .inl (cI, aI 14 gst)), (y0, .inr (2, [.ref t0, .int (iI T), .ref ys, .ref q7, .ref q8, .ref q9, .ref q10, .ref q11, .ref q12, .ref yu])), (q7, .inl (cI, aI N GK)), (q8, .inl (cI, aI N GC)), (q9, .inl (cI, aI N GD15)), (q10, .inl (cJ, aL N GW)), (q11, .inl (cJ, aL N GX17)), (q12, .inl (cI, aI (6 * N) F))] 77 [(2, .int (iI x)), (0, .ref y0), (1, .int (iI ((d : Nat) : Int)))] [] := by
          intro nn77
          induction nn77 with
          | zero =>
            intro x T CU F GK GC GW kx kTN kM hnn77
            exact absurd hnn77 (by omega)
          | succ nn77 ih77 =>
            intro x T CU F GK GC GW kx kTN kM hnn77
            refine g_iload_n C 0 std_Y_layBehind_77 rfl ?_
            refine g_sipush C std_Y_layBehind_78 (by decide) ?_
            refine g_icmp_gt (tgt := 127) C std_Y_layBehind_81 (by decide) ⟨by omega, by omega⟩ ⟨by omega, by omega⟩ (fun c20 => ?_) (fun c20 => ?_)
            · refine g_iconst C std_Y_layBehind_127 ?_
              refine g_sub (ws' := [(y0, .inr (2, [.ref t0, .int (iI T), .ref ys, .ref q7, .ref q8, .ref q9, .ref q10, .ref q11, .ref q12, .ref yu])), (ys, .inl (cI, aI 14 gst)), (q7, .inl (cI, aI N GK)), (q8, .inl (cI, aI N GC)), (q9, .inl (cI, aI N GD15)), (q10, .inl (cJ, aL N GW)), (q11, .inl (cJ, aL N GX17)), (q12, .inl (cI, aI (6 * N) F)), (yu, .inl (cI, aI 6 CU)), (t0, .inr (1, [.int (iI steps), .int (iI choices), .int (iI bars), .ref hs, .ref hc, .ref hf, .ref hg, .ref hb, .ref he, .ref hm])), (hs, .inl (cI, aI 12 fsz)), (hc, .inl (cI, aI 72 fco)), (hf, .inl (cI, aI 72 ffu)), (hg, .inl (cI, aI 72 fsu)), (hb, .inl (cI, aI 72 fbb)), (hm, .inl (cI, aI 2 fmo))]) [9, 8, 10, 11, 12, 13, 14, 15, 0, 1, 2, 3, 4, 5, 6, 7] rfl rfl ?_
              exact hret _ _ _ (q7, q8, q9, q10, q11, q12, gst, GK, GC, GD15, GW, GX17, F, CU, T) (⟨by rw [bI_f (by omega)], kgst1, fun h => absurd h (by omega)⟩) (by decide) std_Y_layBehind_128
            · obtain ⟨kM1, kM2, kM3⟩ : x ≤ 400 ∧ T = (gst (((d : Nat) : Int) + 1)) + x ∧ LBp fsz fco ffu fsu fbb fmo GK13 GW16 GC14 GB18 d (gst ((d : Nat) : Int)) (gst (((d : Nat) : Int) + 1)) T CU F GK GC GW := by
                rcases kM with h | h
                · exact h
                · exfalso; omega
              refine g_aload_n C 1 std_Y_layBehind_84 rfl ?_
              refine g_iload_n C 2 std_Y_layBehind_85 rfl ?_
              refine g_V_i (wc := [(y0, .inr (2, [.ref t0, .int (iI T), .ref ys, .ref q7, .ref q8, .ref q9, .ref q10, .ref q11, .ref q12, .ref yu])), (ys, .inl (cI, aI 14 gst)), (q12, .inl (cI, aI (6 * N) F)), (yu, .inl (cI, aI 6 CU)), (t0, .inr (1, [.int (iI steps), .int (iI choices), .int (iI bars), .ref hs, .ref hc, .ref hf, .ref hg, .ref hb, .ref he, .ref hm])), (hs, .inl (cI, aI 12 fsz))]) (wr := [(hc, .inl (cI, aI 72 fco)), (hf, .inl (cI, aI 72 ffu)), (hg, .inl (cI, aI 72 fsu)), (hb, .inl (cI, aI 72 fbb)), (hm, .inl (cI, aI 2 fmo)), (q7, .inl (cI, aI N GK)), (q8, .inl (cI, aI N GC)), (q9, .inl (cI, aI N GD15)), (q10, .inl (cJ, aL N GW)), (q11, .inl (cJ, aL N GX17))]) (rest := []) C (c_choiceWithLeastKey l dC dI cI cJ cZ y0 ys q7 q8 q9 q10 q11 q12 yu T t0 hs hc hf hg hb he hm steps choices bars N gst F CU fsz ((d : Nat) : Int) (kcap1) (kgst1) (kT.1) (by omega) (fun i i1 i2 => by have := (kM3.2.1 i i1 i2).1; omega) (fun c c1 c2 c3 => by rw [kM3.2.2.1 c (CU c) c1 c2 (Int.le_refl _) c3]; exact kn_rI kT (by omega) (by omega) c1 (by omega) (kL1.1 (CU c) (by have := (kM3.2.1 c c1 c2).1; omega) c3).1)) (st_cV C kw_2_105 kw_2_102 kw_1_3 kw_2_104 kw_0_4 sth_Y_choiceWithLeastKey ⟨Nat.le_of_ble_eq_true rfl, Nat.le_of_ble_eq_true rfl⟩) 0 rfl rfl rfl rfl (Nat.le_of_ble_eq_true rfl) std_Y_layBehind_86 ⟨Nat.le_of_ble_eq_true rfl, by show _ ≤ q; omega⟩ [9, 8, 15, 0, 1, 2] [3, 4, 5, 6, 7, 10, 11, 12, 13, 14] rfl rfl rfl rfl (by decide) (fun r21 u22 h23 => ?_)
              obtain ⟨z24, k25⟩ := u22
              obtain ⟨h23r, h23p⟩ := h23
              dsimp only at h23r h23p
              subst h23r
              refine g_ws (ws' := [(hc, .inl (cI, aI 72 fco)), (hf, .inl (cI, aI 72 ffu)), (hg, .inl (cI, aI 72 fsu)), (hb, .inl (cI, aI 72 fbb)), (hm, .inl (cI, aI 2 fmo)), (q7, .inl (cI, aI N GK)), (q8, .inl (cI, aI N GC)), (q9, .inl (cI, aI N GD15)), (q10, .inl (cJ, aL N GW)), (q11, .inl (cJ, aL N GX17)), (y0, .inr (2, [.ref t0, .int (iI T), .ref ys, .ref q7, .ref q8, .ref q9, .ref q10, .ref q11, .ref q12, .ref yu])), (ys, .inl (cI, aI 14 gst)), (q12, .inl (cI, aI (6 * N) F)), (yu, .inl (cI, aI 6 CU)), (t0, .inr (1, [.int (iI steps), .int (iI choices), .int (iI bars), .ref hs, .ref hc, .ref hf, .ref hg, .ref hb, .ref he, .ref hm])), (hs, .inl (cI, aI 12 fsz))]) rfl ?_
              refine g_istore_n C (lv' := [(3, .int (iI z24)), (2, .int (iI x)), (0, .ref y0), (1, .int (iI ((d : Nat) : Int)))]) std_Y_layBehind_89 (by decide) rfl ?_
              refine g_iload_n C 0 std_Y_layBehind_90 rfl ?_
              have hzr := cw_rng h23p (by omega)
              refine g_if_ge (tgt := 108) C std_Y_layBehind_91 (by decide) ⟨by omega, by omega⟩ (fun c26 => ?_) (fun c26 => ?_)
              · obtain ⟨hz1, hz2, hz3⟩ : 0 ≤ z24 ∧ z24 < fsz ((d : Nat) : Int) ∧ CU z24 < (gst (((d : Nat) : Int) + 1)) := by
                  rcases h23p with q | q
                  · exfalso; have := q.1; omega
                  · exact ⟨q.1.1, q.1.2, q.2.1⟩
                have hroom := lb_room kM3 hz1 hz2 hz3
                have hsb := (kM3.2.1 z24 hz1 hz2).1
                refine g_iload_n C 1 std_Y_layBehind_108 rfl ?_
                refine g_sipush C std_Y_layBehind_109 (by decide) ?_
                refine g_icmp_ge (tgt := 121) C std_Y_layBehind_112 (by decide) ⟨by omega, by omega⟩ ⟨by omega, by omega⟩ (fun c27 => ?_) (fun c27 => ?_)
                · refine g_iinc C (lv' := [(2, .int (iI (x + 1))), (3, .int (iI z24)), (0, .ref y0), (1, .int (iI ((d : Nat) : Int)))]) 1 std_Y_layBehind_121 rfl (by decide) rfl ?_
                  refine g_goto (tgt := 77) C std_Y_layBehind_124 (by decide) ?_
                  refine g_sub (ws' := [(yu, .inl (cI, aI 6 CU)), (t0, .inr (1, [.int (iI steps), .int (iI choices), .int (iI bars), .ref hs, .ref hc, .ref hf, .ref hg, .ref hb, .ref he, .ref hm])), (hs, .inl (cI, aI 12 fsz)), (hc, .inl (cI, aI 72 fco)), (hf, .inl (cI, aI 72 ffu)), (hg, .inl (cI, aI 72 fsu)), (hb, .inl (cI, aI 72 fbb)), (hm, .inl (cI, aI 2 fmo)), (ys, .inl (cI, aI 14 gst)), (y0, .inr (2, [.ref t0, .int (iI T), .ref ys, .ref q7, .ref q8, .ref q9, .ref q10, .ref q11, .ref q12, .ref yu])), (q7, .inl (cI, aI N GK)), (q8, .inl (cI, aI N GC)), (q9, .inl (cI, aI N GD15)), (q10, .inl (cJ, aL N GW)), (q11, .inl (cJ, aL N GX17)), (q12, .inl (cI, aI (6 * N) F))]) [13, 14, 15, 0, 1, 2, 3, 4, 11, 10, 5, 6, 7, 8, 9, 12] rfl rfl ?_
                  refine g_lv (lv' := [(2, .int (iI (x + 1))), (0, .ref y0), (1, .int (iI ((d : Nat) : Int)))]) [0, 2, 3] rfl ?_
                  refine g_wide (k := 6) (n := q) (Nat.le_of_ble_eq_true rfl) (by omega) ?_
                  exact ih77 (x + 1) T CU F GK GC GW (by omega) (by omega) (Or.inr ⟨by omega, lb_full kT kd kL1 kM3 hz1 hz2 hz3 (by omega)⟩) (by omega)
                · refine g_aload_n C 2 std_Y_layBehind_115 rfl ?_
                  refine g_iload_n C 3 std_Y_layBehind_116 rfl ?_
                  refine g_iload_n C 0 std_Y_layBehind_117 rfl ?_
                  refine g_V_v (wc := [(y0, .inr (2, [.ref t0, .int (iI T), .ref ys, .ref q7, .ref q8, .ref q9, .ref q10, .ref q11, .ref q12, .ref yu])), (ys, .inl (cI, aI 14 gst)), (q7, .inl (cI, aI N GK)), (q8, .inl (cI, aI N GC)), (q10, .inl (cJ, aL N GW)), (q12, .inl (cI, aI (6 * N) F)), (yu, .inl (cI, aI 6 CU)), (t0, .inr (1, [.int (iI steps), .int (iI choices), .int (iI bars), .ref hs, .ref hc, .ref hf, .ref hg, .ref hb, .ref he, .ref hm])), (hc, .inl (cI, aI 72 fco))]) (wr := [(hf, .inl (cI, aI 72 ffu)), (hg, .inl (cI, aI 72 fsu)), (hb, .inl (cI, aI 72 fbb)), (hm, .inl (cI, aI 2 fmo)), (q9, .inl (cI, aI N GD15)), (q11, .inl (cJ, aL N GX17)), (hs, .inl (cI, aI 12 fsz))]) (rest := []) C (c_addNode l dC dI cI cJ cZ y0 ys q7 q8 q9 q10 q11 q12 yu T t0 hs hc hf hg hb he hm steps choices bars N gst GK GC GW F CU fco ((d : Nat) : Int) z24 (kcap1) (kgst1) (by omega) (by omega) (by omega) (by omega) (by rw [kM3.2.2.1 z24 (CU z24) hz1 hz2 (Int.le_refl _) hz3]; exact (kM3.2.1 z24 hz1 hz2).2 hz3) (fun i i1 i2 => by rw [kM3.2.2.1 z24 i hz1 hz2 i1 i2]; exact kn_rI kT (by omega) (by omega) hz1 (by omega) (kL1.1 i (by omega) i2).1) (fun i i1 i2 => by rw [(kM3.1 i i2).2.1]; have q := kL1.1 i (by omega) i2; rw [q.2.2.2]; have := ct_rng kT d _ (by omega) (q.2.1 ▸ q.2.2.1); omega) (kT.2.1)) (st_cV C kw_2_109 kw_2_106 kw_1_3 kw_2_108 kw_0_5 sth_Y_addNode ⟨Nat.le_of_ble_eq_true rfl, Nat.le_of_ble_eq_true rfl⟩) 0 rfl rfl rfl rfl (Nat.le_of_ble_eq_true rfl) std_Y_layBehind_118 ⟨Nat.le_of_ble_eq_true rfl, by show _ ≤ q; omega⟩ [10, 11, 5, 6, 8, 12, 13, 14, 0] [1, 2, 3, 4, 7, 9, 15] rfl rfl rfl rfl (by decide) (fun u29 h30 => ?_)
                  obtain ⟨CU31, F32, GC33, GW34⟩ := u29
                  dsimp only at h30
                  refine g_ws (ws' := [(hf, .inl (cI, aI 72 ffu)), (hg, .inl (cI, aI 72 fsu)), (hb, .inl (cI, aI 72 fbb)), (hm, .inl (cI, aI 2 fmo)), (q9, .inl (cI, aI N GD15)), (q11, .inl (cJ, aL N GX17)), (hs, .inl (cI, aI 12 fsz)), (y0, .inr (2, [.ref t0, .int (iI (T + 1)), .ref ys, .ref q7, .ref q8, .ref q9, .ref q10, .ref q11, .ref q12, .ref yu])), (ys, .inl (cI, aI 14 gst)), (q7, .inl (cI, aI N (uZ GK T (F ((CU z24 * 6) + z24))))), (q8, .inl (cI, aI N GC33)), (q10, .inl (cJ, aL N GW34)), (q12, .inl (cI, aI (6 * N) F32)), (yu, .inl (cI, aI 6 CU31)), (t0, .inr (1, [.int (iI steps), .int (iI choices), .int (iI bars), .ref hs, .ref hc, .ref hf, .ref hg, .ref hb, .ref he, .ref hm])), (hc, .inl (cI, aI 72 fco))]) rfl ?_
                  refine g_iinc C (lv' := [(2, .int (iI (x + 1))), (3, .int (iI z24)), (0, .ref y0), (1, .int (iI ((d : Nat) : Int)))]) 1 std_Y_layBehind_121 rfl (by decide) rfl ?_
                  refine g_goto (tgt := 77) C std_Y_layBehind_124 (by decide) ?_
                  refine g_sub (ws' := [(yu, .inl (cI, aI 6 CU31)), (t0, .inr (1, [.int (iI steps), .int (iI choices), .int (iI bars), .ref hs, .ref hc, .ref hf, .ref hg, .ref hb, .ref he, .ref hm])), (hs, .inl (cI, aI 12 fsz)), (hc, .inl (cI, aI 72 fco)), (hf, .inl (cI, aI 72 ffu)), (hg, .inl (cI, aI 72 fsu)), (hb, .inl (cI, aI 72 fbb)), (hm, .inl (cI, aI 2 fmo)), (ys, .inl (cI, aI 14 gst)), (y0, .inr (2, [.ref t0, .int (iI (T + 1)), .ref ys, .ref q7, .ref q8, .ref q9, .ref q10, .ref q11, .ref q12, .ref yu])), (q7, .inl (cI, aI N (uZ GK T (F ((CU z24 * 6) + z24))))), (q8, .inl (cI, aI N GC33)), (q9, .inl (cI, aI N GD15)), (q10, .inl (cJ, aL N GW34)), (q11, .inl (cJ, aL N GX17)), (q12, .inl (cI, aI (6 * N) F32))]) [13, 14, 6, 15, 0, 1, 2, 3, 8, 7, 9, 10, 4, 11, 5, 12] rfl rfl ?_
                  refine g_lv (lv' := [(2, .int (iI (x + 1))), (0, .ref y0), (1, .int (iI ((d : Nat) : Int)))]) [0, 2, 3] rfl ?_
                  refine g_wide (k := 6) (n := q) (Nat.le_of_ble_eq_true rfl) (by omega) ?_
                  exact ih77 (x + 1) (T + 1) CU31 F32 (uZ GK T (F ((CU z24 * 6) + z24))) GC33 GW34 (by omega) (by omega) (Or.inl ⟨by omega, by omega, lb_step kT kd kL1 (by omega) kM3 hz1 hz2 h23p h30.1 h30.2.1 h30.2.2⟩) (by omega)
              · have hall : ∀ i, 0 ≤ i → i < fsz ((d : Nat) : Int) → (gst (((d : Nat) : Int) + 1)) ≤ CU i := by
                  rcases h23p with q | q
                  · exact q.2
                  · exfalso; have := q.1; omega
                refine g_aload_n C 2 std_Y_layBehind_94 rfl ?_
                refine g_get C (st_sub sti_Y) 10 rfl rfl 2 (by decide) (List.mem_cons_of_mem _ kw_1_86) rfl rfl std_Y_layBehind_95 ?_
                refine g_iload_n C 3 std_Y_layBehind_98 rfl ?_
                refine g_iconst C std_Y_layBehind_99 ?_
                refine g_iadd C std_Y_layBehind_100 ?_
                refine g_aload_n C 2 std_Y_layBehind_101 rfl ?_
                refine g_get C (st_sub sti_Y) 10 rfl rfl 1 (by decide) (List.mem_cons_of_mem _ kw_1_85) rfl rfl std_Y_layBehind_102 ?_
                refine g_iast C (ws' := [(hc, .inl (cI, aI 72 fco)), (hf, .inl (cI, aI 72 ffu)), (hg, .inl (cI, aI 72 fsu)), (hb, .inl (cI, aI 72 fbb)), (hm, .inl (cI, aI 2 fmo)), (q7, .inl (cI, aI N GK)), (q8, .inl (cI, aI N GC)), (q9, .inl (cI, aI N GD15)), (q10, .inl (cJ, aL N GW)), (q11, .inl (cJ, aL N GX17)), (y0, .inr (2, [.ref t0, .int (iI T), .ref ys, .ref q7, .ref q8, .ref q9, .ref q10, .ref q11, .ref q12, .ref yu])), (ys, .inl (cI, aI 14 (uZ gst (((d : Nat) : Int) + 2) T))), (q12, .inl (cI, aI (6 * N) F)), (yu, .inl (cI, aI 6 CU)), (t0, .inr (1, [.int (iI steps), .int (iI choices), .int (iI bars), .ref hs, .ref hc, .ref hf, .ref hg, .ref hb, .ref he, .ref hm])), (hs, .inl (cI, aI 12 fsz))]) 11 0 rfl rfl (by omega) (by omega) (by omega) std_Y_layBehind_105 rfl ?_
                refine g_iconst C std_Y_layBehind_106 ?_
                refine g_sub (ws' := [(y0, .inr (2, [.ref t0, .int (iI T), .ref ys, .ref q7, .ref q8, .ref q9, .ref q10, .ref q11, .ref q12, .ref yu])), (ys, .inl (cI, aI 14 (uZ gst (((d : Nat) : Int) + 2) T))), (q7, .inl (cI, aI N GK)), (q8, .inl (cI, aI N GC)), (q9, .inl (cI, aI N GD15)), (q10, .inl (cJ, aL N GW)), (q11, .inl (cJ, aL N GX17)), (q12, .inl (cI, aI (6 * N) F)), (yu, .inl (cI, aI 6 CU)), (t0, .inr (1, [.int (iI steps), .int (iI choices), .int (iI bars), .ref hs, .ref hc, .ref hf, .ref hg, .ref hb, .ref he, .ref hm])), (hs, .inl (cI, aI 12 fsz)), (hc, .inl (cI, aI 72 fco)), (hf, .inl (cI, aI 72 ffu)), (hg, .inl (cI, aI 72 fsu)), (hb, .inl (cI, aI 72 fbb)), (hm, .inl (cI, aI 2 fmo))]) [10, 11, 5, 6, 7, 8, 9, 12, 13, 14, 15, 0, 1, 2, 3, 4] rfl rfl ?_
                refine g_wide (k := 6) (n := q) (Nat.le_of_ble_eq_true rfl) (by omega) ?_
                have hout := lb_out kT kd (C := (cap : Int)) (by omega) (by omega) (by omega) hGro.1 hGro.2.1 hGro.2.2.2.1 hGro.2.2.2.2.2 kL1 kM3 hall (by omega)
                exact hret _ _ _ (q7, q8, q9, q10, q11, q12, (uZ gst (((d : Nat) : Int) + 2) T), GK, GC, GD15, GW, GX17, F, CU, T) (⟨by rw [bI_t hout.1], st_le kgst1 (by omega), fun _ => ⟨rfl, hout.2⟩⟩) (by decide) std_Y_layBehind_107
        obtain ⟨nn0, hnn0⟩ : ∃ nn0 : Nat, (401 - 0) < (nn0 : Int) := z_nat _
        exact L77 nn0 0 total CU F GK13 GC14 GW16 (by omega) (by omega) (Or.inl ⟨by omega, by omega, by rw [← ke]; exact lb_0 kI⟩) hnn0
      · refine g_aload_n C 1 std_Y_layBehind_45 rfl ?_
        refine g_iload_n C 2 std_Y_layBehind_46 rfl ?_
        refine g_iload_n C 0 std_Y_layBehind_47 rfl ?_
        refine g_V_v (wc := [(y0, .inr (2, [.ref t0, .int (iI total), .ref ys, .ref q7, .ref q8, .ref q9, .ref q10, .ref q11, .ref q12, .ref yu])), (ys, .inl (cI, aI 14 gst)), (q7, .inl (cI, aI N GK13)), (q12, .inl (cI, aI (6 * N) F)), (t0, .inr (1, [.int (iI steps), .int (iI choices), .int (iI bars), .ref hs, .ref hc, .ref hf, .ref hg, .ref hb, .ref he, .ref hm])), (hf, .inl (cI, aI 72 ffu)), (hg, .inl (cI, aI 72 fsu)), (hb, .inl (cI, aI 72 fbb)), (hm, .inl (cI, aI 2 fmo))]) (wr := [(yu, .inl (cI, aI 6 CU)), (hs, .inl (cI, aI 12 fsz)), (hc, .inl (cI, aI 72 fco)), (q8, .inl (cI, aI N GC14)), (q9, .inl (cI, aI N GD15)), (q10, .inl (cJ, aL N GW16)), (q11, .inl (cJ, aL N GX17))]) (rest := []) C (c_findKeysBehind l dC dI cI cJ cZ y0 ys q7 q8 q9 q10 q11 q12 yu total t0 hs hc hf hg hb he hm steps choices bars N gst GK13 F ffu fsu fbb fmo ((d : Nat) : Int) x (kcap1) (kgst1) (kT.2.2.2) (by omega) (by omega) (by omega) (fun i i1 i2 => vk_all (kL1.1 i i1 i2).1) (kT.2.2.1)) (st_cV C kw_2_79 kw_2_76 kw_1_3 kw_2_78 kw_0_2 sth_Y_findKeysBehind ⟨Nat.le_of_ble_eq_true rfl, Nat.le_of_ble_eq_true rfl⟩) 0 rfl rfl rfl rfl (Nat.le_of_ble_eq_true rfl) std_Y_layBehind_48 ⟨Nat.le_of_ble_eq_true rfl, by show _ ≤ q; omega⟩ [9, 8, 10, 15, 1, 4, 5, 6, 7] [0, 2, 3, 11, 12, 13, 14] rfl rfl rfl rfl (by decide) (fun u36 h37 => ?_)
        refine g_ws (ws' := [(yu, .inl (cI, aI 6 CU)), (hs, .inl (cI, aI 12 fsz)), (hc, .inl (cI, aI 72 fco)), (q8, .inl (cI, aI N GC14)), (q9, .inl (cI, aI N GD15)), (q10, .inl (cJ, aL N GW16)), (q11, .inl (cJ, aL N GX17)), (y0, .inr (2, [.ref t0, .int (iI total), .ref ys, .ref q7, .ref q8, .ref q9, .ref q10, .ref q11, .ref q12, .ref yu])), (ys, .inl (cI, aI 14 gst)), (q7, .inl (cI, aI N GK13)), (q12, .inl (cI, aI (6 * N) u36)), (t0, .inr (1, [.int (iI steps), .int (iI choices), .int (iI bars), .ref hs, .ref hc, .ref hf, .ref hg, .ref hb, .ref he, .ref hm])), (hf, .inl (cI, aI 72 ffu)), (hg, .inl (cI, aI 72 fsu)), (hb, .inl (cI, aI 72 fbb)), (hm, .inl (cI, aI 2 fmo))]) rfl ?_
        refine g_aload_n C 1 std_Y_layBehind_51 rfl ?_
        refine g_get C (st_sub sti_Y) 7 rfl rfl 9 (by decide) (List.mem_cons_of_mem _ kw_1_100) rfl rfl std_Y_layBehind_52 ?_
        refine g_iload_n C 0 std_Y_layBehind_55 rfl ?_
        refine g_aload_n C 1 std_Y_layBehind_56 rfl ?_
        refine g_get C (st_sub sti_Y) 7 rfl rfl 2 (by decide) (List.mem_cons_of_mem _ kw_1_86) rfl rfl std_Y_layBehind_57 ?_
        refine g_iload_n C 2 std_Y_layBehind_60 rfl ?_
        refine g_iald C 8 0 rfl rfl (by omega) (by omega) (by omega) std_Y_layBehind_61 ?_
        refine g_iast C (ws' := [(yu, .inl (cI, aI 6 (uZ CU x (gst ((d : Nat) : Int))))), (hs, .inl (cI, aI 12 fsz)), (hc, .inl (cI, aI 72 fco)), (q8, .inl (cI, aI N GC14)), (q9, .inl (cI, aI N GD15)), (q10, .inl (cJ, aL N GW16)), (q11, .inl (cJ, aL N GX17)), (y0, .inr (2, [.ref t0, .int (iI total), .ref ys, .ref q7, .ref q8, .ref q9, .ref q10, .ref q11, .ref q12, .ref yu])), (ys, .inl (cI, aI 14 gst)), (q7, .inl (cI, aI N GK13)), (q12, .inl (cI, aI (6 * N) u36)), (t0, .inr (1, [.int (iI steps), .int (iI choices), .int (iI bars), .ref hs, .ref hc, .ref hf, .ref hg, .ref hb, .ref he, .ref hm])), (hf, .inl (cI, aI 72 ffu)), (hg, .inl (cI, aI 72 fsu)), (hb, .inl (cI, aI 72 fbb)), (hm, .inl (cI, aI 2 fmo))]) 0 0 rfl rfl (by omega) (by omega) (by omega) std_Y_layBehind_62 rfl ?_
        refine g_aload_n C 1 std_Y_layBehind_63 rfl ?_
        refine g_iload_n C 2 std_Y_layBehind_64 rfl ?_
        refine g_iload_n C 0 std_Y_layBehind_65 rfl ?_
        refine g_V_v (wc := [(y0, .inr (2, [.ref t0, .int (iI total), .ref ys, .ref q7, .ref q8, .ref q9, .ref q10, .ref q11, .ref q12, .ref yu])), (ys, .inl (cI, aI 14 gst)), (q12, .inl (cI, aI (6 * N) u36)), (yu, .inl (cI, aI 6 (uZ CU x (gst ((d : Nat) : Int)))))]) (wr := [(hs, .inl (cI, aI 12 fsz)), (hc, .inl (cI, aI 72 fco)), (q8, .inl (cI, aI N GC14)), (q9, .inl (cI, aI N GD15)), (q10, .inl (cJ, aL N GW16)), (q11, .inl (cJ, aL N GX17)), (q7, .inl (cI, aI N GK13)), (t0, .inr (1, [.int (iI steps), .int (iI choices), .int (iI bars), .ref hs, .ref hc, .ref hf, .ref hg, .ref hb, .ref he, .ref hm])), (hf, .inl (cI, aI 72 ffu)), (hg, .inl (cI, aI 72 fsu)), (hb, .inl (cI, aI 72 fbb)), (hm, .inl (cI, aI 2 fmo))]) (rest := []) C (c_skipUnfollowed l dC dI cI cJ cZ y0 ys q7 q8 q9 q10 q11 q12 yu total t0 N gst u36 (uZ CU x (gst ((d : Nat) : Int))) ((d : Nat) : Int) x (kcap1) (kgst1) (by omega) (by omega) (by rw [uZ_s]; omega) (fun i i1 i2 => by rw [uZ_s] at i1; rw [h37.1 i i1 i2]; exact kn_rI kT (by omega) (by omega) (by omega) (by omega) (kL1.1 i i1 i2).1)) (st_cV C kw_2_97 kw_2_94 kw_1_3 kw_2_96 kw_0_3 sth_Y_skipUnfollowed ⟨Nat.le_of_ble_eq_true rfl, Nat.le_of_ble_eq_true rfl⟩) 0 rfl rfl rfl rfl (Nat.le_of_ble_eq_true rfl) std_Y_layBehind_66 ⟨Nat.le_of_ble_eq_true rfl, by show _ ≤ q; omega⟩ [7, 8, 10, 0] [1, 2, 3, 4, 5, 6, 9, 11, 12, 13, 14, 15] rfl rfl rfl rfl (by decide) (fun u39 h40 => ?_)
        refine g_ws (ws' := [(hs, .inl (cI, aI 12 fsz)), (hc, .inl (cI, aI 72 fco)), (q8, .inl (cI, aI N GC14)), (q9, .inl (cI, aI N GD15)), (q10, .inl (cJ, aL N GW16)), (q11, .inl (cJ, aL N GX17)), (q7, .inl (cI, aI N GK13)), (t0, .inr (1, [.int (iI steps), .int (iI choices), .int (iI bars), .ref hs, .ref hc, .ref hf, .ref hg, .ref hb, .ref he, .ref hm])), (hf, .inl (cI, aI 72 ffu)), (hg, .inl (cI, aI 72 fsu)), (hb, .inl (cI, aI 72 fbb)), (hm, .inl (cI, aI 2 fmo)), (y0, .inr (2, [.ref t0, .int (iI total), .ref ys, .ref q7, .ref q8, .ref q9, .ref q10, .ref q11, .ref q12, .ref yu])), (ys, .inl (cI, aI 14 gst)), (q12, .inl (cI, aI (6 * N) u36)), (yu, .inl (cI, aI 6 u39))]) rfl ?_
        refine g_iinc C (lv' := [(2, .int (iI (x + 1))), (0, .ref y0), (1, .int (iI ((d : Nat) : Int)))]) 0 std_Y_layBehind_69 rfl (by decide) rfl ?_
        refine g_goto (tgt := 32) C std_Y_layBehind_72 (by decide) ?_
        refine g_sub (ws' := [(yu, .inl (cI, aI 6 u39)), (t0, .inr (1, [.int (iI steps), .int (iI choices), .int (iI bars), .ref hs, .ref hc, .ref hf, .ref hg, .ref hb, .ref he, .ref hm])), (hs, .inl (cI, aI 12 fsz)), (hc, .inl (cI, aI 72 fco)), (hf, .inl (cI, aI 72 ffu)), (hg, .inl (cI, aI 72 fsu)), (hb, .inl (cI, aI 72 fbb)), (hm, .inl (cI, aI 2 fmo)), (ys, .inl (cI, aI 14 gst)), (y0, .inr (2, [.ref t0, .int (iI total), .ref ys, .ref q7, .ref q8, .ref q9, .ref q10, .ref q11, .ref q12, .ref yu])), (q7, .inl (cI, aI N GK13)), (q8, .inl (cI, aI N GC14)), (q9, .inl (cI, aI N GD15)), (q10, .inl (cJ, aL N GW16)), (q11, .inl (cJ, aL N GX17)), (q12, .inl (cI, aI (6 * N) u36))]) [15, 7, 0, 1, 8, 9, 10, 11, 13, 12, 6, 2, 3, 4, 5, 14] rfl rfl ?_
        refine g_wide (k := 6) (n := q) (Nat.le_of_ble_eq_true rfl) (by omega) ?_
        exact ih32 (x + 1) u36 u39 (by omega) (li_step kI ⟨by omega, by omega⟩ (by omega) h37.1 h37.2 h40.1 h40.2.1 h40.2.2.1 h40.2.2.2 (fun c h1 h2 => by omega)) (by omega)
  refine g_wide (k := 6) (n := q) (Nat.le_of_ble_eq_true rfl) (by omega) ?_
  obtain ⟨nn0, hnn0⟩ : ∃ nn0 : Nat, (fsz ((d : Nat) : Int) - 0) < (nn0 : Int) := z_nat _
  exact L32 nn0 0 GB18 gcu (by omega) (li_0 (fun _ _ => rfl)) hnn0
end
section
/-! ALL LAYERS -/
noncomputable def tot (fsz ffu fsu fbb fmo : Int → Int) : Nat → Int
  | 0 => cn fsz ffu fsu fbb fmo 0
  | d + 1 => tot fsz ffu fsu fbb fmo d + cn fsz ffu fsu fbb fmo (d + 1)
noncomputable def need (fsz ffu fsu fbb fmo : Int → Int) (d : Nat) : Int := tot fsz ffu fsu fbb fmo d + min 400 (cn fsz ffu fsu fbb fmo d * fsz (d : Int))
def gN (cap : Nat) (w : Int) : Nat := if w ≤ (cap : Int) then cap else (max w (min (2 * (cap : Int)) 4801)).toNat
def gS (cap : Nat) (w : Int) : Nat := if w ≤ (cap : Int) then 0 else 11 * gN cap w
theorem gN_kN {cap : Nat} {w : Int} (h : 0 ≤ w) : (w ≤ (cap : Int) ∧ gN cap w = cap) ∨ ((cap : Int) < w ∧ (gN cap w : Int) = max w (min (2 * (cap : Int)) 4801)) := by
  unfold gN
  by_cases q : w ≤ (cap : Int)
  · rw [if_pos q]; exact Or.inl ⟨q, rfl⟩
  · rw [if_neg q]; exact Or.inr ⟨by omega, by omega⟩
theorem gS_kq {cap : Nat} {w : Int} : w ≤ (cap : Int) ∨ 11 * gN cap w ≤ gS cap w := by
  unfold gS
  by_cases q : w ≤ (cap : Int)
  · exact Or.inl q
  · rw [if_neg q]; exact Or.inr (Nat.le_refl _)
/-- capacity and slots of k more layers from layer d on -/
noncomputable def layC (fsz ffu fsu fbb fmo : Int → Int) : Nat → Nat → Nat → Nat
  | 0, _, c => c
  | k + 1, d, c => if cn fsz ffu fsu fbb fmo (d + 1) ≤ 400 then layC fsz ffu fsu fbb fmo k (d + 1) (gN c (need fsz ffu fsu fbb fmo d)) else gN c (need fsz ffu fsu fbb fmo d)
noncomputable def layS (fsz ffu fsu fbb fmo : Int → Int) : Nat → Nat → Nat → Nat
  | 0, _, _ => 0
  | k + 1, d, c => gS c (need fsz ffu fsu fbb fmo d) + (if cn fsz ffu fsu fbb fmo (d + 1) ≤ 400 then layS fsz ffu fsu fbb fmo k (d + 1) (gN c (need fsz ffu fsu fbb fmo d)) else 0)
def LYS (fsz fco ffu fsu fbb fmo : Int → Int) (d : Nat) (ST GK GW GC GB : Int → Int) : Prop :=
  (∀ i : Nat, i ≤ d → (0 ≤ ST (i : Int) ∧ ST (i : Int) ≤ ST ((i : Int) + 1) ∧ ST ((i : Int) + 1) ≤ 1 + 400 * (i : Int) ∧ ST ((i : Int) + 1) = tot fsz ffu fsu fbb fmo i) ∧ LO fsz fco ffu fsu fbb fmo i (ST (i : Int)) (ST ((i : Int) + 1)) GK GW GC ∧ cn fsz ffu fsu fbb fmo i ≤ 400) ∧
  (∀ i : Nat, i < d → LK fsz ffu fsu fbb fmo GK i (ST (i : Int)) (ST ((i : Int) + 1)) (ST ((i : Int) + 2)) GB GK) ∧ ST 0 = 0
theorem ls_0 {fsz fco ffu fsu fbb fmo ST GK GW GC GB : Int → Int} (h0 : ST 0 = 0) (h1 : ST 1 = 1) (hk : GK 0 = 0) (hw : GW 0 = 1) (hc : GC 0 = 0) : LYS fsz fco ffu fsu fbb fmo 0 ST GK GW GC GB := by
  have hL : LO fsz fco ffu fsu fbb fmo 0 0 1 GK GW GC := by
    refine ⟨fun i i1 i2 => ?_, fun i j i1 i2 i3 => by omega, fun k q => ?_⟩
    · have : i = 0 := by omega
      subst this
      rw [hk, hw, hc]
      refine ⟨by unfold vk; omega, ?_, by omega, ?_⟩
      · unfold wt; rfl
      · unfold ct; rfl
    · unfold wt at q
      by_cases r : k = 0
      · subst r; exact ⟨0, by omega, by omega, hk⟩
      · rw [if_neg r] at q; omega
  have hcn := lo_cn (by omega) hL
  refine ⟨fun i hi => ?_, fun i hi => by omega, h0⟩
  have : i = 0 := by omega
  subst this
  show (0 ≤ ST 0 ∧ ST 0 ≤ ST (0 + 1) ∧ ST (0 + 1) ≤ 1 + 400 * 0 ∧ ST (0 + 1) = cn fsz ffu fsu fbb fmo 0) ∧ LO fsz fco ffu fsu fbb fmo 0 (ST 0) (ST (0 + 1)) GK GW GC ∧ cn fsz ffu fsu fbb fmo 0 ≤ 400
  rw [show (0 : Int) + 1 = 1 from rfl, h0, h1]
  exact ⟨⟨by omega, by omega, by omega, by omega⟩, hL, by omega⟩
theorem ls_step {fsz fco ffu fsu fbb fmo ST GK GW GC GB GK2 GW2 GC2 GB2 : Int → Int} {d : Nat} {T : Int} (hT : TB fsz fco ffu fsu fbb fmo) (hd : d < 12) (h : LYS fsz fco ffu fsu fbb fmo d ST GK GW GC GB) (hc : cn fsz ffu fsu fbb fmo (d + 1) ≤ 400)
    (q1 : ST ((d : Int) + 1) ≤ T ∧ T ≤ ST ((d : Int) + 1) + 400) (q2 : LO fsz fco ffu fsu fbb fmo (d + 1) (ST ((d : Int) + 1)) T GK2 GW2 GC2) (q3 : LK fsz ffu fsu fbb fmo GK d (ST (d : Int)) (ST ((d : Int) + 1)) T GB2 GK2)
    (q4 : ∀ i, 0 ≤ i → i < ST ((d : Int) + 1) → GK2 i = GK i ∧ GC2 i = GC i ∧ GW2 i = GW i) (q5 : ∀ j, 0 ≤ j → j < ST (d : Int) * 6 → GB2 j = GB j) : LYS fsz fco ffu fsu fbb fmo (d + 1) (uZ ST ((d : Int) + 2) T) GK2 GW2 GC2 GB2 := by
  obtain ⟨h1, h2, h0⟩ := h
  have hlow : ∀ i : Nat, i ≤ d + 1 → uZ ST ((d : Int) + 2) T (i : Int) = ST (i : Int) := fun i hi => uZ_n (by omega)
  have hlow1 : ∀ i : Nat, i ≤ d → uZ ST ((d : Int) + 2) T ((i : Int) + 1) = ST ((i : Int) + 1) := fun i hi => uZ_n (by omega)
  have hmon : ∀ k i : Nat, i + k ≤ d → ST ((i : Int) + 1) ≤ ST (((i + k : Nat) : Int) + 1) := by
    intro k
    induction k with
    | zero => intro i _; exact Int.le_refl _
    | succ k ih =>
      intro i hi
      have a := ih i (by omega)
      have b := (h1 (i + (k + 1)) hi).1.2.1
      rw [show (((i + (k + 1) : Nat) : Int)) = ((i + k : Nat) : Int) + 1 by omega] at b ⊢
      omega
  have hup : ∀ i : Nat, i ≤ d → ST ((i : Int) + 1) ≤ ST ((d : Int) + 1) := fun i hi => by
    have := hmon (d - i) i (by omega)
    rw [show i + (d - i) = d by omega] at this
    exact this
  have hup0 : ∀ i : Nat, i < d → ST ((i : Int) + 1) ≤ ST (d : Int) := fun i hi => by
    have := hmon (d - 1 - i) i (by omega)
    rw [show ((i + (d - 1 - i) : Nat) : Int) + 1 = (d : Int) by omega] at this
    exact this
  have hcd := lo_cn q1.1 q2
  refine ⟨fun i hi => ?_, fun i hi => ?_, by rw [uZ_n (by omega)]; exact h0⟩
  · by_cases r : i = d + 1
    · subst r
      have e1 : uZ ST ((d : Int) + 2) T (((d + 1 : Nat) : Int)) = ST ((d : Int) + 1) := by rw [uZ_n (by omega)]; congr 1
      have e2 : uZ ST ((d : Int) + 2) T (((d + 1 : Nat) : Int) + 1) = T := by rw [show (((d + 1 : Nat) : Int) + 1) = (d : Int) + 2 by omega, uZ_s]
      rw [e1, e2]
      have hd1 := (h1 d (Nat.le_refl d)).1
      refine ⟨⟨by omega, q1.1, by omega, ?_⟩, q2, hc⟩
      show T = tot fsz ffu fsu fbb fmo d + cn fsz ffu fsu fbb fmo (d + 1)
      omega
    · obtain ⟨a, b, c⟩ := h1 i (by omega)
      rw [hlow i (by omega), hlow1 i (by omega)]
      have u := hup i (by omega)
      exact ⟨a, lo_congr b (fun j j1 j2 => (q4 j (by omega) (by omega)).1) (fun j j1 j2 => (q4 j (by omega) (by omega)).2.2) (fun j j1 j2 => (q4 j (by omega) (by omega)).2.1), c⟩
  · have hsz := hT.1 (i : Int) (by omega) (by omega)
    rw [hlow i (by omega), hlow1 i (by omega)]
    have a := (h1 i (by omega)).1
    have u := hup i (by omega)
    by_cases r : i = d
    · subst r
      rw [uZ_s]
      exact lk_congr q3 hsz.2 (fun j j1 j2 => (q4 j (by omega) (by omega)).1) (fun _ _ _ => rfl) (fun _ _ _ => rfl)
    · rw [uZ_n (by omega)]
      have e3 : ST ((i : Int) + 2) ≤ ST ((d : Int) + 1) := by
        have := hup (i + 1) (by omega)
        rw [show ((i + 1 : Nat) : Int) + 1 = (i : Int) + 2 by omega] at this
        exact this
      have e4 := hup0 i (by omega)
      exact lk_congr (h2 i (by omega)) hsz.2 (fun j j1 j2 => (q4 j (by omega) (by omega)).1) (fun j j1 j2 => q5 j (by omega) (by omega)) (fun m m1 m2 => (q4 m (by omega) (by omega)).1)
theorem ls_need {fsz fco ffu fsu fbb fmo ST GK GW GC GB : Int → Int} {d : Nat} (h : LYS fsz fco ffu fsu fbb fmo d ST GK GW GC GB) : ST ((d : Int) + 1) + min 400 ((ST ((d : Int) + 1) - ST (d : Int)) * fsz (d : Int)) = need fsz ffu fsu fbb fmo d := by
  obtain ⟨a, b, c⟩ := h.1 d (Nat.le_refl d)
  unfold need
  rw [← lo_cn a.2.1 b, ← a.2.2.2]
theorem layC_s {fsz ffu fsu fbb fmo : Int → Int} {k d c : Nat} : layC fsz ffu fsu fbb fmo (k + 1) d c = if cn fsz ffu fsu fbb fmo (d + 1) ≤ 400 then layC fsz ffu fsu fbb fmo k (d + 1) (gN c (need fsz ffu fsu fbb fmo d)) else gN c (need fsz ffu fsu fbb fmo d) := rfl
theorem layS_s {fsz ffu fsu fbb fmo : Int → Int} {k d c : Nat} : layS fsz ffu fsu fbb fmo (k + 1) d c = gS c (need fsz ffu fsu fbb fmo d) + (if cn fsz ffu fsu fbb fmo (d + 1) ≤ 400 then layS fsz ffu fsu fbb fmo k (d + 1) (gN c (need fsz ffu fsu fbb fmo d)) else 0) := rfl
theorem ls_nb {fsz fco ffu fsu fbb fmo ST GK GW GC GB : Int → Int} {d : Nat} (hT : TB fsz fco ffu fsu fbb fmo) (hd : d < 12) (h : LYS fsz fco ffu fsu fbb fmo d ST GK GW GC GB) : 0 ≤ need fsz ffu fsu fbb fmo d ∧ need fsz ffu fsu fbb fmo d ≤ 4801 := by
  obtain ⟨a, b, c⟩ := h.1 d (Nat.le_refl d)
  have hsz := hT.1 (d : Int) (by omega) (by omega)
  rw [← ls_need h]
  have : 0 ≤ (ST ((d : Int) + 1) - ST (d : Int)) * fsz (d : Int) := Int.mul_nonneg (by omega) (by omega)
  omega
theorem gN_b {c : Nat} {w : Int} (h1 : 0 ≤ w) (h2 : w ≤ 4801) (hc : 1 ≤ c ∧ c ≤ 4801) : 1 ≤ gN c w ∧ gN c w ≤ 4801 := by
  rcases gN_kN (cap := c) h1 with ⟨-, q⟩ | ⟨-, q⟩ <;> omega
end
section
/-! Layers.lay -/
abbrev sty_Y_lay : MethodName := ⟨"StateTables$Layers", "lay", "()Z"⟩
abbrev stc_Y_lay : ByteArray := prog_3_method_7_code
theorem sth_Y_lay : (sty_Y_lay).cls ≠ "java/lang/invoke/MethodHandle" ∧ (sty_Y_lay).cls ≠ "java/lang/invoke/VarHandle" ∧ (parseMethodDescriptor (sty_Y_lay).desc).map (fun d => d.parameters.length) = some 0 := by decide +kernel
theorem std_Y_lay_0 : decode stc_Y_lay 0 = .ok (.aload_n 0, 1) := by decide +kernel
theorem std_Y_lay_1 : decode stc_Y_lay 1 = .ok (.getfield 15, 3) := by decide +kernel
theorem std_Y_lay_4 : decode stc_Y_lay 4 = .ok (.iconst 0, 1) := by decide +kernel
theorem std_Y_lay_5 : decode stc_Y_lay 5 = .ok (.iconst 0, 1) := by decide +kernel
theorem std_Y_lay_6 : decode stc_Y_lay 6 = .ok (.iconst 0, 1) := by decide +kernel
theorem std_Y_lay_7 : decode stc_Y_lay 7 = .ok (.iconst (-1), 1) := by decide +kernel
theorem std_Y_lay_8 : decode stc_Y_lay 8 = .ok (.invokestatic 56, 3) := by decide +kernel
theorem std_Y_lay_11 : decode stc_Y_lay 11 = .ok (.iastore, 1) := by decide +kernel
theorem std_Y_lay_12 : decode stc_Y_lay 12 = .ok (.aload_n 0, 1) := by decide +kernel
theorem std_Y_lay_13 : decode stc_Y_lay 13 = .ok (.getfield 18, 3) := by decide +kernel
theorem std_Y_lay_16 : decode stc_Y_lay 16 = .ok (.iconst 0, 1) := by decide +kernel
theorem std_Y_lay_17 : decode stc_Y_lay 17 = .ok (.iconst 0, 1) := by decide +kernel
theorem std_Y_lay_18 : decode stc_Y_lay 18 = .ok (.iastore, 1) := by decide +kernel
theorem std_Y_lay_19 : decode stc_Y_lay 19 = .ok (.aload_n 0, 1) := by decide +kernel
theorem std_Y_lay_20 : decode stc_Y_lay 20 = .ok (.getfield 24, 3) := by decide +kernel
theorem std_Y_lay_23 : decode stc_Y_lay 23 = .ok (.iconst 0, 1) := by decide +kernel
theorem std_Y_lay_24 : decode stc_Y_lay 24 = .ok (.lconst 1, 1) := by decide +kernel
theorem std_Y_lay_25 : decode stc_Y_lay 25 = .ok (.lastore, 1) := by decide +kernel
theorem std_Y_lay_26 : decode stc_Y_lay 26 = .ok (.aload_n 0, 1) := by decide +kernel
theorem std_Y_lay_27 : decode stc_Y_lay 27 = .ok (.getfield 9, 3) := by decide +kernel
theorem std_Y_lay_30 : decode stc_Y_lay 30 = .ok (.iconst 0, 1) := by decide +kernel
theorem std_Y_lay_31 : decode stc_Y_lay 31 = .ok (.iconst 0, 1) := by decide +kernel
theorem std_Y_lay_32 : decode stc_Y_lay 32 = .ok (.iastore, 1) := by decide +kernel
theorem std_Y_lay_33 : decode stc_Y_lay 33 = .ok (.aload_n 0, 1) := by decide +kernel
theorem std_Y_lay_34 : decode stc_Y_lay 34 = .ok (.getfield 9, 3) := by decide +kernel
theorem std_Y_lay_37 : decode stc_Y_lay 37 = .ok (.iconst 1, 1) := by decide +kernel
theorem std_Y_lay_38 : decode stc_Y_lay 38 = .ok (.iconst 1, 1) := by decide +kernel
theorem std_Y_lay_39 : decode stc_Y_lay 39 = .ok (.iastore, 1) := by decide +kernel
theorem std_Y_lay_40 : decode stc_Y_lay 40 = .ok (.aload_n 0, 1) := by decide +kernel
theorem std_Y_lay_41 : decode stc_Y_lay 41 = .ok (.iconst 1, 1) := by decide +kernel
theorem std_Y_lay_42 : decode stc_Y_lay 42 = .ok (.putfield 60, 3) := by decide +kernel
theorem std_Y_lay_45 : decode stc_Y_lay 45 = .ok (.iconst 0, 1) := by decide +kernel
theorem std_Y_lay_46 : decode stc_Y_lay 46 = .ok (.istore_n 1, 1) := by decide +kernel
theorem std_Y_lay_47 : decode stc_Y_lay 47 = .ok (.iload_n 1, 1) := by decide +kernel
theorem std_Y_lay_48 : decode stc_Y_lay 48 = .ok (.aload_n 0, 1) := by decide +kernel
theorem std_Y_lay_49 : decode stc_Y_lay 49 = .ok (.getfield 37, 3) := by decide +kernel
theorem std_Y_lay_52 : decode stc_Y_lay 52 = .ok (.getfield 41, 3) := by decide +kernel
theorem std_Y_lay_55 : decode stc_Y_lay 55 = .ok (.if_icmp .ge 19, 3) := by decide +kernel
theorem std_Y_lay_74 : decode stc_Y_lay 74 = .ok (.iconst 1, 1) := by decide +kernel
theorem std_Y_lay_75 : decode stc_Y_lay 75 = .ok (.ireturn, 1) := by decide +kernel
theorem std_Y_lay_58 : decode stc_Y_lay 58 = .ok (.aload_n 0, 1) := by decide +kernel
theorem std_Y_lay_59 : decode stc_Y_lay 59 = .ok (.iload_n 1, 1) := by decide +kernel
theorem std_Y_lay_60 : decode stc_Y_lay 60 = .ok (.invokevirtual 63, 3) := by decide +kernel
theorem kw_2_39 : Cond.code sty_Y_layBehind stc_Y_layBehind 4 (some .boolean) ∈ stGW := st_t2 (List.mem_of_getElem? (i := 39) (by decide +kernel)) (by decide +kernel)
theorem kw_2_36 : Cond.methodLink "StateTables$Layers" 63 (sty_Y_layBehind) ∈ stGW := st_t2 (List.mem_of_getElem? (i := 36) (by decide +kernel)) (by decide +kernel)
theorem kw_2_38 : Cond.instanceMethod (sty_Y_layBehind) ∈ stGW := st_t2 (List.mem_of_getElem? (i := 38) (by decide +kernel)) (by decide +kernel)
theorem kw_0_0 : Cond.selects "StateTables$Layers" (sty_Y_layBehind) (sty_Y_layBehind) ∈ stGW := st_t0 (List.mem_of_getElem? (i := 0) (by decide +kernel)) (by decide +kernel)
theorem std_Y_lay_63 : decode stc_Y_lay 63 = .ok (.ifCond .ne 5, 3) := by decide +kernel
theorem std_Y_lay_68 : decode stc_Y_lay 68 = .ok (.iinc 1 1, 3) := by decide +kernel
theorem std_Y_lay_71 : decode stc_Y_lay 71 = .ok (.goto (-24), 3) := by decide +kernel
theorem std_Y_lay_66 : decode stc_Y_lay 66 = .ok (.iconst 0, 1) := by decide +kernel
theorem std_Y_lay_67 : decode stc_Y_lay 67 = .ok (.ireturn, 1) := by decide +kernel
set_option maxHeartbeats 4000000 in
set_option maxRecDepth 100000 in
theorem c_lay (l : Launch) (dC : Nat → ClassId) (dI : Nat → Nat → Nat) (cI cJ cZ : ClassId) (y0 : Nat) (ys : Nat) (yk : Nat) (yc : Nat) (yd : Nat) (yw : Nat) (yx : Nat) (yb : Nat) (yu : Nat) (total : Int) (t0 : Nat) (hs : Nat) (hc : Nat) (hf : Nat) (hg : Nat) (hb : Nat) (he : Nat) (hm : Nat) (steps : Int) (choices : Int) (bars : Int) (cap : Nat) (N : Nat) (q : Nat) (n : Nat) (gst : Int → Int) (gk : Int → Int) (gct : Int → Int) (gcf : Int → Int) (gwt : Int → Int) (gwf : Int → Int) (gbe : Int → Int) (gcu : Int → Int) (fsz : Int → Int) (fco : Int → Int) (ffu : Int → Int) (fsu : Int → Int) (fbb : Int → Int) (fmo : Int → Int) (kcap : cap ≤ 4801) (kgst : ∀ j, 0 ≤ j → j < 14 → 0 ≤ gst j ∧ gst j ≤ cap) (kn : steps = (n : Int) ∧ n ≤ 12) (kT : TB fsz fco ffu fsu fbb fmo) (kc0 : 1 ≤ cap) (kN : N = layC fsz ffu fsu fbb fmo n 0 cap) (kq : q = layS fsz ffu fsu fbb fmo n 0 cap) : ∀ sz, Met l sty_Y_lay (Cond.code sty_Y_lay stc_Y_lay 2 (some .boolean) :: stGW) ({ frames := 4, cells := 72, slots := q, locals := 107 } : Room) (va_Pc [.ref y0] (zPre (dC, dI) stCl [(cI, .int), (cJ, .long), (cZ, .boolean)] st_nw [(y0, .inr (2, [.ref t0, .int (iI total), .ref ys, .ref yk, .ref yc, .ref yd, .ref yw, .ref yx, .ref yb, .ref yu])), (ys, .inl (cI, aI 14 gst)), (yk, .inl (cI, aI cap gk)), (yc, .inl (cI, aI cap gct)), (yd, .inl (cI, aI cap gcf)), (yw, .inl (cJ, aL cap gwt)), (yx, .inl (cJ, aL cap gwf)), (yb, .inl (cI, aI (6 * cap) gbe)), (yu, .inl (cI, aI 6 gcu)), (t0, .inr (1, [.int (iI steps), .int (iI choices), .int (iI bars), .ref hs, .ref hc, .ref hf, .ref hg, .ref hb, .ref he, .ref hm])), (hs, .inl (cI, aI 12 fsz)), (hc, .inl (cI, aI 72 fco)), (hf, .inl (cI, aI 72 ffu)), (hg, .inl (cI, aI 72 fsu)), (hb, .inl (cI, aI 72 fbb)), (hm, .inl (cI, aI 2 fmo))] sz)) (va_Qi (fun (r : Int32) (u : Nat × Nat × Nat × Nat × Nat × Nat × (Int → Int) × (Int → Int) × (Int → Int) × (Int → Int) × (Int → Int) × (Int → Int) × (Int → Int) × (Int → Int) × Int) => r = iI (bI (∀ i : Nat, i ≤ n → cn fsz ffu fsu fbb fmo i ≤ 400)) ∧ (∀ j, 0 ≤ j → j < 14 → 0 ≤ u.2.2.2.2.2.2.1 j ∧ u.2.2.2.2.2.2.1 j ≤ (N : Int)) ∧ ((∀ i : Nat, i ≤ n → cn fsz ffu fsu fbb fmo i ≤ 400) → LYS fsz fco ffu fsu fbb fmo n u.2.2.2.2.2.2.1 u.2.2.2.2.2.2.2.1 u.2.2.2.2.2.2.2.2.2.2.1 u.2.2.2.2.2.2.2.2.1 u.2.2.2.2.2.2.2.2.2.2.2.2.1 ∧ u.2.2.2.2.2.2.2.2.2.2.2.2.2.2 = u.2.2.2.2.2.2.1 ((n : Int) + 1))) (zPost (dC, dI) stCl [(cI, .int), (cJ, .long), (cZ, .boolean)] [(y0, .inr (2, [.ref t0, .int (iI total), .ref ys, .ref yk, .ref yc, .ref yd, .ref yw, .ref yx, .ref yb, .ref yu])), (ys, .inl (cI, aI 14 gst)), (yk, .inl (cI, aI cap gk)), (yc, .inl (cI, aI cap gct)), (yd, .inl (cI, aI cap gcf)), (yw, .inl (cJ, aL cap gwt)), (yx, .inl (cJ, aL cap gwf)), (yb, .inl (cI, aI (6 * cap) gbe)), (yu, .inl (cI, aI 6 gcu)), (t0, .inr (1, [.int (iI steps), .int (iI choices), .int (iI bars), .ref hs, .ref hc, .ref hf, .ref hg, .ref hb, .ref he, .ref hm])), (hs, .inl (cI, aI 12 fsz)), (hc, .inl (cI, aI 72 fco)), (hf, .inl (cI, aI 72 ffu)), (hg, .inl (cI, aI 72 fsu)), (hb, .inl (cI, aI 72 fbb)), (hm, .inl (cI, aI 2 fmo))] sz (fun u : Nat × Nat × Nat × Nat × Nat × Nat × (Int → Int) × (Int → Int) × (Int → Int) × (Int → Int) × (Int → Int) × (Int → Int) × (Int → Int) × (Int → Int) × Int => [(y0, .inr (2, [.ref t0, .int (iI (u.2.2.2.2.2.2.2.2.2.2.2.2.2.2)), .ref ys, .ref u.1, .ref u.2.1, .ref u.2.2.1, .ref u.2.2.2.1, .ref u.2.2.2.2.1, .ref u.2.2.2.2.2.1, .ref yu])), (ys, .inl (cI, aI 14 (u.2.2.2.2.2.2.1))), (u.1, .inl (cI, aI N (u.2.2.2.2.2.2.2.1))), (u.2.1, .inl (cI, aI N (u.2.2.2.2.2.2.2.2.1))), (u.2.2.1, .inl (cI, aI N (u.2.2.2.2.2.2.2.2.2.1))), (u.2.2.2.1, .inl (cJ, aL N (u.2.2.2.2.2.2.2.2.2.2.1))), (u.2.2.2.2.1, .inl (cJ, aL N (u.2.2.2.2.2.2.2.2.2.2.2.1))), (u.2.2.2.2.2.1, .inl (cI, aI (6 * N) (u.2.2.2.2.2.2.2.2.2.2.2.2.1))), (yu, .inl (cI, aI 6 (u.2.2.2.2.2.2.2.2.2.2.2.2.2.1))), (t0, .inr (1, [.int (iI steps), .int (iI choices), .int (iI bars), .ref hs, .ref hc, .ref hf, .ref hg, .ref hb, .ref he, .ref hm])), (hs, .inl (cI, aI 12 fsz)), (hc, .inl (cI, aI 72 fco)), (hf, .inl (cI, aI 72 ffu)), (hg, .inl (cI, aI 72 fsu)), (hb, .inl (cI, aI 72 fbb)), (hm, .inl (cI, aI 2 fmo))])) (va_A [(y0, .inr (2, [.ref t0, .int (iI total), .ref ys, .ref yk, .ref yc, .ref yd, .ref yw, .ref yx, .ref yb, .ref yu])), (ys, .inl (cI, aI 14 gst)), (yk, .inl (cI, aI cap gk)), (yc, .inl (cI, aI cap gct)), (yd, .inl (cI, aI cap gcf)), (yw, .inl (cJ, aL cap gwt)), (yx, .inl (cJ, aL cap gwf)), (yb, .inl (cI, aI (6 * cap) gbe)), (yu, .inl (cI, aI 6 gcu)), (t0, .inr (1, [.int (iI steps), .int (iI choices), .int (iI bars), .ref hs, .ref hc, .ref hf, .ref hg, .ref hb, .ref he, .ref hm])), (hs, .inl (cI, aI 12 fsz)), (hc, .inl (cI, aI 72 fco)), (hf, .inl (cI, aI 72 ffu)), (hg, .inl (cI, aI 72 fsu)), (hb, .inl (cI, aI 72 fbb)), (hm, .inl (cI, aI 2 fmo))] sz)) 72 q (va_A [(y0, .inr (2, [.ref t0, .int (iI total), .ref ys, .ref yk, .ref yc, .ref yd, .ref yw, .ref yx, .ref yb, .ref yu])), (ys, .inl (cI, aI 14 gst)), (yk, .inl (cI, aI cap gk)), (yc, .inl (cI, aI cap gct)), (yd, .inl (cI, aI cap gcf)), (yw, .inl (cJ, aL cap gwt)), (yx, .inl (cJ, aL cap gwf)), (yb, .inl (cI, aI (6 * cap) gbe)), (yu, .inl (cI, aI 6 gcu)), (t0, .inr (1, [.int (iI steps), .int (iI choices), .int (iI bars), .ref hs, .ref hc, .ref hf, .ref hg, .ref hb, .ref he, .ref hm])), (hs, .inl (cI, aI 12 fsz)), (hc, .inl (cI, aI 72 fco)), (hf, .inl (cI, aI 72 ffu)), (hg, .inl (cI, aI 72 fsu)), (hb, .inl (cI, aI 72 fbb)), (hm, .inl (cI, aI 2 fmo))] sz) := by
  refine met_z (by decide) rfl (Nat.le_of_ble_eq_true rfl) ?_
  intro p e s m below meth c A Q C hmn hret
  refine g_aload_n C 0 std_Y_lay_0 rfl ?_
  refine g_get C (st_sub sti_Y) 0 rfl rfl 3 (by decide) (List.mem_cons_of_mem _ kw_1_88) rfl rfl std_Y_lay_1 ?_
  refine g_iconst C std_Y_lay_4 ?_
  refine g_iconst C std_Y_lay_5 ?_
  refine g_iconst C std_Y_lay_6 ?_
  refine g_iconst C std_Y_lay_7 ?_
  refine g_SN_i (wc := []) (wr := [(y0, .inr (2, [.ref t0, .int (iI total), .ref ys, .ref yk, .ref yc, .ref yd, .ref yw, .ref yx, .ref yb, .ref yu])), (ys, .inl (cI, aI 14 gst)), (yk, .inl (cI, aI cap gk)), (yc, .inl (cI, aI cap gct)), (yd, .inl (cI, aI cap gcf)), (yw, .inl (cJ, aL cap gwt)), (yx, .inl (cJ, aL cap gwf)), (yb, .inl (cI, aI (6 * cap) gbe)), (yu, .inl (cI, aI 6 gcu)), (t0, .inr (1, [.int (iI steps), .int (iI choices), .int (iI bars), .ref hs, .ref hc, .ref hf, .ref hg, .ref hb, .ref he, .ref hm])), (hs, .inl (cI, aI 12 fsz)), (hc, .inl (cI, aI 72 fco)), (hf, .inl (cI, aI 72 ffu)), (hg, .inl (cI, aI 72 fsu)), (hb, .inl (cI, aI 72 fbb)), (hm, .inl (cI, aI 2 fmo))]) (rest := [.int (iI 0), .ref yk]) C (c_keyOf l dC dI cI cJ cZ 0 0 (-1) (by omega) (by omega) (by omega)) (st_cSN C kw_2_35 (List.mem_of_getElem? (i := 2) rfl) kw_1_1 kw_2_34 sth_S_keyOf ⟨Nat.le_of_ble_eq_true rfl, Nat.le_of_ble_eq_true rfl⟩) rfl rfl (Nat.le_of_ble_eq_true rfl) std_Y_lay_8 ⟨by show _ ≤ 72; omega, by show _ ≤ q; omega⟩ [] [0, 1, 2, 3, 4, 5, 6, 7, 8, 9, 10, 11, 12, 13, 14, 15] rfl rfl rfl rfl (by decide) (fun r1 u2 h3 => ?_)
  subst h3
  refine g_ws (ws' := [(y0, .inr (2, [.ref t0, .int (iI total), .ref ys, .ref yk, .ref yc, .ref yd, .ref yw, .ref yx, .ref yb, .ref yu])), (ys, .inl (cI, aI 14 gst)), (yk, .inl (cI, aI cap gk)), (yc, .inl (cI, aI cap gct)), (yd, .inl (cI, aI cap gcf)), (yw, .inl (cJ, aL cap gwt)), (yx, .inl (cJ, aL cap gwf)), (yb, .inl (cI, aI (6 * cap) gbe)), (yu, .inl (cI, aI 6 gcu)), (t0, .inr (1, [.int (iI steps), .int (iI choices), .int (iI bars), .ref hs, .ref hc, .ref hf, .ref hg, .ref hb, .ref he, .ref hm])), (hs, .inl (cI, aI 12 fsz)), (hc, .inl (cI, aI 72 fco)), (hf, .inl (cI, aI 72 ffu)), (hg, .inl (cI, aI 72 fsu)), (hb, .inl (cI, aI 72 fbb)), (hm, .inl (cI, aI 2 fmo))]) rfl ?_
  refine g_iast C (ws' := [(y0, .inr (2, [.ref t0, .int (iI total), .ref ys, .ref yk, .ref yc, .ref yd, .ref yw, .ref yx, .ref yb, .ref yu])), (ys, .inl (cI, aI 14 gst)), (yk, .inl (cI, aI cap (uZ gk 0 (((0 * 512) + (0 * 8)) + ((-1) + 1))))), (yc, .inl (cI, aI cap gct)), (yd, .inl (cI, aI cap gcf)), (yw, .inl (cJ, aL cap gwt)), (yx, .inl (cJ, aL cap gwf)), (yb, .inl (cI, aI (6 * cap) gbe)), (yu, .inl (cI, aI 6 gcu)), (t0, .inr (1, [.int (iI steps), .int (iI choices), .int (iI bars), .ref hs, .ref hc, .ref hf, .ref hg, .ref hb, .ref he, .ref hm])), (hs, .inl (cI, aI 12 fsz)), (hc, .inl (cI, aI 72 fco)), (hf, .inl (cI, aI 72 ffu)), (hg, .inl (cI, aI 72 fsu)), (hb, .inl (cI, aI 72 fbb)), (hm, .inl (cI, aI 2 fmo))]) 2 0 rfl rfl (by omega) (by omega) (by omega) std_Y_lay_11 rfl ?_
  refine g_aload_n C 0 std_Y_lay_12 rfl ?_
  refine g_get C (st_sub sti_Y) 0 rfl rfl 4 (by decide) (List.mem_cons_of_mem _ kw_1_90) rfl rfl std_Y_lay_13 ?_
  refine g_iconst C std_Y_lay_16 ?_
  refine g_iconst C std_Y_lay_17 ?_
  refine g_iast C (ws' := [(y0, .inr (2, [.ref t0, .int (iI total), .ref ys, .ref yk, .ref yc, .ref yd, .ref yw, .ref yx, .ref yb, .ref yu])), (ys, .inl (cI, aI 14 gst)), (yk, .inl (cI, aI cap (uZ gk 0 (((0 * 512) + (0 * 8)) + ((-1) + 1))))), (yc, .inl (cI, aI cap (uZ gct 0 0))), (yd, .inl (cI, aI cap gcf)), (yw, .inl (cJ, aL cap gwt)), (yx, .inl (cJ, aL cap gwf)), (yb, .inl (cI, aI (6 * cap) gbe)), (yu, .inl (cI, aI 6 gcu)), (t0, .inr (1, [.int (iI steps), .int (iI choices), .int (iI bars), .ref hs, .ref hc, .ref hf, .ref hg, .ref hb, .ref he, .ref hm])), (hs, .inl (cI, aI 12 fsz)), (hc, .inl (cI, aI 72 fco)), (hf, .inl (cI, aI 72 ffu)), (hg, .inl (cI, aI 72 fsu)), (hb, .inl (cI, aI 72 fbb)), (hm, .inl (cI, aI 2 fmo))]) 3 0 rfl rfl (by omega) (by omega) (by omega) std_Y_lay_18 rfl ?_
  refine g_aload_n C 0 std_Y_lay_19 rfl ?_
  refine g_get C (st_sub sti_Y) 0 rfl rfl 6 (by decide) (List.mem_cons_of_mem _ kw_1_94) rfl rfl std_Y_lay_20 ?_
  refine g_iconst C std_Y_lay_23 ?_
  refine g_lconst C (z := 1) std_Y_lay_24 (by decide) ?_
  refine g_last C (ws' := [(y0, .inr (2, [.ref t0, .int (iI total), .ref ys, .ref yk, .ref yc, .ref yd, .ref yw, .ref yx, .ref yb, .ref yu])), (ys, .inl (cI, aI 14 gst)), (yk, .inl (cI, aI cap (uZ gk 0 (((0 * 512) + (0 * 8)) + ((-1) + 1))))), (yc, .inl (cI, aI cap (uZ gct 0 0))), (yd, .inl (cI, aI cap gcf)), (yw, .inl (cJ, aL cap (uZ gwt 0 1))), (yx, .inl (cJ, aL cap gwf)), (yb, .inl (cI, aI (6 * cap) gbe)), (yu, .inl (cI, aI 6 gcu)), (t0, .inr (1, [.int (iI steps), .int (iI choices), .int (iI bars), .ref hs, .ref hc, .ref hf, .ref hg, .ref hb, .ref he, .ref hm])), (hs, .inl (cI, aI 12 fsz)), (hc, .inl (cI, aI 72 fco)), (hf, .inl (cI, aI 72 ffu)), (hg, .inl (cI, aI 72 fsu)), (hb, .inl (cI, aI 72 fbb)), (hm, .inl (cI, aI 2 fmo))]) 5 1 rfl rfl (by omega) (by omega) (by omega) std_Y_lay_25 rfl ?_
  refine g_aload_n C 0 std_Y_lay_26 rfl ?_
  refine g_get C (st_sub sti_Y) 0 rfl rfl 2 (by decide) (List.mem_cons_of_mem _ kw_1_86) rfl rfl std_Y_lay_27 ?_
  refine g_iconst C std_Y_lay_30 ?_
  refine g_iconst C std_Y_lay_31 ?_
  refine g_iast C (ws' := [(y0, .inr (2, [.ref t0, .int (iI total), .ref ys, .ref yk, .ref yc, .ref yd, .ref yw, .ref yx, .ref yb, .ref yu])), (ys, .inl (cI, aI 14 (uZ gst 0 0))), (yk, .inl (cI, aI cap (uZ gk 0 (((0 * 512) + (0 * 8)) + ((-1) + 1))))), (yc, .inl (cI, aI cap (uZ gct 0 0))), (yd, .inl (cI, aI cap gcf)), (yw, .inl (cJ, aL cap (uZ gwt 0 1))), (yx, .inl (cJ, aL cap gwf)), (yb, .inl (cI, aI (6 * cap) gbe)), (yu, .inl (cI, aI 6 gcu)), (t0, .inr (1, [.int (iI steps), .int (iI choices), .int (iI bars), .ref hs, .ref hc, .ref hf, .ref hg, .ref hb, .ref he, .ref hm])), (hs, .inl (cI, aI 12 fsz)), (hc, .inl (cI, aI 72 fco)), (hf, .inl (cI, aI 72 ffu)), (hg, .inl (cI, aI 72 fsu)), (hb, .inl (cI, aI 72 fbb)), (hm, .inl (cI, aI 2 fmo))]) 1 0 rfl rfl (by omega) (by omega) (by omega) std_Y_lay_32 rfl ?_
  refine g_aload_n C 0 std_Y_lay_33 rfl ?_
  refine g_get C (st_sub sti_Y) 0 rfl rfl 2 (by decide) (List.mem_cons_of_mem _ kw_1_86) rfl rfl std_Y_lay_34 ?_
  refine g_iconst C std_Y_lay_37 ?_
  refine g_iconst C std_Y_lay_38 ?_
  refine g_iast C (ws' := [(y0, .inr (2, [.ref t0, .int (iI total), .ref ys, .ref yk, .ref yc, .ref yd, .ref yw, .ref yx, .ref yb, .ref yu])), (ys, .inl (cI, aI 14 (uZ (uZ gst 0 0) 1 1))), (yk, .inl (cI, aI cap (uZ gk 0 (((0 * 512) + (0 * 8)) + ((-1) + 1))))), (yc, .inl (cI, aI cap (uZ gct 0 0))), (yd, .inl (cI, aI cap gcf)), (yw, .inl (cJ, aL cap (uZ gwt 0 1))), (yx, .inl (cJ, aL cap gwf)), (yb, .inl (cI, aI (6 * cap) gbe)), (yu, .inl (cI, aI 6 gcu)), (t0, .inr (1, [.int (iI steps), .int (iI choices), .int (iI bars), .ref hs, .ref hc, .ref hf, .ref hg, .ref hb, .ref he, .ref hm])), (hs, .inl (cI, aI 12 fsz)), (hc, .inl (cI, aI 72 fco)), (hf, .inl (cI, aI 72 ffu)), (hg, .inl (cI, aI 72 fsu)), (hb, .inl (cI, aI 72 fbb)), (hm, .inl (cI, aI 2 fmo))]) 1 0 rfl rfl (by omega) (by omega) (by omega) std_Y_lay_39 rfl ?_
  refine g_aload_n C 0 std_Y_lay_40 rfl ?_
  refine g_iconst C std_Y_lay_41 ?_
  refine g_put C (ws' := [(y0, .inr (2, [.ref t0, .int (iI 1), .ref ys, .ref yk, .ref yc, .ref yd, .ref yw, .ref yx, .ref yb, .ref yu])), (ys, .inl (cI, aI 14 (uZ (uZ gst 0 0) 1 1))), (yk, .inl (cI, aI cap (uZ gk 0 (((0 * 512) + (0 * 8)) + ((-1) + 1))))), (yc, .inl (cI, aI cap (uZ gct 0 0))), (yd, .inl (cI, aI cap gcf)), (yw, .inl (cJ, aL cap (uZ gwt 0 1))), (yx, .inl (cJ, aL cap gwf)), (yb, .inl (cI, aI (6 * cap) gbe)), (yu, .inl (cI, aI 6 gcu)), (t0, .inr (1, [.int (iI steps), .int (iI choices), .int (iI bars), .ref hs, .ref hc, .ref hf, .ref hg, .ref hb, .ref he, .ref hm])), (hs, .inl (cI, aI 12 fsz)), (hc, .inl (cI, aI 72 fco)), (hf, .inl (cI, aI 72 ffu)), (hg, .inl (cI, aI 72 fsu)), (hb, .inl (cI, aI 72 fbb)), (hm, .inl (cI, aI 2 fmo))]) (st_sub sti_Y) stt_Y sto_Y stn_Y 0 rfl rfl 1 (by decide) (List.mem_cons_of_mem _ kw_1_85) rfl rfl rfl rfl (Nat.le_of_ble_eq_true rfl) std_Y_lay_42 rfl ?_
  refine g_iconst C std_Y_lay_45 ?_
  refine g_istore_n C (lv' := [(1, .int (iI 0)), (0, .ref y0)]) std_Y_lay_46 (by decide) rfl ?_
  have L47 : ∀ (nn47 : Nat) (d : Nat) (cp : Nat) (sl : Nat) (k1 : Nat) (k2 : Nat) (k3 : Nat) (k4 : Nat) (k5 : Nat) (k6 : Nat) (T : Int) (ST : Int → Int) (GK : Int → Int) (GC : Int → Int) (GD : Int → Int) (GW : Int → Int) (GX : Int → Int) (GB : Int → Int) (CU : Int → Int), d ≤ n → (1 ≤ cp ∧ cp ≤ 4801) → (∀ j, 0 ≤ j → j < 14 → 0 ≤ ST j ∧ ST j ≤ (cp : Int)) → LYS fsz fco ffu fsu fbb fmo d ST GK GW GC GB → T = ST (((d : Nat) : Int) + 1) → layC fsz ffu fsu fbb fmo (n - d) d cp = N → sl + layS fsz ffu fsu fbb fmo (n - d) d cp ≤ q → ((n : Int) - (d : Int)) < (nn47 : Int) → G p l e ({ frames := 4, cells := 72, slots := q, locals := 107 } : Room) s m ([.ref y0] : List Value).toArray below meth c (dC, dI) stCl 2 A (6 * d) sl Q [(y0, .inr (2, [.ref t0, .int (iI T), .ref ys, .ref k1, .ref k2, .ref k3, .ref k4, .ref k5, .ref k6, .ref yu])), (ys, .inl (cI, aI 14 ST)), (k1, .inl (cI, aI cp GK)), (k2, .inl (cI, aI cp GC)), (k3, .inl (cI, aI cp GD)), (k4, .inl (cJ, aL cp GW)), (k5, .inl (cJ, aL cp GX)), (k6, .inl (cI, aI (6 * cp) GB)), (yu, .inl (cI, aI 6 CU)), (t0, .inr (1, [.int (iI steps), .int (iI choices), .int (iI bars), .ref hs, .ref hc, .ref hf, .ref hg, .ref hb, .ref he, .ref hm])), (hs, .inl (cI, aI 12 fsz)), (hc, .inl (cI, aI 72 fco)), (hf, .inl (cI, aI 72 ffu)), (hg, .inl (cI, aI 72 fsu)), (hb, .inl (cI, aI 72 fbb)), (hm, .inl (cI, aI 2 fmo))] 47 [(1, .int (iI ((d : Nat) : Int))), (0, .ref y0)] [] := by
    intro nn47
    induction nn47 with
    | zero =>
      intro d cp sl k1 k2 k3 k4 k5 k6 T ST GK GC GD GW GX GB CU kd kc kst kLS kT1 kN1 kq1 hnn47
      exact absurd hnn47 (by omega)
    | succ nn47 ih47 =>
      intro d cp sl k1 k2 k3 k4 k5 k6 T ST GK GC GD GW GX GB CU kd kc kst kLS kT1 kN1 kq1 hnn47
      refine g_iload_n C 0 std_Y_lay_47 rfl ?_
      refine g_aload_n C 1 std_Y_lay_48 rfl ?_
      refine g_get C (st_sub sti_Y) 0 rfl rfl 0 (by decide) (List.mem_cons_of_mem _ kw_1_83) rfl rfl std_Y_lay_49 ?_
      refine g_get C (st_sub sti_T) 9 rfl rfl 0 (by decide) (List.mem_cons_of_mem _ kw_1_26) rfl rfl std_Y_lay_52 ?_
      refine g_icmp_ge (tgt := 74) C std_Y_lay_55 (by decide) ⟨by omega, by omega⟩ ⟨by omega, by omega⟩ (fun c4 => ?_) (fun c4 => ?_)
      · refine g_iconst C std_Y_lay_74 ?_
        refine g_wide (k := 72) (n := q) (by omega) (by omega) ?_
        have hdn : d = n := by omega
        have kN2 : cp = N := by rw [hdn, Nat.sub_self] at kN1; exact kN1
        have hall : (∀ i : Nat, i ≤ n → cn fsz ffu fsu fbb fmo i ≤ 400) := fun i hi => (kLS.1 i (by omega)).2.2
        refine g_ws (ws' := [(y0, .inr (2, [.ref t0, .int (iI T), .ref ys, .ref k1, .ref k2, .ref k3, .ref k4, .ref k5, .ref k6, .ref yu])), (ys, .inl (cI, aI 14 ST)), (k1, .inl (cI, aI N GK)), (k2, .inl (cI, aI N GC)), (k3, .inl (cI, aI N GD)), (k4, .inl (cJ, aL N GW)), (k5, .inl (cJ, aL N GX)), (k6, .inl (cI, aI (6 * N) GB)), (yu, .inl (cI, aI 6 CU)), (t0, .inr (1, [.int (iI steps), .int (iI choices), .int (iI bars), .ref hs, .ref hc, .ref hf, .ref hg, .ref hb, .ref he, .ref hm])), (hs, .inl (cI, aI 12 fsz)), (hc, .inl (cI, aI 72 fco)), (hf, .inl (cI, aI 72 ffu)), (hg, .inl (cI, aI 72 fsu)), (hb, .inl (cI, aI 72 fbb)), (hm, .inl (cI, aI 2 fmo))]) (by rw [kN2]) ?_
        exact hret _ _ _ (k1, k2, k3, k4, k5, k6, ST, GK, GC, GD, GW, GX, GB, CU, T) (⟨by rw [bI_t hall], by rw [← kN2]; exact kst, fun _ => ⟨hdn ▸ kLS, by rw [← hdn]; exact kT1⟩⟩) (by decide) std_Y_lay_75
      · obtain ⟨kk, hkk⟩ : ∃ kk : Nat, n - d = kk + 1 := ⟨n - d - 1, by omega⟩
        have hkk2 : n - (d + 1) = kk := by omega
        rw [hkk, layC_s] at kN1
        rw [hkk, layS_s] at kq1
        have hLd := kLS.1 d (Nat.le_refl d)
        have hnb := ls_nb kT (by omega) kLS
        have hgb := gN_b hnb.1 hnb.2 kc
        have hnd : T + min 400 ((ST (((d : Nat) : Int) + 1) - ST ((d : Nat) : Int)) * fsz ((d : Nat) : Int)) = (need fsz ffu fsu fbb fmo d) := by rw [kT1]; exact ls_need kLS
        refine g_aload_n C 1 std_Y_lay_58 rfl ?_
        refine g_iload_n C 0 std_Y_lay_59 rfl ?_
        refine g_V_i (wc := [(y0, .inr (2, [.ref t0, .int (iI T), .ref ys, .ref k1, .ref k2, .ref k3, .ref k4, .ref k5, .ref k6, .ref yu])), (ys, .inl (cI, aI 14 ST)), (k1, .inl (cI, aI cp GK)), (k2, .inl (cI, aI cp GC)), (k3, .inl (cI, aI cp GD)), (k4, .inl (cJ, aL cp GW)), (k5, .inl (cJ, aL cp GX)), (k6, .inl (cI, aI (6 * cp) GB)), (yu, .inl (cI, aI 6 CU)), (t0, .inr (1, [.int (iI steps), .int (iI choices), .int (iI bars), .ref hs, .ref hc, .ref hf, .ref hg, .ref hb, .ref he, .ref hm])), (hs, .inl (cI, aI 12 fsz)), (hc, .inl (cI, aI 72 fco)), (hf, .inl (cI, aI 72 ffu)), (hg, .inl (cI, aI 72 fsu)), (hb, .inl (cI, aI 72 fbb)), (hm, .inl (cI, aI 2 fmo))]) (wr := []) (rest := []) C (c_layBehind l dC dI cI cJ cZ y0 ys k1 k2 k3 k4 k5 k6 yu T t0 hs hc hf hg hb he hm steps choices bars cp (gN cp (need fsz ffu fsu fbb fmo d)) (gS cp (need fsz ffu fsu fbb fmo d)) d ST GK GC GD GW GX GB CU fsz fco ffu fsu fbb fmo (kc.2) (kst) (by omega) (kT) (⟨hLd.1.2.1, kT1.symm, by rw [kT1]; exact hLd.1.2.2.1⟩) (hLd.2.1) (by rw [hnd]; exact gN_kN hnb.1) (by rw [hnd]; exact gS_kq)) (st_cV C kw_2_39 kw_2_36 kw_1_3 kw_2_38 kw_0_0 sth_Y_layBehind ⟨Nat.le_of_ble_eq_true rfl, Nat.le_of_ble_eq_true rfl⟩) 0 rfl rfl rfl rfl (Nat.le_of_ble_eq_true rfl) std_Y_lay_60 ⟨by show _ ≤ 72; omega, by show _ ≤ q; omega⟩ [0, 1, 2, 3, 4, 5, 6, 7, 8, 9, 10, 11, 12, 13, 14, 15] [] rfl rfl rfl rfl (by decide) (fun r5 u6 h7 => ?_)
        obtain ⟨q8, q9, q10, q11, q12, q13, ST14, GK15, GC16, GD17, GW18, GX19, GB20, CU21, T22⟩ := u6
        dsimp only at h7
        obtain ⟨h7r, h7p⟩ := h7
        subst h7r
        refine g_ws (ws' := [(y0, .inr (2, [.ref t0, .int (iI T22), .ref ys, .ref q8, .ref q9, .ref q10, .ref q11, .ref q12, .ref q13, .ref yu])), (ys, .inl (cI, aI 14 ST14)), (q8, .inl (cI, aI (gN cp (need fsz ffu fsu fbb fmo d)) GK15)), (q9, .inl (cI, aI (gN cp (need fsz ffu fsu fbb fmo d)) GC16)), (q10, .inl (cI, aI (gN cp (need fsz ffu fsu fbb fmo d)) GD17)), (q11, .inl (cJ, aL (gN cp (need fsz ffu fsu fbb fmo d)) GW18)), (q12, .inl (cJ, aL (gN cp (need fsz ffu fsu fbb fmo d)) GX19)), (q13, .inl (cI, aI (6 * (gN cp (need fsz ffu fsu fbb fmo d))) GB20)), (yu, .inl (cI, aI 6 CU21)), (t0, .inr (1, [.int (iI steps), .int (iI choices), .int (iI bars), .ref hs, .ref hc, .ref hf, .ref hg, .ref hb, .ref he, .ref hm])), (hs, .inl (cI, aI 12 fsz)), (hc, .inl (cI, aI 72 fco)), (hf, .inl (cI, aI 72 ffu)), (hg, .inl (cI, aI 72 fsu)), (hb, .inl (cI, aI 72 fbb)), (hm, .inl (cI, aI 2 fmo))]) rfl ?_
        refine g_ifne_b (tgt := 68) C std_Y_lay_63 (by decide) (fun c23 => ?_) (fun c23 => ?_)
        · have hcn := c23
          obtain ⟨e1, e2, e3, e4, e5, e6⟩ := h7p.2 hcn
          subst e1
          rw [← hkk2] at kN1 kq1
          refine g_iinc C (lv' := [(1, .int (iI (((d : Nat) : Int) + 1))), (0, .ref y0)]) 0 std_Y_lay_68 rfl (by decide) rfl ?_
          refine g_goto (tgt := 47) C std_Y_lay_71 (by decide) ?_
          refine g_wide (k := (6 * (d + 1))) (n := (sl + gS cp (need fsz ffu fsu fbb fmo d))) (by omega) (by omega) ?_
          exact ih47 (d + 1) (gN cp (need fsz ffu fsu fbb fmo d)) (sl + gS cp (need fsz ffu fsu fbb fmo d)) q8 q9 q10 q11 q12 q13 T22 (uZ ST (((d : Nat) : Int) + 2) T22) GK15 GC16 GD17 GW18 GX19 GB20 CU21 (by omega) (hgb) (h7p.1) (ls_step kT (by omega) kLS hcn e2 e3 e4 e5 e6) (by rw [show (((d + 1 : Nat) : Int) + 1) = (d : Int) + 2 by omega, uZ_s]) (by rw [if_pos hcn] at kN1; exact kN1) (by rw [if_pos hcn] at kq1; omega) (by omega)
        · refine g_iconst C std_Y_lay_66 ?_
          refine g_wide (k := 72) (n := q) (by omega) (by omega) ?_
          have hcn := c23
          rw [if_neg hcn] at kN1 kq1
          have kN2 := kN1
          refine g_ws (ws' := [(y0, .inr (2, [.ref t0, .int (iI T22), .ref ys, .ref q8, .ref q9, .ref q10, .ref q11, .ref q12, .ref q13, .ref yu])), (ys, .inl (cI, aI 14 ST14)), (q8, .inl (cI, aI N GK15)), (q9, .inl (cI, aI N GC16)), (q10, .inl (cI, aI N GD17)), (q11, .inl (cJ, aL N GW18)), (q12, .inl (cJ, aL N GX19)), (q13, .inl (cI, aI (6 * N) GB20)), (yu, .inl (cI, aI 6 CU21)), (t0, .inr (1, [.int (iI steps), .int (iI choices), .int (iI bars), .ref hs, .ref hc, .ref hf, .ref hg, .ref hb, .ref he, .ref hm])), (hs, .inl (cI, aI 12 fsz)), (hc, .inl (cI, aI 72 fco)), (hf, .inl (cI, aI 72 ffu)), (hg, .inl (cI, aI 72 fsu)), (hb, .inl (cI, aI 72 fbb)), (hm, .inl (cI, aI 2 fmo))]) (by rw [kN2]) ?_
          exact hret _ _ _ (q8, q9, q10, q11, q12, q13, ST14, GK15, GC16, GD17, GW18, GX19, GB20, CU21, T22) (⟨by rw [bI_f (fun h => hcn (h (d + 1) (by omega)))], by rw [← kN2]; exact h7p.1, fun h => absurd (h (d + 1) (by omega)) hcn⟩) (by decide) std_Y_lay_67
  refine g_wide (k := (6 * 0)) (n := 0) (by omega) (by omega) ?_
  obtain ⟨nn0, hnn0⟩ : ∃ nn0 : Nat, ((n : Int) - (0 : Int)) < (nn0 : Int) := z_nat _
  exact L47 nn0 0 cap 0 yk yc yd yw yx yb 1 (uZ (uZ gst 0 0) 1 1) (uZ gk 0 (((0 * 512) + (0 * 8)) + ((-1) + 1))) (uZ gct 0 0) gcf (uZ gwt 0 1) gwf gbe gcu (by omega) (⟨by omega, kcap⟩) (st_le (st_le kgst (by omega)) (by omega)) (ls_0 (by rw [uZ_n (by omega), uZ_s]) uZ_s uZ_s uZ_s uZ_s) ((uZ_s (k := 1)).symm) (kN.symm) (by rw [Nat.sub_zero]; omega) hnn0
end
section
/-! WHAT GOES FROM A NODE -/
noncomputable def wf (fsz ffu fsu fbb fmo fle : Int → Int) : Nat → Nat → Int → Int
  | 0, _, k => if fle 0 ≤ k / 512 ∧ fle 1 ≤ k / 8 % 64 then 1 else 0
  | j + 1, d, k => sumR (fun c => if kn fbb ffu fsu fmo ((d : Int) * 6 + c) c k = -1 then 0 else wf fsz ffu fsu fbb fmo fle j (d + 1) (kn fbb ffu fsu fmo ((d : Int) * 6 + c) c k)) 0 (fsz (d : Int)).toNat
noncomputable def cf (fsz fco ffu fsu fbb fmo fle : Int → Int) : Nat → Nat → Int → Int
  | 0, _, _ => 0
  | j + 1, d, k => minR (fun c => ¬ kn fbb ffu fsu fmo ((d : Int) * 6 + c) c k = -1 ∧ 0 < wf fsz ffu fsu fbb fmo fle j (d + 1) (kn fbb ffu fsu fmo ((d : Int) * 6 + c) c k)) (fun c => cf fsz fco ffu fsu fbb fmo fle j (d + 1) (kn fbb ffu fsu fmo ((d : Int) * 6 + c) c k) + fco ((d : Int) * 6 + c)) 0 (fsz (d : Int)).toNat
theorem wf_nn {fsz ffu fsu fbb fmo fle : Int → Int} : ∀ (j d : Nat) (k : Int), 0 ≤ wf fsz ffu fsu fbb fmo fle j d k
  | 0, d, k => by
    show 0 ≤ (if fle 0 ≤ k / 512 ∧ fle 1 ≤ k / 8 % 64 then (1 : Int) else 0)
    split <;> omega
  | j + 1, d, k => by
    refine sumR_nn (fun c => ?_) _
    split
    · exact Int.le_refl 0
    · exact wf_nn j (d + 1) _
theorem sumR_ub {g : Int → Int} {s u : Int} : ∀ n : Nat, (∀ i, s ≤ i → i < s + (n : Int) → g i ≤ u) → sumR g s n ≤ (n : Int) * u
  | 0, _ => by show (0 : Int) ≤ _; simp
  | n + 1, q => by
    have i1 := sumR_ub (s := s) n (fun i a c => q i a (by omega))
    have e : ((n + 1 : Nat) : Int) * u = (n : Int) * u + u := by rw [Int.natCast_add, Int.add_mul]; simp
    rw [e]
    show sumR g s n + g (s + (n : Int)) ≤ _
    have q1 := q (s + (n : Int)) (by omega) (by omega)
    omega
theorem wf_ub {fsz fco ffu fsu fbb fmo fle : Int → Int} (hT : TB fsz fco ffu fsu fbb fmo) : ∀ (j d : Nat) (k : Int), d + j ≤ 12 → wf fsz ffu fsu fbb fmo fle j d k ≤ 6 ^ j := by
  intro j
  induction j with
  | zero =>
    intro d k _
    show (if fle 0 ≤ k / 512 ∧ fle 1 ≤ k / 8 % 64 then (1 : Int) else 0) ≤ 1
    split <;> omega
  | succ j ih =>
    intro d k hd
    have hsz := hT.1 (d : Int) (by omega) (by omega)
    have hp : (0 : Int) < 6 ^ j := Int.pow_pos (by omega)
    have := sumR_ub (g := fun c => if kn fbb ffu fsu fmo ((d : Int) * 6 + c) c k = -1 then 0 else wf fsz ffu fsu fbb fmo fle j (d + 1) (kn fbb ffu fsu fmo ((d : Int) * 6 + c) c k)) (s := 0) (u := 6 ^ j) (fsz (d : Int)).toNat (fun c c1 c2 => by
      show (if kn fbb ffu fsu fmo ((d : Int) * 6 + c) c k = -1 then 0 else wf fsz ffu fsu fbb fmo fle j (d + 1) (kn fbb ffu fsu fmo ((d : Int) * 6 + c) c k)) ≤ 6 ^ j
      split
      · omega
      · exact ih (d + 1) _ (by omega))
    have h2 : ((fsz (d : Int)).toNat : Int) * 6 ^ j ≤ 6 * 6 ^ j := Int.mul_le_mul_of_nonneg_right (by omega) (by omega)
    have h3 : (6 : Int) ^ (j + 1) = 6 * 6 ^ j := by rw [Int.pow_succ, Int.mul_comm]
    rw [h3]
    exact Int.le_trans this h2
theorem wf_big {fsz fco ffu fsu fbb fmo fle : Int → Int} (hT : TB fsz fco ffu fsu fbb fmo) {j d : Nat} {k : Int} (h : d + j ≤ 12) : wf fsz ffu fsu fbb fmo fle j d k ≤ 1000000000000 := by
  have h1 := wf_ub (fle := fle) hT j d k h
  have h2 : ∀ j : Nat, j ≤ 12 → (6 : Int) ^ j ≤ 1000000000000 := by decide +kernel
  exact Int.le_trans h1 (h2 j (by omega))
theorem cf_rng {fsz fco ffu fsu fbb fmo fle : Int → Int} (hT : TB fsz fco ffu fsu fbb fmo) : ∀ (j d : Nat) (k : Int), d + j ≤ 12 → 0 < wf fsz ffu fsu fbb fmo fle j d k → -(1000 * (j : Int)) ≤ cf fsz fco ffu fsu fbb fmo fle j d k ∧ cf fsz fco ffu fsu fbb fmo fle j d k ≤ 1000 * (j : Int) := by
  intro j
  induction j with
  | zero => intro d k _ _; unfold cf; omega
  | succ j ih =>
    intro d k hd hw
    have hsz := hT.1 (d : Int) (by omega) (by omega)
    obtain ⟨c, c1, c2, c3⟩ := sumR_pos (fun c => by
      show 0 ≤ (if kn fbb ffu fsu fmo ((d : Int) * 6 + c) c k = -1 then 0 else wf fsz ffu fsu fbb fmo fle j (d + 1) (kn fbb ffu fsu fmo ((d : Int) * 6 + c) c k))
      split
      · exact Int.le_refl 0
      · exact wf_nn j (d + 1) _) _ hw
    have hne : ¬ kn fbb ffu fsu fmo ((d : Int) * 6 + c) c k = -1 := fun q => by
      have c4 : 0 < (if kn fbb ffu fsu fmo ((d : Int) * 6 + c) c k = -1 then 0 else wf fsz ffu fsu fbb fmo fle j (d + 1) (kn fbb ffu fsu fmo ((d : Int) * 6 + c) c k)) := c3
      rw [if_pos q] at c4; omega
    have hpos : 0 < wf fsz ffu fsu fbb fmo fle j (d + 1) (kn fbb ffu fsu fmo ((d : Int) * 6 + c) c k) := by
      have c4 : 0 < (if kn fbb ffu fsu fmo ((d : Int) * 6 + c) c k = -1 then 0 else wf fsz ffu fsu fbb fmo fle j (d + 1) (kn fbb ffu fsu fmo ((d : Int) * 6 + c) c k)) := c3
      rw [if_neg hne] at c4; exact c4
    have hco := hT.2.1 ((d : Int) * 6 + c) (by omega) (by omega)
    have hj := ih (d + 1) _ (by omega) hpos
    have up := minR_le (P := fun c => ¬ kn fbb ffu fsu fmo ((d : Int) * 6 + c) c k = -1 ∧ 0 < wf fsz ffu fsu fbb fmo fle j (d + 1) (kn fbb ffu fsu fmo ((d : Int) * 6 + c) c k)) (v := fun c => cf fsz fco ffu fsu fbb fmo fle j (d + 1) (kn fbb ffu fsu fmo ((d : Int) * 6 + c) c k) + fco ((d : Int) * 6 + c)) (s := 0) (fsz (d : Int)).toNat c c1 c2 ⟨hne, hpos⟩
    have lo := minR_ge (P := fun c => ¬ kn fbb ffu fsu fmo ((d : Int) * 6 + c) c k = -1 ∧ 0 < wf fsz ffu fsu fbb fmo fle j (d + 1) (kn fbb ffu fsu fmo ((d : Int) * 6 + c) c k)) (v := fun c => cf fsz fco ffu fsu fbb fmo fle j (d + 1) (kn fbb ffu fsu fmo ((d : Int) * 6 + c) c k) + fco ((d : Int) * 6 + c)) (s := 0) (lo := -(1000 * ((j : Int) + 1))) (by omega) (fsz (d : Int)).toNat (fun i i1 i2 q => by
      have := ih (d + 1) _ (by omega) q.2
      have hc2 := hT.2.1 ((d : Int) * 6 + i) (by omega) (by omega)
      show _ ≤ cf fsz fco ffu fsu fbb fmo fle j (d + 1) (kn fbb ffu fsu fmo ((d : Int) * 6 + i) i k) + fco ((d : Int) * 6 + i)
      omega)
    unfold cf
    try dsimp only at up
    omega
/-- what is known of the nodes lo .. hi of layer d, looked back from -/
def BK (fsz fco ffu fsu fbb fmo fle : Int → Int) (n : Nat) (GK GX GD : Int → Int) (d : Nat) (lo hi : Int) : Prop :=
  ∀ i, lo ≤ i → i < hi → GX i = wf fsz ffu fsu fbb fmo fle (n - d) d (GK i) ∧ (0 < GX i → GD i = cf fsz fco ffu fsu fbb fmo fle (n - d) d (GK i)) ∧ -1000000 ≤ GD i ∧ GD i ≤ 1000000
theorem bk_keep {fsz fco ffu fsu fbb fmo fle GK GX GD : Int → Int} {n d : Nat} {lo hi y v w : Int} (h : BK fsz fco ffu fsu fbb fmo fle n GK GX GD d lo hi) (hy : y < lo ∨ hi ≤ y) : BK fsz fco ffu fsu fbb fmo fle n GK (uZ GX y v) (uZ GD y w) d lo hi := by
  intro i i1 i2
  rw [uZ_n (by omega), uZ_n (by omega)]
  exact h i i1 i2
theorem lbW_eq {gbe gwf g : Int → Int} {z : Int} : ∀ n : Nat, (∀ c, 0 ≤ c → c < (n : Int) → (if 0 ≤ gbe (z * 6 + c) ∧ 0 < gwf (gbe (z * 6 + c)) then gwf (gbe (z * 6 + c)) else 0) = g c) → lbW gbe gwf z n = sumR g 0 n
  | 0, _ => rfl
  | n + 1, h => by
    show lbW gbe gwf z n + _ = sumR g 0 n + g (0 + (n : Int))
    rw [lbW_eq n (fun c c1 c2 => h c c1 (by omega)), h (n : Int) (by omega) (by omega), Int.zero_add]
theorem lbC_eq {gbe gwf gcf fco v : Int → Int} {P : Int → Prop} {d z : Int} : ∀ n : Nat, (∀ c, 0 ≤ c → c < (n : Int) → ((0 ≤ gbe (z * 6 + c) ∧ 0 < gwf (gbe (z * 6 + c))) ↔ P c) ∧ (P c → gcf (gbe (z * 6 + c)) + fco (d * 6 + c) = v c ∧ v c ≤ 900000)) → 0 ≤ lbW gbe gwf z n ∧ (lbW gbe gwf z n = 0 → minR P v 0 n = 900000 ∧ lbC gbe gwf gcf fco d z n = 0) ∧ (0 < lbW gbe gwf z n → lbC gbe gwf gcf fco d z n = minR P v 0 n)
  | 0, _ => ⟨Int.le_refl 0, fun _ => ⟨rfl, rfl⟩, fun h => absurd h (Int.lt_irrefl 0)⟩
  | n + 1, h => by
    obtain ⟨i0, i1, i2⟩ := lbC_eq (gcf := gcf) (fco := fco) (v := v) (P := P) (d := d) n (fun c c1 c2 => h c c1 (by omega))
    obtain ⟨q1, q2⟩ := h (n : Int) (by omega) (by omega)
    have eW : lbW gbe gwf z (n + 1) = lbW gbe gwf z n + (if 0 ≤ gbe (z * 6 + (n : Int)) ∧ 0 < gwf (gbe (z * 6 + (n : Int))) then gwf (gbe (z * 6 + (n : Int))) else 0) := rfl
    have eC : lbC gbe gwf gcf fco d z (n + 1) = if 0 ≤ gbe (z * 6 + (n : Int)) ∧ 0 < gwf (gbe (z * 6 + (n : Int))) then (if lbW gbe gwf z n = 0 then gcf (gbe (z * 6 + (n : Int))) + fco (d * 6 + (n : Int)) else min (lbC gbe gwf gcf fco d z n) (gcf (gbe (z * 6 + (n : Int))) + fco (d * 6 + (n : Int)))) else lbC gbe gwf gcf fco d z n := rfl
    by_cases r : 0 ≤ gbe (z * 6 + (n : Int)) ∧ 0 < gwf (gbe (z * 6 + (n : Int)))
    · rw [if_pos r] at eW eC
      obtain ⟨v1, v2⟩ := q2 (q1.mp r)
      rw [eW, eC, minR_yes (by rw [Int.zero_add]; exact q1.mp r), Int.zero_add, v1]
      refine ⟨by omega, fun z0 => by omega, fun _ => ?_⟩
      by_cases t : lbW gbe gwf z n = 0
      · rw [if_pos t, (i1 t).1]; omega
      · rw [if_neg t, i2 (by omega)]
    · rw [if_neg r] at eW eC
      rw [eW, eC, minR_no (by rw [Int.zero_add]; exact fun x => r (q1.mpr x)), Int.add_zero]
      exact ⟨i0, i1, i2⟩
/-- one node, looked back from -/
theorem bk_step {fsz fco ffu fsu fbb fmo fle GK GX GD GB : Int → Int} {n d : Nat} {s e T y : Int} (hT : TB fsz fco ffu fsu fbb fmo) (hd : d < n) (hn : n ≤ 12) (hL : LK fsz ffu fsu fbb fmo GK d s e T GB GK) (hN : BK fsz fco ffu fsu fbb fmo fle n GK GX GD (d + 1) e T) (hv : ∀ i, s ≤ i → i < e → vk (GK i)) (he0 : 0 ≤ e) (h1 : s ≤ y) (h2 : y < e) (h : BK fsz fco ffu fsu fbb fmo fle n GK GX GD d s y) :
    BK fsz fco ffu fsu fbb fmo fle n GK (uZ GX y (lbW GB GX y (fsz (d : Int)).toNat)) (uZ GD y (lbC GB GX GD fco (d : Int) y (fsz (d : Int)).toNat)) d s (y + 1) := by
  have hsz := hT.1 (d : Int) (by omega) (by omega)
  have hnd : n - d = (n - (d + 1)) + 1 := by omega
  have key : ∀ c, 0 ≤ c → c < ((fsz (d : Int)).toNat : Int) → (kn fbb ffu fsu fmo ((d : Int) * 6 + c) c (GK y) = -1 ∧ GB (y * 6 + c) = -1) ∨ (¬ kn fbb ffu fsu fmo ((d : Int) * 6 + c) c (GK y) = -1 ∧ 0 ≤ GB (y * 6 + c) ∧ GX (GB (y * 6 + c)) = wf fsz ffu fsu fbb fmo fle (n - (d + 1)) (d + 1) (kn fbb ffu fsu fmo ((d : Int) * 6 + c) c (GK y)) ∧ (0 < GX (GB (y * 6 + c)) → GD (GB (y * 6 + c)) = cf fsz fco ffu fsu fbb fmo fle (n - (d + 1)) (d + 1) (kn fbb ffu fsu fmo ((d : Int) * 6 + c) c (GK y)))) := by
    intro c c1 c2
    rcases hL c y c1 (by omega) h1 h2 with x | ⟨x1, x2, x3⟩
    · exact Or.inl x
    · obtain ⟨b1, b2, b3⟩ := hN _ x1.1 x1.2
      rw [x2] at b1 b2
      exact Or.inr ⟨x3, by omega, b1, b2⟩
  have eW : lbW GB GX y (fsz (d : Int)).toNat = wf fsz ffu fsu fbb fmo fle (n - d) d (GK y) := by
    rw [hnd]
    refine lbW_eq _ (fun c c1 c2 => ?_)
    rcases key c c1 c2 with ⟨x1, x2⟩ | ⟨x1, x2, x3, x4⟩
    · rw [if_pos x1, if_neg (by omega)]
    · rw [if_neg x1]
      have w0 := wf_nn (fsz := fsz) (ffu := ffu) (fsu := fsu) (fbb := fbb) (fmo := fmo) (fle := fle) (n - (d + 1)) (d + 1) (kn fbb ffu fsu fmo ((d : Int) * 6 + c) c (GK y))
      by_cases r : 0 < GX (GB (y * 6 + c))
      · rw [if_pos ⟨x2, r⟩, x3]
      · rw [if_neg (fun z => r z.2)]; omega
  have eC := lbC_eq (gbe := GB) (gwf := GX) (gcf := GD) (fco := fco) (z := y) (d := (d : Int)) (P := fun c => ¬ kn fbb ffu fsu fmo ((d : Int) * 6 + c) c (GK y) = -1 ∧ 0 < wf fsz ffu fsu fbb fmo fle (n - (d + 1)) (d + 1) (kn fbb ffu fsu fmo ((d : Int) * 6 + c) c (GK y))) (v := fun c => cf fsz fco ffu fsu fbb fmo fle (n - (d + 1)) (d + 1) (kn fbb ffu fsu fmo ((d : Int) * 6 + c) c (GK y)) + fco ((d : Int) * 6 + c)) (fsz (d : Int)).toNat (fun c c1 c2 => by
    have hco := hT.2.1 ((d : Int) * 6 + c) (by omega) (by omega)
    rcases key c c1 c2 with ⟨x1, x2⟩ | ⟨x1, x2, x3, x4⟩
    · exact ⟨⟨fun z => by omega, fun z => absurd x1 z.1⟩, fun z => absurd x1 z.1⟩
    · refine ⟨⟨fun z => ⟨x1, by rw [← x3]; exact z.2⟩, fun z => ⟨x2, by rw [x3]; exact z.2⟩⟩, fun z => ?_⟩
      have r := cf_rng hT (n - (d + 1)) (d + 1) _ (by omega) z.2
      refine ⟨by rw [x4 (by rw [x3]; exact z.2)], ?_⟩
      show cf fsz fco ffu fsu fbb fmo fle (n - (d + 1)) (d + 1) (kn fbb ffu fsu fmo ((d : Int) * 6 + c) c (GK y)) + fco ((d : Int) * 6 + c) ≤ 900000
      omega)
  intro i i1 i2
  by_cases r : i = y
  · subst r
    rw [uZ_s, uZ_s]
    refine ⟨eW, fun q => ?_, ?_⟩
    · rw [eC.2.2 q, hnd]; rfl
    · by_cases q : 0 < lbW GB GX i (fsz (d : Int)).toNat
      · have e2 : lbC GB GX GD fco (d : Int) i (fsz (d : Int)).toNat = cf fsz fco ffu fsu fbb fmo fle (n - d) d (GK i) := by rw [eC.2.2 q, hnd]; rfl
        have r2 := cf_rng hT (n - d) d (GK i) (by omega) (by rw [← eW]; exact q)
        rw [e2]; omega
      · rw [(eC.2.1 (by have := eC.1; omega)).2]; omega
  · rw [uZ_n r, uZ_n r]; exact h i i1 (by omega)
end
section
theorem wf0_t {fsz ffu fsu fbb fmo fle : Int → Int} {d : Nat} {k : Int} (h : fle 0 ≤ k / 512 ∧ fle 1 ≤ k / 8 % 64) : 1 = wf fsz ffu fsu fbb fmo fle 0 d k := (if_pos h).symm
theorem wf0_f {fsz ffu fsu fbb fmo fle : Int → Int} {d : Nat} {k : Int} (h : ¬ (fle 0 ≤ k / 512 ∧ fle 1 ≤ k / 8 % 64)) : 0 = wf fsz ffu fsu fbb fmo fle 0 d k := (if_neg h).symm
theorem bk_last {fsz fco ffu fsu fbb fmo fle GK GX GD : Int → Int} {n : Nat} {s x v : Int} (h : BK fsz fco ffu fsu fbb fmo fle n GK GX GD n s x) (hv : v = wf fsz ffu fsu fbb fmo fle 0 n (GK x)) : BK fsz fco ffu fsu fbb fmo fle n GK (uZ GX x v) (uZ GD x 0) n s (x + 1) := by
  intro i i1 i2
  by_cases r : i = x
  · subst r
    rw [uZ_s, uZ_s, Nat.sub_self]
    exact ⟨hv, fun _ => rfl, by omega, by omega⟩
  · rw [uZ_n r, uZ_n r]; exact h i i1 (by omega)
theorem ls_up {fsz fco ffu fsu fbb fmo ST GK GW GC GB : Int → Int} {n : Nat} (h : LYS fsz fco ffu fsu fbb fmo n ST GK GW GC GB) : ∀ k i : Nat, i + 1 + k ≤ n → ST ((i : Int) + 1) ≤ ST ((i + 1 + k : Nat) : Int) := by
  intro k
  induction k with
  | zero => intro i _; exact Int.le_of_eq (by congr 1)
  | succ k ih =>
    intro i hi
    have a := ih i (by omega)
    have b := (h.1 (i + 1 + k) (by omega)).1.2.1
    rw [show ((i + 1 + (k + 1) : Nat) : Int) = ((i + 1 + k : Nat) : Int) + 1 by omega]
    omega
theorem ls_lt {fsz fco ffu fsu fbb fmo ST GK GW GC GB : Int → Int} {n i d : Nat} (h : LYS fsz fco ffu fsu fbb fmo n ST GK GW GC GB) (h1 : i < d) (h2 : d ≤ n) : ST ((i : Int) + 1) ≤ ST (d : Int) := by
  have := ls_up h (d - (i + 1)) i (by omega)
  rw [show i + 1 + (d - (i + 1)) = d by omega] at this
  exact this
theorem bk_be {fsz fco ffu fsu fbb fmo fle GK GX GD GB : Int → Int} {n d : Nat} {s e T y cap : Int} (hT : TB fsz fco ffu fsu fbb fmo) (hd : d < n) (hn : n ≤ 12) (hL : LK fsz ffu fsu fbb fmo GK d s e T GB GK) (hN : BK fsz fco ffu fsu fbb fmo fle n GK GX GD (d + 1) e T) (he0 : 0 ≤ e) (hTc : T ≤ cap) (hc : 0 ≤ cap) (h1 : s ≤ y) (h2 : y < e) :
    ∀ i, 0 ≤ i → i < fsz (d : Int) → (-1 ≤ GB (y * 6 + i) ∧ GB (y * 6 + i) < cap) ∧ (0 ≤ GB (y * 6 + i) → (0 ≤ GX (GB (y * 6 + i)) ∧ GX (GB (y * 6 + i)) ≤ 1000000000000) ∧ -1000000 ≤ GD (GB (y * 6 + i)) ∧ GD (GB (y * 6 + i)) ≤ 1000000) := by
  intro c c1 c2
  rcases hL c y c1 c2 h1 h2 with ⟨x1, x2⟩ | ⟨x1, x2, x3⟩
  · rw [x2]; exact ⟨by omega, fun q => by omega⟩
  · obtain ⟨b1, b2, b3, b4⟩ := hN _ x1.1 x1.2
    refine ⟨by omega, fun _ => ⟨?_, b3, b4⟩⟩
    rw [b1]
    exact ⟨wf_nn _ _ _, wf_big hT (by omega)⟩
theorem bk_all1 {fsz fco ffu fsu fbb fmo fle GK GX GD ST : Int → Int} {n : Nat} {x total : Int} (h : BK fsz fco ffu fsu fbb fmo fle n GK GX GD n (ST (n : Int)) x) (hx : total ≤ x) (ht : total = ST ((n : Int) + 1)) : ∀ d : Nat, (n : Int) - 1 < (d : Int) → d ≤ n → BK fsz fco ffu fsu fbb fmo fle n GK GX GD d (ST (d : Int)) (ST ((d : Int) + 1)) := by
  intro d d1 d2
  obtain rfl : d = n := by omega
  intro i i1 i2
  exact h i i1 (by omega)
theorem bk_all2 {fsz fco ffu fsu fbb fmo fle GK GX GD ST : Int → Int} {n d0 : Nat} {y : Int} (h1 : ∀ d : Nat, (d0 : Int) < (d : Int) → d ≤ n → BK fsz fco ffu fsu fbb fmo fle n GK GX GD d (ST (d : Int)) (ST ((d : Int) + 1))) (h2 : BK fsz fco ffu fsu fbb fmo fle n GK GX GD d0 (ST (d0 : Int)) y) (hy : ST ((d0 : Int) + 1) ≤ y) : ∀ d : Nat, (d0 : Int) + (-1) < (d : Int) → d ≤ n → BK fsz fco ffu fsu fbb fmo fle n GK GX GD d (ST (d : Int)) (ST ((d : Int) + 1)) := by
  intro d d1 d2
  by_cases r : d = d0
  · subst r
    intro i i1 i2
    exact h2 i i1 (by omega)
  · exact h1 d (by omega) d2
end
section
/-! Layers.lookBack -/
abbrev sty_Y_lookBack : MethodName := ⟨"StateTables$Layers", "lookBack", "()V"⟩
abbrev stc_Y_lookBack : ByteArray := prog_3_method_14_code
theorem sth_Y_lookBack : (sty_Y_lookBack).cls ≠ "java/lang/invoke/MethodHandle" ∧ (sty_Y_lookBack).cls ≠ "java/lang/invoke/VarHandle" ∧ (parseMethodDescriptor (sty_Y_lookBack).desc).map (fun d => d.parameters.length) = some 0 := by decide +kernel
theorem std_Y_lookBack_0 : decode stc_Y_lookBack 0 = .ok (.aload_n 0, 1) := by decide +kernel
theorem std_Y_lookBack_1 : decode stc_Y_lookBack 1 = .ok (.getfield 9, 3) := by decide +kernel
theorem std_Y_lookBack_4 : decode stc_Y_lookBack 4 = .ok (.aload_n 0, 1) := by decide +kernel
theorem std_Y_lookBack_5 : decode stc_Y_lookBack 5 = .ok (.getfield 37, 3) := by decide +kernel
theorem std_Y_lookBack_8 : decode stc_Y_lookBack 8 = .ok (.getfield 41, 3) := by decide +kernel
theorem std_Y_lookBack_11 : decode stc_Y_lookBack 11 = .ok (.iaload, 1) := by decide +kernel
theorem std_Y_lookBack_12 : decode stc_Y_lookBack 12 = .ok (.istore_n 1, 1) := by decide +kernel
theorem std_Y_lookBack_13 : decode stc_Y_lookBack 13 = .ok (.iload_n 1, 1) := by decide +kernel
theorem std_Y_lookBack_14 : decode stc_Y_lookBack 14 = .ok (.aload_n 0, 1) := by decide +kernel
theorem std_Y_lookBack_15 : decode stc_Y_lookBack 15 = .ok (.getfield 60, 3) := by decide +kernel
theorem std_Y_lookBack_18 : decode stc_Y_lookBack 18 = .ok (.if_icmp .ge 57, 3) := by decide +kernel
theorem std_Y_lookBack_75 : decode stc_Y_lookBack 75 = .ok (.aload_n 0, 1) := by decide +kernel
theorem std_Y_lookBack_76 : decode stc_Y_lookBack 76 = .ok (.getfield 37, 3) := by decide +kernel
theorem std_Y_lookBack_79 : decode stc_Y_lookBack 79 = .ok (.getfield 41, 3) := by decide +kernel
theorem std_Y_lookBack_82 : decode stc_Y_lookBack 82 = .ok (.iconst 1, 1) := by decide +kernel
theorem std_Y_lookBack_83 : decode stc_Y_lookBack 83 = .ok (.isub, 1) := by decide +kernel
theorem std_Y_lookBack_84 : decode stc_Y_lookBack 84 = .ok (.istore_n 1, 1) := by decide +kernel
theorem std_Y_lookBack_85 : decode stc_Y_lookBack 85 = .ok (.iload_n 1, 1) := by decide +kernel
theorem std_Y_lookBack_86 : decode stc_Y_lookBack 86 = .ok (.ifCond .lt 40, 3) := by decide +kernel
theorem std_Y_lookBack_126 : decode stc_Y_lookBack 126 = .ok (.return_, 1) := by decide +kernel
theorem std_Y_lookBack_89 : decode stc_Y_lookBack 89 = .ok (.aload_n 0, 1) := by decide +kernel
theorem std_Y_lookBack_90 : decode stc_Y_lookBack 90 = .ok (.getfield 9, 3) := by decide +kernel
theorem std_Y_lookBack_93 : decode stc_Y_lookBack 93 = .ok (.iload_n 1, 1) := by decide +kernel
theorem std_Y_lookBack_94 : decode stc_Y_lookBack 94 = .ok (.iaload, 1) := by decide +kernel
theorem std_Y_lookBack_95 : decode stc_Y_lookBack 95 = .ok (.istore_n 2, 1) := by decide +kernel
theorem std_Y_lookBack_96 : decode stc_Y_lookBack 96 = .ok (.iload_n 2, 1) := by decide +kernel
theorem std_Y_lookBack_97 : decode stc_Y_lookBack 97 = .ok (.aload_n 0, 1) := by decide +kernel
theorem std_Y_lookBack_98 : decode stc_Y_lookBack 98 = .ok (.getfield 9, 3) := by decide +kernel
theorem std_Y_lookBack_101 : decode stc_Y_lookBack 101 = .ok (.iload_n 1, 1) := by decide +kernel
theorem std_Y_lookBack_102 : decode stc_Y_lookBack 102 = .ok (.iconst 1, 1) := by decide +kernel
theorem std_Y_lookBack_103 : decode stc_Y_lookBack 103 = .ok (.iadd, 1) := by decide +kernel
theorem std_Y_lookBack_104 : decode stc_Y_lookBack 104 = .ok (.iaload, 1) := by decide +kernel
theorem std_Y_lookBack_105 : decode stc_Y_lookBack 105 = .ok (.if_icmp .ge 15, 3) := by decide +kernel
theorem std_Y_lookBack_120 : decode stc_Y_lookBack 120 = .ok (.iinc 1 (-1), 3) := by decide +kernel
theorem std_Y_lookBack_123 : decode stc_Y_lookBack 123 = .ok (.goto (-38), 3) := by decide +kernel
theorem std_Y_lookBack_108 : decode stc_Y_lookBack 108 = .ok (.aload_n 0, 1) := by decide +kernel
theorem std_Y_lookBack_109 : decode stc_Y_lookBack 109 = .ok (.iload_n 1, 1) := by decide +kernel
theorem std_Y_lookBack_110 : decode stc_Y_lookBack 110 = .ok (.iload_n 2, 1) := by decide +kernel
theorem std_Y_lookBack_111 : decode stc_Y_lookBack 111 = .ok (.invokevirtual 138, 3) := by decide +kernel
theorem kw_2_121 : Cond.code sty_Y_lookBackFrom stc_Y_lookBackFrom 9 none ∈ stGW := st_t2 (List.mem_of_getElem? (i := 121) (by decide +kernel)) (by decide +kernel)
theorem kw_2_118 : Cond.methodLink "StateTables$Layers" 138 (sty_Y_lookBackFrom) ∈ stGW := st_t2 (List.mem_of_getElem? (i := 118) (by decide +kernel)) (by decide +kernel)
theorem kw_2_120 : Cond.instanceMethod (sty_Y_lookBackFrom) ∈ stGW := st_t2 (List.mem_of_getElem? (i := 120) (by decide +kernel)) (by decide +kernel)
theorem kw_0_6 : Cond.selects "StateTables$Layers" (sty_Y_lookBackFrom) (sty_Y_lookBackFrom) ∈ stGW := st_t0 (List.mem_of_getElem? (i := 6) (by decide +kernel)) (by decide +kernel)
theorem std_Y_lookBack_114 : decode stc_Y_lookBack 114 = .ok (.iinc 2 1, 3) := by decide +kernel
theorem std_Y_lookBack_117 : decode stc_Y_lookBack 117 = .ok (.goto (-21), 3) := by decide +kernel
theorem std_Y_lookBack_21 : decode stc_Y_lookBack 21 = .ok (.aload_n 0, 1) := by decide +kernel
theorem std_Y_lookBack_22 : decode stc_Y_lookBack 22 = .ok (.getfield 37, 3) := by decide +kernel
theorem std_Y_lookBack_25 : decode stc_Y_lookBack 25 = .ok (.aload_n 0, 1) := by decide +kernel
theorem std_Y_lookBack_26 : decode stc_Y_lookBack 26 = .ok (.getfield 15, 3) := by decide +kernel
theorem std_Y_lookBack_29 : decode stc_Y_lookBack 29 = .ok (.iload_n 1, 1) := by decide +kernel
theorem std_Y_lookBack_30 : decode stc_Y_lookBack 30 = .ok (.iaload, 1) := by decide +kernel
theorem std_Y_lookBack_31 : decode stc_Y_lookBack 31 = .ok (.invokestatic 110, 3) := by decide +kernel
theorem std_Y_lookBack_34 : decode stc_Y_lookBack 34 = .ok (.aload_n 0, 1) := by decide +kernel
theorem std_Y_lookBack_35 : decode stc_Y_lookBack 35 = .ok (.getfield 15, 3) := by decide +kernel
theorem std_Y_lookBack_38 : decode stc_Y_lookBack 38 = .ok (.iload_n 1, 1) := by decide +kernel
theorem std_Y_lookBack_39 : decode stc_Y_lookBack 39 = .ok (.iaload, 1) := by decide +kernel
theorem std_Y_lookBack_40 : decode stc_Y_lookBack 40 = .ok (.invokestatic 116, 3) := by decide +kernel
theorem std_Y_lookBack_43 : decode stc_Y_lookBack 43 = .ok (.invokevirtual 135, 3) := by decide +kernel
theorem kw_2_117 : Cond.code sty_T_isEnough stc_T_isEnough 3 (some .boolean) ∈ stGW := st_t2 (List.mem_of_getElem? (i := 117) (by decide +kernel)) (by decide +kernel)
theorem kw_2_114 : Cond.methodLink "StateTables$Layers" 135 (sty_T_isEnough) ∈ stGW := st_t2 (List.mem_of_getElem? (i := 114) (by decide +kernel)) (by decide +kernel)
theorem kw_2_115 : Cond.instanceMethod (sty_T_isEnough) ∈ stGW := st_t2 (List.mem_of_getElem? (i := 115) (by decide +kernel)) (by decide +kernel)
theorem kw_2_116 : Cond.selects "StateTables$Told" (sty_T_isEnough) (sty_T_isEnough) ∈ stGW := st_t2 (List.mem_of_getElem? (i := 116) (by decide +kernel)) (by decide +kernel)
theorem std_Y_lookBack_46 : decode stc_Y_lookBack 46 = .ok (.istore_n 2, 1) := by decide +kernel
theorem std_Y_lookBack_47 : decode stc_Y_lookBack 47 = .ok (.aload_n 0, 1) := by decide +kernel
theorem std_Y_lookBack_48 : decode stc_Y_lookBack 48 = .ok (.getfield 28, 3) := by decide +kernel
theorem std_Y_lookBack_51 : decode stc_Y_lookBack 51 = .ok (.iload_n 1, 1) := by decide +kernel
theorem std_Y_lookBack_52 : decode stc_Y_lookBack 52 = .ok (.iload_n 2, 1) := by decide +kernel
theorem std_Y_lookBack_53 : decode stc_Y_lookBack 53 = .ok (.ifCond .eq 7, 3) := by decide +kernel
theorem std_Y_lookBack_60 : decode stc_Y_lookBack 60 = .ok (.lconst 0, 1) := by decide +kernel
theorem std_Y_lookBack_61 : decode stc_Y_lookBack 61 = .ok (.lastore, 1) := by decide +kernel
theorem std_Y_lookBack_62 : decode stc_Y_lookBack 62 = .ok (.aload_n 0, 1) := by decide +kernel
theorem std_Y_lookBack_63 : decode stc_Y_lookBack 63 = .ok (.getfield 21, 3) := by decide +kernel
theorem std_Y_lookBack_66 : decode stc_Y_lookBack 66 = .ok (.iload_n 1, 1) := by decide +kernel
theorem std_Y_lookBack_67 : decode stc_Y_lookBack 67 = .ok (.iconst 0, 1) := by decide +kernel
theorem std_Y_lookBack_68 : decode stc_Y_lookBack 68 = .ok (.iastore, 1) := by decide +kernel
theorem std_Y_lookBack_69 : decode stc_Y_lookBack 69 = .ok (.iinc 1 1, 3) := by decide +kernel
theorem std_Y_lookBack_72 : decode stc_Y_lookBack 72 = .ok (.goto (-59), 3) := by decide +kernel
theorem std_Y_lookBack_56 : decode stc_Y_lookBack 56 = .ok (.lconst 1, 1) := by decide +kernel
theorem std_Y_lookBack_57 : decode stc_Y_lookBack 57 = .ok (.goto 4, 3) := by decide +kernel
set_option maxHeartbeats 4000000 in
set_option maxRecDepth 100000 in
theorem c_lookBack (l : Launch) (dC : Nat → ClassId) (dI : Nat → Nat → Nat) (cI cJ cZ : ClassId) (y0 : Nat) (ys : Nat) (yk : Nat) (yc : Nat) (yd : Nat) (yw : Nat) (yx : Nat) (yb : Nat) (yu : Nat) (total : Int) (t0 : Nat) (hs : Nat) (hc : Nat) (hf : Nat) (hg : Nat) (hb : Nat) (he : Nat) (hm : Nat) (choices : Int) (bars : Int) (cap : Nat) (n : Nat) (gst : Int → Int) (gk : Int → Int) (gct : Int → Int) (gcf : Int → Int) (gwt : Int → Int) (gwf : Int → Int) (gbe : Int → Int) (fle : Int → Int) (fsz : Int → Int) (fco : Int → Int) (ffu : Int → Int) (fsu : Int → Int) (fbb : Int → Int) (fmo : Int → Int) (kcap : cap ≤ 4801) (kgst : ∀ j, 0 ≤ j → j < 14 → 0 ≤ gst j ∧ gst j ≤ cap) (kn : n ≤ 12) (kT : TB fsz fco ffu fsu fbb fmo) (kle : ∀ j, 0 ≤ j → j < 2 → 0 ≤ fle j ∧ fle j ≤ 40) (kLS : LYS fsz fco ffu fsu fbb fmo n gst gk gwt gct gbe) (kt : total = gst (((n : Nat) : Int) + 1)) : ∀ sz, Met l sty_Y_lookBack (Cond.code sty_Y_lookBack stc_Y_lookBack 3 none :: stGW) ({ frames := 2, cells := 0, slots := 0, locals := 50 } : Room) (va_Pc [.ref y0] (zPre (dC, dI) stCl [(cI, .int), (cJ, .long), (cZ, .boolean)] st_nw [(y0, .inr (2, [.ref t0, .int (iI total), .ref ys, .ref yk, .ref yc, .ref yd, .ref yw, .ref yx, .ref yb, .ref yu])), (ys, .inl (cI, aI 14 gst)), (yk, .inl (cI, aI cap gk)), (yd, .inl (cI, aI cap gcf)), (yx, .inl (cJ, aL cap gwf)), (yb, .inl (cI, aI (6 * cap) gbe)), (t0, .inr (1, [.int (iI ((n : Nat) : Int)), .int (iI choices), .int (iI bars), .ref hs, .ref hc, .ref hf, .ref hg, .ref hb, .ref he, .ref hm])), (hs, .inl (cI, aI 12 fsz)), (hc, .inl (cI, aI 72 fco)), (he, .inl (cI, aI 2 fle))] sz)) (va_Qv (fun (u : (Int → Int) × (Int → Int)) => ∀ d : Nat, d ≤ n → BK fsz fco ffu fsu fbb fmo fle n gk u.1 u.2 d (gst ((d : Nat) : Int)) (gst (((d : Nat) : Int) + 1))) (zPost (dC, dI) stCl [(cI, .int), (cJ, .long), (cZ, .boolean)] [(y0, .inr (2, [.ref t0, .int (iI total), .ref ys, .ref yk, .ref yc, .ref yd, .ref yw, .ref yx, .ref yb, .ref yu])), (ys, .inl (cI, aI 14 gst)), (yk, .inl (cI, aI cap gk)), (yd, .inl (cI, aI cap gcf)), (yx, .inl (cJ, aL cap gwf)), (yb, .inl (cI, aI (6 * cap) gbe)), (t0, .inr (1, [.int (iI ((n : Nat) : Int)), .int (iI choices), .int (iI bars), .ref hs, .ref hc, .ref hf, .ref hg, .ref hb, .ref he, .ref hm])), (hs, .inl (cI, aI 12 fsz)), (hc, .inl (cI, aI 72 fco)), (he, .inl (cI, aI 2 fle))] sz (fun u : (Int → Int) × (Int → Int) => [(y0, .inr (2, [.ref t0, .int (iI total), .ref ys, .ref yk, .ref yc, .ref yd, .ref yw, .ref yx, .ref yb, .ref yu])), (ys, .inl (cI, aI 14 gst)), (yk, .inl (cI, aI cap gk)), (yd, .inl (cI, aI cap (u.2))), (yx, .inl (cJ, aL cap (u.1))), (yb, .inl (cI, aI (6 * cap) gbe)), (t0, .inr (1, [.int (iI ((n : Nat) : Int)), .int (iI choices), .int (iI bars), .ref hs, .ref hc, .ref hf, .ref hg, .ref hb, .ref he, .ref hm])), (hs, .inl (cI, aI 12 fsz)), (hc, .inl (cI, aI 72 fco)), (he, .inl (cI, aI 2 fle))])) (va_A [(y0, .inr (2, [.ref t0, .int (iI total), .ref ys, .ref yk, .ref yc, .ref yd, .ref yw, .ref yx, .ref yb, .ref yu])), (ys, .inl (cI, aI 14 gst)), (yk, .inl (cI, aI cap gk)), (yd, .inl (cI, aI cap gcf)), (yx, .inl (cJ, aL cap gwf)), (yb, .inl (cI, aI (6 * cap) gbe)), (t0, .inr (1, [.int (iI ((n : Nat) : Int)), .int (iI choices), .int (iI bars), .ref hs, .ref hc, .ref hf, .ref hg, .ref hb, .ref he, .ref hm])), (hs, .inl (cI, aI 12 fsz)), (hc, .inl (cI, aI 72 fco)), (he, .inl (cI, aI 2 fle))] sz)) 0 0 (va_A [(y0, .inr (2, [.ref t0, .int (iI total), .ref ys, .ref yk, .ref yc, .ref yd, .ref yw, .ref yx, .ref yb, .ref yu])), (ys, .inl (cI, aI 14 gst)), (yk, .inl (cI, aI cap gk)), (yd, .inl (cI, aI cap gcf)), (yx, .inl (cJ, aL cap gwf)), (yb, .inl (cI, aI (6 * cap) gbe)), (t0, .inr (1, [.int (iI ((n : Nat) : Int)), .int (iI choices), .int (iI bars), .ref hs, .ref hc, .ref hf, .ref hg, .ref hb, .ref he, .ref hm])), (hs, .inl (cI, aI 12 fsz)), (hc, .inl (cI, aI 72 fco)), (he, .inl (cI, aI 2 fle))] sz) := by
  refine met_v (by decide) rfl (Nat.le_of_ble_eq_true rfl) ?_
  intro p e s m below meth c A Q C hmn hret
  have hq0 := kgst ((n : Nat) : Int) (by omega) (by omega)
  have hq1 := kgst (((n : Nat) : Int) + 1) (by omega) (by omega)
  have hLn := kLS.1 n (Nat.le_refl n)
  refine g_aload_n C 0 std_Y_lookBack_0 rfl ?_
  refine g_get C (st_sub sti_Y) 0 rfl rfl 2 (by decide) (List.mem_cons_of_mem _ kw_1_86) rfl rfl std_Y_lookBack_1 ?_
  refine g_aload_n C 0 std_Y_lookBack_4 rfl ?_
  refine g_get C (st_sub sti_Y) 0 rfl rfl 0 (by decide) (List.mem_cons_of_mem _ kw_1_83) rfl rfl std_Y_lookBack_5 ?_
  refine g_get C (st_sub sti_T) 6 rfl rfl 0 (by decide) (List.mem_cons_of_mem _ kw_1_26) rfl rfl std_Y_lookBack_8 ?_
  refine g_iald C 1 0 rfl rfl (by omega) (by omega) (by omega) std_Y_lookBack_11 ?_
  refine g_istore_n C (lv' := [(1, .int (iI (gst ((n : Nat) : Int)))), (0, .ref y0)]) std_Y_lookBack_12 (by decide) rfl ?_
  have L13 : ∀ (nn13 : Nat) (x : Int) (GX : Int → Int) (GD : Int → Int), (gst ((n : Nat) : Int) ≤ x ∧ x ≤ total) → BK fsz fco ffu fsu fbb fmo fle n gk GX GD n (gst ((n : Nat) : Int)) x → (total - x) < (nn13 : Int) → G p l e ({ frames := 2, cells := 0, slots := 0, locals := 50 } : Room) s m ([.ref y0] : List Value).toArray below meth c (dC, dI) stCl 3 A 0 0 Q [(y0, .inr (2, [.ref t0, .int (iI total), .ref ys, .ref yk, .ref yc, .ref yd, .ref yw, .ref yx, .ref yb, .ref yu])), (ys, .inl (cI, aI 14 gst)), (yk, .inl (cI, aI cap gk)), (yd, .inl (cI, aI cap GD)), (yx, .inl (cJ, aL cap GX)), (yb, .inl (cI, aI (6 * cap) gbe)), (t0, .inr (1, [.int (iI ((n : Nat) : Int)), .int (iI choices), .int (iI bars), .ref hs, .ref hc, .ref hf, .ref hg, .ref hb, .ref he, .ref hm])), (hs, .inl (cI, aI 12 fsz)), (hc, .inl (cI, aI 72 fco)), (he, .inl (cI, aI 2 fle))] 13 [(1, .int (iI x)), (0, .ref y0)] [] := by
    intro nn13
    induction nn13 with
    | zero =>
      intro x GX GD kx kB hnn13
      exact absurd hnn13 (by omega)
    | succ nn13 ih13 =>
      intro x GX GD kx kB hnn13
      refine g_iload_n C 0 std_Y_lookBack_13 rfl ?_
      refine g_aload_n C 1 std_Y_lookBack_14 rfl ?_
      refine g_get C (st_sub sti_Y) 0 rfl rfl 1 (by decide) (List.mem_cons_of_mem _ kw_1_85) rfl rfl std_Y_lookBack_15 ?_
      refine g_icmp_ge (tgt := 75) C std_Y_lookBack_18 (by decide) ⟨by omega, by omega⟩ ⟨by omega, by omega⟩ (fun c1 => ?_) (fun c1 => ?_)
      · refine g_aload_n C 1 std_Y_lookBack_75 rfl ?_
        refine g_get C (st_sub sti_Y) 0 rfl rfl 0 (by decide) (List.mem_cons_of_mem _ kw_1_83) rfl rfl std_Y_lookBack_76 ?_
        refine g_get C (st_sub sti_T) 6 rfl rfl 0 (by decide) (List.mem_cons_of_mem _ kw_1_26) rfl rfl std_Y_lookBack_79 ?_
        refine g_iconst C std_Y_lookBack_82 ?_
        refine g_isub C std_Y_lookBack_83 ?_
        refine g_istore_n C (lv' := [(1, .int (iI (((n : Nat) : Int) - 1))), (0, .ref y0)]) std_Y_lookBack_84 (by decide) rfl ?_
        have L85 : ∀ (nn85 : Nat) (x : Int) (GX : Int → Int) (GD : Int → Int), (-1 ≤ x ∧ x < ((n : Nat) : Int)) → (∀ d : Nat, x < (d : Int) → d ≤ n → BK fsz fco ffu fsu fbb fmo fle n gk GX GD d (gst ((d : Nat) : Int)) (gst (((d : Nat) : Int) + 1))) → (x + 1) < (nn85 : Int) → G p l e ({ frames := 2, cells := 0, slots := 0, locals := 50 } : Room) s m ([.ref y0] : List Value).toArray below meth c (dC, dI) stCl 3 A 0 0 Q [(y0, .inr (2, [.ref t0, .int (iI total), .ref ys, .ref yk, .ref yc, .ref yd, .ref yw, .ref yx, .ref yb, .ref yu])), (ys, .inl (cI, aI 14 gst)), (yk, .inl (cI, aI cap gk)), (yd, .inl (cI, aI cap GD)), (yx, .inl (cJ, aL cap GX)), (yb, .inl (cI, aI (6 * cap) gbe)), (t0, .inr (1, [.int (iI ((n : Nat) : Int)), .int (iI choices), .int (iI bars), .ref hs, .ref hc, .ref hf, .ref hg, .ref hb, .ref he, .ref hm])), (hs, .inl (cI, aI 12 fsz)), (hc, .inl (cI, aI 72 fco)), (he, .inl (cI, aI 2 fle))] 85 [(1, .int (iI x)), (0, .ref y0)] [] := by
          intro nn85
          induction nn85 with
          | zero =>
            intro x GX GD kx kB hnn85
            exact absurd hnn85 (by omega)
          | succ nn85 ih85 =>
            intro x GX GD kx kB hnn85
            refine g_iload_n C 0 std_Y_lookBack_85 rfl ?_
            refine g_if_lt (tgt := 126) C std_Y_lookBack_86 (by decide) ⟨by omega, by omega⟩ (fun c2 => ?_) (fun c2 => ?_)
            · exact hret _ _ (GX, GD) (fun d hd => kB d (by omega) hd) std_Y_lookBack_126
            · obtain ⟨d0, hd0⟩ : ∃ d0 : Nat, x = (d0 : Int) := ⟨x.toNat, by omega⟩
              subst hd0
              have hLd := kLS.1 d0 (by omega)
              have hLu := kLS.1 (d0 + 1) (by omega)
              have hq5 := kgst ((d0 : Nat) : Int) (by omega) (by omega)
              have hq6 := kgst (((d0 : Nat) : Int) + 1) (by omega) (by omega)
              have hq7 := kgst (((d0 : Nat) : Int) + 2) (by omega) (by omega)
              refine g_aload_n C 1 std_Y_lookBack_89 rfl ?_
              refine g_get C (st_sub sti_Y) 0 rfl rfl 2 (by decide) (List.mem_cons_of_mem _ kw_1_86) rfl rfl std_Y_lookBack_90 ?_
              refine g_iload_n C 0 std_Y_lookBack_93 rfl ?_
              refine g_iald C 1 0 rfl rfl (by omega) (by omega) (by omega) std_Y_lookBack_94 ?_
              refine g_istore_n C (lv' := [(2, .int (iI (gst ((d0 : Nat) : Int)))), (1, .int (iI ((d0 : Nat) : Int))), (0, .ref y0)]) std_Y_lookBack_95 (by decide) rfl ?_
              have L96 : ∀ (nn96 : Nat) (y : Int) (GX : Int → Int) (GD : Int → Int), (gst ((d0 : Nat) : Int) ≤ y ∧ y ≤ gst (((d0 : Nat) : Int) + 1)) → (∀ d : Nat, ((d0 : Nat) : Int) < (d : Int) → d ≤ n → BK fsz fco ffu fsu fbb fmo fle n gk GX GD d (gst ((d : Nat) : Int)) (gst (((d : Nat) : Int) + 1))) → BK fsz fco ffu fsu fbb fmo fle n gk GX GD d0 (gst ((d0 : Nat) : Int)) y → (gst (((d0 : Nat) : Int) + 1) - y) < (nn96 : Int) → G p l e ({ frames := 2, cells := 0, slots := 0, locals := 50 } : Room) s m ([.ref y0] : List Value).toArray below meth c (dC, dI) stCl 3 A 0 0 Q [(y0, .inr (2, [.ref t0, .int (iI total), .ref ys, .ref yk, .ref yc, .ref yd, .ref yw, .ref yx, .ref yb, .ref yu])), (ys, .inl (cI, aI 14 gst)), (yk, .inl (cI, aI cap gk)), (yd, .inl (cI, aI cap GD)), (yx, .inl (cJ, aL cap GX)), (yb, .inl (cI, aI (6 * cap) gbe)), (t0, .inr (1, [.int (iI ((n : Nat) : Int)), .int (iI choices), .int (iI bars), .ref hs, .ref hc, .ref hf, .ref hg, .ref hb, .ref he, .ref hm])), (hs, .inl (cI, aI 12 fsz)), (hc, .inl (cI, aI 72 fco)), (he, .inl (cI, aI 2 fle))] 96 [(2, .int (iI y)), (1, .int (iI ((d0 : Nat) : Int))), (0, .ref y0)] [] := by
                intro nn96
                induction nn96 with
                | zero =>
                  intro y GX GD ky kB1 kB2 hnn96
                  exact absurd hnn96 (by omega)
                | succ nn96 ih96 =>
                  intro y GX GD ky kB1 kB2 hnn96
                  refine g_iload_n C 0 std_Y_lookBack_96 rfl ?_
                  refine g_aload_n C 2 std_Y_lookBack_97 rfl ?_
                  refine g_get C (st_sub sti_Y) 0 rfl rfl 2 (by decide) (List.mem_cons_of_mem _ kw_1_86) rfl rfl std_Y_lookBack_98 ?_
                  refine g_iload_n C 1 std_Y_lookBack_101 rfl ?_
                  refine g_iconst C std_Y_lookBack_102 ?_
                  refine g_iadd C std_Y_lookBack_103 ?_
                  refine g_iald C 1 0 rfl rfl (by omega) (by omega) (by omega) std_Y_lookBack_104 ?_
                  refine g_icmp_ge (tgt := 120) C std_Y_lookBack_105 (by decide) ⟨by omega, by omega⟩ ⟨by omega, by omega⟩ (fun c3 => ?_) (fun c3 => ?_)
                  · refine g_iinc C (lv' := [(1, .int (iI (((d0 : Nat) : Int) + (-1)))), (2, .int (iI y)), (0, .ref y0)]) 1 std_Y_lookBack_120 rfl (by decide) rfl ?_
                    refine g_goto (tgt := 85) C std_Y_lookBack_123 (by decide) ?_
                    refine g_lv (lv' := [(1, .int (iI (((d0 : Nat) : Int) + (-1)))), (0, .ref y0)]) [0, 2] rfl ?_
                    exact ih85 (((d0 : Nat) : Int) + (-1)) GX GD (by omega) (bk_all2 kB1 kB2 (by omega)) (by omega)
                  · have hBn : BK fsz fco ffu fsu fbb fmo fle n gk GX GD (d0 + 1) (gst (((d0 : Nat) : Int) + 1)) (gst (((d0 : Nat) : Int) + 2)) := by have h9 := kB1 (d0 + 1) (by omega) (by omega); rw [show (((d0 + 1 : Nat) : Int) + 1) = (d0 : Int) + 2 by omega] at h9; exact h9
                    refine g_aload_n C 2 std_Y_lookBack_108 rfl ?_
                    refine g_iload_n C 1 std_Y_lookBack_109 rfl ?_
                    refine g_iload_n C 0 std_Y_lookBack_110 rfl ?_
                    refine g_V_v (wc := [(y0, .inr (2, [.ref t0, .int (iI total), .ref ys, .ref yk, .ref yc, .ref yd, .ref yw, .ref yx, .ref yb, .ref yu])), (yd, .inl (cI, aI cap GD)), (yx, .inl (cJ, aL cap GX)), (yb, .inl (cI, aI (6 * cap) gbe)), (t0, .inr (1, [.int (iI ((n : Nat) : Int)), .int (iI choices), .int (iI bars), .ref hs, .ref hc, .ref hf, .ref hg, .ref hb, .ref he, .ref hm])), (hs, .inl (cI, aI 12 fsz)), (hc, .inl (cI, aI 72 fco))]) (wr := [(ys, .inl (cI, aI 14 gst)), (yk, .inl (cI, aI cap gk)), (he, .inl (cI, aI 2 fle))]) (rest := []) C (c_lookBackFrom l dC dI cI cJ cZ y0 ys yk yc yd yw yx yb yu total t0 hs hc hf hg hb he hm ((n : Nat) : Int) choices bars cap GD GX gbe fsz fco ((d0 : Nat) : Int) y (kcap) (kT.1) (by omega) (by omega) (bk_be kT (by omega) kn (kLS.2.1 d0 (by omega)) hBn (by omega) (by omega) (by omega) ky.1 (by omega)) (kT.2.1)) (st_cV C kw_2_121 kw_2_118 kw_1_3 kw_2_120 kw_0_6 sth_Y_lookBackFrom ⟨Nat.le_of_ble_eq_true rfl, Nat.le_of_ble_eq_true rfl⟩) 0 rfl rfl rfl rfl (Nat.le_of_ble_eq_true rfl) std_Y_lookBack_111 ⟨Nat.le_of_ble_eq_true rfl, Nat.le_of_ble_eq_true rfl⟩ [0, 3, 4, 5, 6, 7, 8] [1, 2, 9] rfl rfl rfl rfl (by decide) (fun u5 h6 => ?_)
                    refine g_ws (ws' := [(ys, .inl (cI, aI 14 gst)), (yk, .inl (cI, aI cap gk)), (he, .inl (cI, aI 2 fle)), (y0, .inr (2, [.ref t0, .int (iI total), .ref ys, .ref yk, .ref yc, .ref yd, .ref yw, .ref yx, .ref yb, .ref yu])), (yd, .inl (cI, aI cap (uZ GD y (lbC gbe GX GD fco ((d0 : Nat) : Int) y (fsz ((d0 : Nat) : Int)).toNat)))), (yx, .inl (cJ, aL cap (uZ GX y (lbW gbe GX y (fsz ((d0 : Nat) : Int)).toNat)))), (yb, .inl (cI, aI (6 * cap) gbe)), (t0, .inr (1, [.int (iI ((n : Nat) : Int)), .int (iI choices), .int (iI bars), .ref hs, .ref hc, .ref hf, .ref hg, .ref hb, .ref he, .ref hm])), (hs, .inl (cI, aI 12 fsz)), (hc, .inl (cI, aI 72 fco))]) rfl ?_
                    refine g_iinc C (lv' := [(2, .int (iI (y + 1))), (1, .int (iI ((d0 : Nat) : Int))), (0, .ref y0)]) 0 std_Y_lookBack_114 rfl (by decide) rfl ?_
                    refine g_goto (tgt := 96) C std_Y_lookBack_117 (by decide) ?_
                    refine g_sub (ws' := [(y0, .inr (2, [.ref t0, .int (iI total), .ref ys, .ref yk, .ref yc, .ref yd, .ref yw, .ref yx, .ref yb, .ref yu])), (ys, .inl (cI, aI 14 gst)), (yk, .inl (cI, aI cap gk)), (yd, .inl (cI, aI cap (uZ GD y (lbC gbe GX GD fco ((d0 : Nat) : Int) y (fsz ((d0 : Nat) : Int)).toNat)))), (yx, .inl (cJ, aL cap (uZ GX y (lbW gbe GX y (fsz ((d0 : Nat) : Int)).toNat)))), (yb, .inl (cI, aI (6 * cap) gbe)), (t0, .inr (1, [.int (iI ((n : Nat) : Int)), .int (iI choices), .int (iI bars), .ref hs, .ref hc, .ref hf, .ref hg, .ref hb, .ref he, .ref hm])), (hs, .inl (cI, aI 12 fsz)), (hc, .inl (cI, aI 72 fco)), (he, .inl (cI, aI 2 fle))]) [3, 0, 1, 4, 5, 6, 7, 8, 9, 2] rfl rfl ?_
                    refine g_wide (k := 0) (n := 0) (Nat.le_of_ble_eq_true rfl) (Nat.le_of_ble_eq_true rfl) ?_
                    exact ih96 (y + 1) (uZ GX y (lbW gbe GX y (fsz ((d0 : Nat) : Int)).toNat)) (uZ GD y (lbC gbe GX GD fco ((d0 : Nat) : Int) y (fsz ((d0 : Nat) : Int)).toNat)) (by omega) (fun d d1 d2 => bk_keep (kB1 d d1 d2) (Or.inl (by have := ls_lt kLS (i := d0) (d := d) (by omega) d2; omega))) (bk_step kT (by omega) kn (kLS.2.1 d0 (by omega)) hBn (fun i i1 i2 => (hLd.2.1.1 i i1 i2).1) (by omega) ky.1 (by omega) kB2) (by omega)
              obtain ⟨nn0, hnn0⟩ : ∃ nn0 : Nat, (gst (((d0 : Nat) : Int) + 1) - (gst ((d0 : Nat) : Int))) < (nn0 : Int) := z_nat _
              exact L96 nn0 (gst ((d0 : Nat) : Int)) GX GD (by omega) (kB) (fun i i1 i2 => by omega) hnn0
        obtain ⟨nn0, hnn0⟩ : ∃ nn0 : Nat, ((((n : Nat) : Int) - 1) + 1) < (nn0 : Int) := z_nat _
        exact L85 nn0 (((n : Nat) : Int) - 1) GX GD (by omega) (bk_all1 kB (by omega) kt) hnn0
      · have hvx := vk_all (hLn.2.1.1 x kx.1 (by omega)).1
        refine g_aload_n C 1 std_Y_lookBack_21 rfl ?_
        refine g_get C (st_sub sti_Y) 0 rfl rfl 0 (by decide) (List.mem_cons_of_mem _ kw_1_83) rfl rfl std_Y_lookBack_22 ?_
        refine g_aload_n C 1 std_Y_lookBack_25 rfl ?_
        refine g_get C (st_sub sti_Y) 0 rfl rfl 3 (by decide) (List.mem_cons_of_mem _ kw_1_88) rfl rfl std_Y_lookBack_26 ?_
        refine g_iload_n C 0 std_Y_lookBack_29 rfl ?_
        refine g_iald C 2 0 rfl rfl (by omega) (by omega) (by omega) std_Y_lookBack_30 ?_
        refine g_SN_i (wc := []) (wr := [(y0, .inr (2, [.ref t0, .int (iI total), .ref ys, .ref yk, .ref yc, .ref yd, .ref yw, .ref yx, .ref yb, .ref yu])), (ys, .inl (cI, aI 14 gst)), (yk, .inl (cI, aI cap gk)), (yd, .inl (cI, aI cap GD)), (yx, .inl (cJ, aL cap GX)), (yb, .inl (cI, aI (6 * cap) gbe)), (t0, .inr (1, [.int (iI ((n : Nat) : Int)), .int (iI choices), .int (iI bars), .ref hs, .ref hc, .ref hf, .ref hg, .ref hb, .ref he, .ref hm])), (hs, .inl (cI, aI 12 fsz)), (hc, .inl (cI, aI 72 fco)), (he, .inl (cI, aI 2 fle))]) (rest := [.ref t0]) C (c_usedOfFirst l dC dI cI cJ cZ (gk x) (by omega)) (st_cSN C kw_2_86 (List.mem_of_getElem? (i := 5) rfl) kw_1_1 kw_2_85 sth_S_usedOfFirst ⟨Nat.le_of_ble_eq_true rfl, Nat.le_of_ble_eq_true rfl⟩) rfl rfl (Nat.le_of_ble_eq_true rfl) std_Y_lookBack_31 ⟨Nat.le_of_ble_eq_true rfl, Nat.le_of_ble_eq_true rfl⟩ [] [0, 1, 2, 3, 4, 5, 6, 7, 8, 9] rfl rfl rfl rfl (by decide) (fun r7 u8 h9 => ?_)
        subst h9
        refine g_ws (ws' := [(y0, .inr (2, [.ref t0, .int (iI total), .ref ys, .ref yk, .ref yc, .ref yd, .ref yw, .ref yx, .ref yb, .ref yu])), (ys, .inl (cI, aI 14 gst)), (yk, .inl (cI, aI cap gk)), (yd, .inl (cI, aI cap GD)), (yx, .inl (cJ, aL cap GX)), (yb, .inl (cI, aI (6 * cap) gbe)), (t0, .inr (1, [.int (iI ((n : Nat) : Int)), .int (iI choices), .int (iI bars), .ref hs, .ref hc, .ref hf, .ref hg, .ref hb, .ref he, .ref hm])), (hs, .inl (cI, aI 12 fsz)), (hc, .inl (cI, aI 72 fco)), (he, .inl (cI, aI 2 fle))]) rfl ?_
        refine g_aload_n C 1 std_Y_lookBack_34 rfl ?_
        refine g_get C (st_sub sti_Y) 0 rfl rfl 3 (by decide) (List.mem_cons_of_mem _ kw_1_88) rfl rfl std_Y_lookBack_35 ?_
        refine g_iload_n C 0 std_Y_lookBack_38 rfl ?_
        refine g_iald C 2 0 rfl rfl (by omega) (by omega) (by omega) std_Y_lookBack_39 ?_
        refine g_SN_i (wc := []) (wr := [(y0, .inr (2, [.ref t0, .int (iI total), .ref ys, .ref yk, .ref yc, .ref yd, .ref yw, .ref yx, .ref yb, .ref yu])), (ys, .inl (cI, aI 14 gst)), (yk, .inl (cI, aI cap gk)), (yd, .inl (cI, aI cap GD)), (yx, .inl (cJ, aL cap GX)), (yb, .inl (cI, aI (6 * cap) gbe)), (t0, .inr (1, [.int (iI ((n : Nat) : Int)), .int (iI choices), .int (iI bars), .ref hs, .ref hc, .ref hf, .ref hg, .ref hb, .ref he, .ref hm])), (hs, .inl (cI, aI 12 fsz)), (hc, .inl (cI, aI 72 fco)), (he, .inl (cI, aI 2 fle))]) (rest := [.int (iI ((gk x) / 512)), .ref t0]) C (c_usedOfSecond l dC dI cI cJ cZ (gk x) (by omega)) (st_cSN C kw_2_89 (List.mem_of_getElem? (i := 6) rfl) kw_1_1 kw_2_88 sth_S_usedOfSecond ⟨Nat.le_of_ble_eq_true rfl, Nat.le_of_ble_eq_true rfl⟩) rfl rfl (Nat.le_of_ble_eq_true rfl) std_Y_lookBack_40 ⟨Nat.le_of_ble_eq_true rfl, Nat.le_of_ble_eq_true rfl⟩ [] [0, 1, 2, 3, 4, 5, 6, 7, 8, 9] rfl rfl rfl rfl (by decide) (fun r10 u11 h12 => ?_)
        subst h12
        refine g_ws (ws' := [(y0, .inr (2, [.ref t0, .int (iI total), .ref ys, .ref yk, .ref yc, .ref yd, .ref yw, .ref yx, .ref yb, .ref yu])), (ys, .inl (cI, aI 14 gst)), (yk, .inl (cI, aI cap gk)), (yd, .inl (cI, aI cap GD)), (yx, .inl (cJ, aL cap GX)), (yb, .inl (cI, aI (6 * cap) gbe)), (t0, .inr (1, [.int (iI ((n : Nat) : Int)), .int (iI choices), .int (iI bars), .ref hs, .ref hc, .ref hf, .ref hg, .ref hb, .ref he, .ref hm])), (hs, .inl (cI, aI 12 fsz)), (hc, .inl (cI, aI 72 fco)), (he, .inl (cI, aI 2 fle))]) rfl ?_
        refine g_V_i (wc := [(t0, .inr (1, [.int (iI ((n : Nat) : Int)), .int (iI choices), .int (iI bars), .ref hs, .ref hc, .ref hf, .ref hg, .ref hb, .ref he, .ref hm])), (he, .inl (cI, aI 2 fle))]) (wr := [(y0, .inr (2, [.ref t0, .int (iI total), .ref ys, .ref yk, .ref yc, .ref yd, .ref yw, .ref yx, .ref yb, .ref yu])), (ys, .inl (cI, aI 14 gst)), (yk, .inl (cI, aI cap gk)), (yd, .inl (cI, aI cap GD)), (yx, .inl (cJ, aL cap GX)), (yb, .inl (cI, aI (6 * cap) gbe)), (hs, .inl (cI, aI 12 fsz)), (hc, .inl (cI, aI 72 fco))]) (rest := []) C (c_isEnough l dC dI cI cJ cZ t0 hs hc hf hg hb he hm ((n : Nat) : Int) choices bars fle ((gk x) / 512) (((gk x) / 8) % 64) (kle) (by omega) (by omega)) (st_cV C kw_2_117 kw_2_114 kw_1_2 kw_2_115 kw_2_116 sth_T_isEnough ⟨Nat.le_of_ble_eq_true rfl, Nat.le_of_ble_eq_true rfl⟩) 0 rfl rfl rfl rfl (Nat.le_of_ble_eq_true rfl) std_Y_lookBack_43 ⟨Nat.le_of_ble_eq_true rfl, Nat.le_of_ble_eq_true rfl⟩ [6, 9] [0, 1, 2, 3, 4, 5, 7, 8] rfl rfl rfl rfl (by decide) (fun r13 u14 h15 => ?_)
        subst h15
        refine g_ws (ws' := [(y0, .inr (2, [.ref t0, .int (iI total), .ref ys, .ref yk, .ref yc, .ref yd, .ref yw, .ref yx, .ref yb, .ref yu])), (ys, .inl (cI, aI 14 gst)), (yk, .inl (cI, aI cap gk)), (yd, .inl (cI, aI cap GD)), (yx, .inl (cJ, aL cap GX)), (yb, .inl (cI, aI (6 * cap) gbe)), (hs, .inl (cI, aI 12 fsz)), (hc, .inl (cI, aI 72 fco)), (t0, .inr (1, [.int (iI ((n : Nat) : Int)), .int (iI choices), .int (iI bars), .ref hs, .ref hc, .ref hf, .ref hg, .ref hb, .ref he, .ref hm])), (he, .inl (cI, aI 2 fle))]) rfl ?_
        refine g_istore_n C (lv' := [(2, .int (iI (bI (fle 0 ≤ ((gk x) / 512) ∧ fle 1 ≤ (((gk x) / 8) % 64))))), (1, .int (iI x)), (0, .ref y0)]) std_Y_lookBack_46 (by decide) rfl ?_
        refine g_aload_n C 2 std_Y_lookBack_47 rfl ?_
        refine g_get C (st_sub sti_Y) 0 rfl rfl 7 (by decide) (List.mem_cons_of_mem _ kw_1_96) rfl rfl std_Y_lookBack_48 ?_
        refine g_iload_n C 1 std_Y_lookBack_51 rfl ?_
        refine g_iload_n C 0 std_Y_lookBack_52 rfl ?_
        refine g_ifeq_b (tgt := 60) C std_Y_lookBack_53 (by decide) (fun c16 => ?_) (fun c16 => ?_)
        · have hen := c16
          refine g_lconst C (z := 0) std_Y_lookBack_60 (by decide) ?_
          refine g_last C (ws' := [(y0, .inr (2, [.ref t0, .int (iI total), .ref ys, .ref yk, .ref yc, .ref yd, .ref yw, .ref yx, .ref yb, .ref yu])), (ys, .inl (cI, aI 14 gst)), (yk, .inl (cI, aI cap gk)), (yd, .inl (cI, aI cap GD)), (yx, .inl (cJ, aL cap (uZ GX x 0))), (yb, .inl (cI, aI (6 * cap) gbe)), (hs, .inl (cI, aI 12 fsz)), (hc, .inl (cI, aI 72 fco)), (t0, .inr (1, [.int (iI ((n : Nat) : Int)), .int (iI choices), .int (iI bars), .ref hs, .ref hc, .ref hf, .ref hg, .ref hb, .ref he, .ref hm])), (he, .inl (cI, aI 2 fle))]) 4 1 rfl rfl (by omega) (by omega) (by omega) std_Y_lookBack_61 rfl ?_
          refine g_aload_n C 2 std_Y_lookBack_62 rfl ?_
          refine g_get C (st_sub sti_Y) 0 rfl rfl 5 (by decide) (List.mem_cons_of_mem _ kw_1_92) rfl rfl std_Y_lookBack_63 ?_
          refine g_iload_n C 1 std_Y_lookBack_66 rfl ?_
          refine g_iconst C std_Y_lookBack_67 ?_
          refine g_iast C (ws' := [(y0, .inr (2, [.ref t0, .int (iI total), .ref ys, .ref yk, .ref yc, .ref yd, .ref yw, .ref yx, .ref yb, .ref yu])), (ys, .inl (cI, aI 14 gst)), (yk, .inl (cI, aI cap gk)), (yd, .inl (cI, aI cap (uZ GD x 0))), (yx, .inl (cJ, aL cap (uZ GX x 0))), (yb, .inl (cI, aI (6 * cap) gbe)), (hs, .inl (cI, aI 12 fsz)), (hc, .inl (cI, aI 72 fco)), (t0, .inr (1, [.int (iI ((n : Nat) : Int)), .int (iI choices), .int (iI bars), .ref hs, .ref hc, .ref hf, .ref hg, .ref hb, .ref he, .ref hm])), (he, .inl (cI, aI 2 fle))]) 3 0 rfl rfl (by omega) (by omega) (by omega) std_Y_lookBack_68 rfl ?_
          refine g_iinc C (lv' := [(1, .int (iI (x + 1))), (2, .int (iI (bI (fle 0 ≤ ((gk x) / 512) ∧ fle 1 ≤ (((gk x) / 8) % 64))))), (0, .ref y0)]) 1 std_Y_lookBack_69 rfl (by decide) rfl ?_
          refine g_goto (tgt := 13) C std_Y_lookBack_72 (by decide) ?_
          refine g_sub (ws' := [(y0, .inr (2, [.ref t0, .int (iI total), .ref ys, .ref yk, .ref yc, .ref yd, .ref yw, .ref yx, .ref yb, .ref yu])), (ys, .inl (cI, aI 14 gst)), (yk, .inl (cI, aI cap gk)), (yd, .inl (cI, aI cap (uZ GD x 0))), (yx, .inl (cJ, aL cap (uZ GX x 0))), (yb, .inl (cI, aI (6 * cap) gbe)), (t0, .inr (1, [.int (iI ((n : Nat) : Int)), .int (iI choices), .int (iI bars), .ref hs, .ref hc, .ref hf, .ref hg, .ref hb, .ref he, .ref hm])), (hs, .inl (cI, aI 12 fsz)), (hc, .inl (cI, aI 72 fco)), (he, .inl (cI, aI 2 fle))]) [0, 1, 2, 3, 4, 5, 8, 6, 7, 9] rfl rfl ?_
          refine g_lv (lv' := [(1, .int (iI (x + 1))), (0, .ref y0)]) [0, 2] rfl ?_
          refine g_wide (k := 0) (n := 0) (Nat.le_of_ble_eq_true rfl) (Nat.le_of_ble_eq_true rfl) ?_
          exact ih13 (x + 1) (uZ GX x 0) (uZ GD x 0) (by omega) (bk_last kB (wf0_f hen)) (by omega)
        · have hen := c16
          refine g_lconst C (z := 1) std_Y_lookBack_56 (by decide) ?_
          refine g_goto (tgt := 61) C std_Y_lookBack_57 (by decide) ?_
          refine g_last C (ws' := [(y0, .inr (2, [.ref t0, .int (iI total), .ref ys, .ref yk, .ref yc, .ref yd, .ref yw, .ref yx, .ref yb, .ref yu])), (ys, .inl (cI, aI 14 gst)), (yk, .inl (cI, aI cap gk)), (yd, .inl (cI, aI cap GD)), (yx, .inl (cJ, aL cap (uZ GX x 1))), (yb, .inl (cI, aI (6 * cap) gbe)), (hs, .inl (cI, aI 12 fsz)), (hc, .inl (cI, aI 72 fco)), (t0, .inr (1, [.int (iI ((n : Nat) : Int)), .int (iI choices), .int (iI bars), .ref hs, .ref hc, .ref hf, .ref hg, .ref hb, .ref he, .ref hm])), (he, .inl (cI, aI 2 fle))]) 4 1 rfl rfl (by omega) (by omega) (by omega) std_Y_lookBack_61 rfl ?_
          refine g_aload_n C 2 std_Y_lookBack_62 rfl ?_
          refine g_get C (st_sub sti_Y) 0 rfl rfl 5 (by decide) (List.mem_cons_of_mem _ kw_1_92) rfl rfl std_Y_lookBack_63 ?_
          refine g_iload_n C 1 std_Y_lookBack_66 rfl ?_
          refine g_iconst C std_Y_lookBack_67 ?_
          refine g_iast C (ws' := [(y0, .inr (2, [.ref t0, .int (iI total), .ref ys, .ref yk, .ref yc, .ref yd, .ref yw, .ref yx, .ref yb, .ref yu])), (ys, .inl (cI, aI 14 gst)), (yk, .inl (cI, aI cap gk)), (yd, .inl (cI, aI cap (uZ GD x 0))), (yx, .inl (cJ, aL cap (uZ GX x 1))), (yb, .inl (cI, aI (6 * cap) gbe)), (hs, .inl (cI, aI 12 fsz)), (hc, .inl (cI, aI 72 fco)), (t0, .inr (1, [.int (iI ((n : Nat) : Int)), .int (iI choices), .int (iI bars), .ref hs, .ref hc, .ref hf, .ref hg, .ref hb, .ref he, .ref hm])), (he, .inl (cI, aI 2 fle))]) 3 0 rfl rfl (by omega) (by omega) (by omega) std_Y_lookBack_68 rfl ?_
          refine g_iinc C (lv' := [(1, .int (iI (x + 1))), (2, .int (iI (bI (fle 0 ≤ ((gk x) / 512) ∧ fle 1 ≤ (((gk x) / 8) % 64))))), (0, .ref y0)]) 1 std_Y_lookBack_69 rfl (by decide) rfl ?_
          refine g_goto (tgt := 13) C std_Y_lookBack_72 (by decide) ?_
          refine g_sub (ws' := [(y0, .inr (2, [.ref t0, .int (iI total), .ref ys, .ref yk, .ref yc, .ref yd, .ref yw, .ref yx, .ref yb, .ref yu])), (ys, .inl (cI, aI 14 gst)), (yk, .inl (cI, aI cap gk)), (yd, .inl (cI, aI cap (uZ GD x 0))), (yx, .inl (cJ, aL cap (uZ GX x 1))), (yb, .inl (cI, aI (6 * cap) gbe)), (t0, .inr (1, [.int (iI ((n : Nat) : Int)), .int (iI choices), .int (iI bars), .ref hs, .ref hc, .ref hf, .ref hg, .ref hb, .ref he, .ref hm])), (hs, .inl (cI, aI 12 fsz)), (hc, .inl (cI, aI 72 fco)), (he, .inl (cI, aI 2 fle))]) [0, 1, 2, 3, 4, 5, 8, 6, 7, 9] rfl rfl ?_
          refine g_lv (lv' := [(1, .int (iI (x + 1))), (0, .ref y0)]) [0, 2] rfl ?_
          refine g_wide (k := 0) (n := 0) (Nat.le_of_ble_eq_true rfl) (Nat.le_of_ble_eq_true rfl) ?_
          exact ih13 (x + 1) (uZ GX x 1) (uZ GD x 0) (by omega) (bk_last kB (wf0_t hen)) (by omega)
  obtain ⟨nn0, hnn0⟩ : ∃ nn0 : Nat, (total - (gst ((n : Nat) : Int))) < (nn0 : Int) := z_nat _
  exact L13 nn0 (gst ((n : Nat) : Int)) gwf gcf (by omega) (fun i i1 i2 => by omega) hnn0
end
section
/-! ONE NODE AS GOOD AS ANOTHER -/
def AGp (fle gk gct : Int → Int) (x y : Int) : Prop := gk x % 8 = gk y % 8 ∧ gct x ≤ gct y ∧ ((0 < fle 0 ∧ gk x / 512 = gk y / 512) ∨ (fle 0 ≤ 0 ∧ gk x / 512 ≤ gk y / 512)) ∧ ((0 < fle 1 ∧ gk x / 8 % 64 = gk y / 8 % 64) ∨ (fle 1 ≤ 0 ∧ gk x / 8 % 64 ≤ gk y / 8 % 64))
def FDp (fle gk gct : Int → Int) (s b z : Int) : Prop := (z = -1000000 ∧ ∀ j, s ≤ j → j < s + b → ¬ AGp fle gk gct j (s + b)) ∨ ((0 ≤ z ∧ z < b) ∧ AGp fle gk gct (s + z) (s + b) ∧ ∀ j, s ≤ j → j < s + z → ¬ AGp fle gk gct j (s + b))
theorem fd_not {fle gk gct : Int → Int} {s b x : Int} (h : ∀ j, s ≤ j → j < x → ¬ AGp fle gk gct j (s + b)) (hx : ¬ AGp fle gk gct x (s + b)) : ∀ j, s ≤ j → j < x + 1 → ¬ AGp fle gk gct j (s + b) := by
  intro j h1 h2
  by_cases q : j = x
  · subst q; exact hx
  · exact h j h1 (by omega)
theorem fd_yes {fle gk gct : Int → Int} {s b x : Int} (h : ∀ j, s ≤ j → j < x → ¬ AGp fle gk gct j (s + b)) (h1 : s ≤ x) (h2 : x < s + b) (hx : AGp fle gk gct x (s + b)) : FDp fle gk gct s b (x - s) := by
  refine Or.inr ⟨by omega, ?_, fun j j1 j2 => h j j1 (by omega)⟩
  rw [show s + (x - s) = x by omega]
  exact hx
end
section
/-! Layers.firstThatDominates -/
abbrev sty_Y_firstThatDominates : MethodName := ⟨"StateTables$Layers", "firstThatDominates", "(II)I"⟩
abbrev stc_Y_firstThatDominates : ByteArray := prog_3_method_16_code
theorem sth_Y_firstThatDominates : (sty_Y_firstThatDominates).cls ≠ "java/lang/invoke/MethodHandle" ∧ (sty_Y_firstThatDominates).cls ≠ "java/lang/invoke/VarHandle" ∧ (parseMethodDescriptor (sty_Y_firstThatDominates).desc).map (fun d => d.parameters.length) = some 2 := by decide +kernel
theorem std_Y_firstThatDominates_0 : decode stc_Y_firstThatDominates 0 = .ok (.aload_n 0, 1) := by decide +kernel
theorem std_Y_firstThatDominates_1 : decode stc_Y_firstThatDominates 1 = .ok (.getfield 9, 3) := by decide +kernel
theorem std_Y_firstThatDominates_4 : decode stc_Y_firstThatDominates 4 = .ok (.iload_n 1, 1) := by decide +kernel
theorem std_Y_firstThatDominates_5 : decode stc_Y_firstThatDominates 5 = .ok (.iaload, 1) := by decide +kernel
theorem std_Y_firstThatDominates_6 : decode stc_Y_firstThatDominates 6 = .ok (.iload_n 2, 1) := by decide +kernel
theorem std_Y_firstThatDominates_7 : decode stc_Y_firstThatDominates 7 = .ok (.iadd, 1) := by decide +kernel
theorem std_Y_firstThatDominates_8 : decode stc_Y_firstThatDominates 8 = .ok (.istore_n 3, 1) := by decide +kernel
theorem std_Y_firstThatDominates_9 : decode stc_Y_firstThatDominates 9 = .ok (.aload_n 0, 1) := by decide +kernel
theorem std_Y_firstThatDominates_10 : decode stc_Y_firstThatDominates 10 = .ok (.getfield 9, 3) := by decide +kernel
theorem std_Y_firstThatDominates_13 : decode stc_Y_firstThatDominates 13 = .ok (.iload_n 1, 1) := by decide +kernel
theorem std_Y_firstThatDominates_14 : decode stc_Y_firstThatDominates 14 = .ok (.iaload, 1) := by decide +kernel
theorem std_Y_firstThatDominates_15 : decode stc_Y_firstThatDominates 15 = .ok (.istore 4, 2) := by decide +kernel
theorem std_Y_firstThatDominates_17 : decode stc_Y_firstThatDominates 17 = .ok (.iload 4, 2) := by decide +kernel
theorem std_Y_firstThatDominates_19 : decode stc_Y_firstThatDominates 19 = .ok (.iload_n 3, 1) := by decide +kernel
theorem std_Y_firstThatDominates_20 : decode stc_Y_firstThatDominates 20 = .ok (.if_icmp .ge 29, 3) := by decide +kernel
theorem std_Y_firstThatDominates_49 : decode stc_Y_firstThatDominates 49 = .ok (.ldc 55, 2) := by decide +kernel
theorem std_Y_firstThatDominates_51 : decode stc_Y_firstThatDominates 51 = .ok (.ireturn, 1) := by decide +kernel
theorem std_Y_firstThatDominates_23 : decode stc_Y_firstThatDominates 23 = .ok (.aload_n 0, 1) := by decide +kernel
theorem std_Y_firstThatDominates_24 : decode stc_Y_firstThatDominates 24 = .ok (.iload 4, 2) := by decide +kernel
theorem std_Y_firstThatDominates_26 : decode stc_Y_firstThatDominates 26 = .ok (.iload_n 3, 1) := by decide +kernel
theorem std_Y_firstThatDominates_27 : decode stc_Y_firstThatDominates 27 = .ok (.invokevirtual 141, 3) := by decide +kernel
theorem kw_2_211 : Cond.code sty_Y_isAsGood stc_Y_isAsGood 3 (some .boolean) ∈ stGW := st_t2 (List.mem_of_getElem? (i := 211) (by decide +kernel)) (by decide +kernel)
theorem kw_2_208 : Cond.methodLink "StateTables$Layers" 141 (sty_Y_isAsGood) ∈ stGW := st_t2 (List.mem_of_getElem? (i := 208) (by decide +kernel)) (by decide +kernel)
theorem kw_2_210 : Cond.instanceMethod (sty_Y_isAsGood) ∈ stGW := st_t2 (List.mem_of_getElem? (i := 210) (by decide +kernel)) (by decide +kernel)
theorem kw_0_10 : Cond.selects "StateTables$Layers" (sty_Y_isAsGood) (sty_Y_isAsGood) ∈ stGW := st_t0 (List.mem_of_getElem? (i := 10) (by decide +kernel)) (by decide +kernel)
theorem std_Y_firstThatDominates_30 : decode stc_Y_firstThatDominates 30 = .ok (.ifCond .eq 13, 3) := by decide +kernel
theorem std_Y_firstThatDominates_43 : decode stc_Y_firstThatDominates 43 = .ok (.iinc 4 1, 3) := by decide +kernel
theorem std_Y_firstThatDominates_46 : decode stc_Y_firstThatDominates 46 = .ok (.goto (-29), 3) := by decide +kernel
theorem std_Y_firstThatDominates_33 : decode stc_Y_firstThatDominates 33 = .ok (.iload 4, 2) := by decide +kernel
theorem std_Y_firstThatDominates_35 : decode stc_Y_firstThatDominates 35 = .ok (.aload_n 0, 1) := by decide +kernel
theorem std_Y_firstThatDominates_36 : decode stc_Y_firstThatDominates 36 = .ok (.getfield 9, 3) := by decide +kernel
theorem std_Y_firstThatDominates_39 : decode stc_Y_firstThatDominates 39 = .ok (.iload_n 1, 1) := by decide +kernel
theorem std_Y_firstThatDominates_40 : decode stc_Y_firstThatDominates 40 = .ok (.iaload, 1) := by decide +kernel
theorem std_Y_firstThatDominates_41 : decode stc_Y_firstThatDominates 41 = .ok (.isub, 1) := by decide +kernel
theorem std_Y_firstThatDominates_42 : decode stc_Y_firstThatDominates 42 = .ok (.ireturn, 1) := by decide +kernel
set_option maxHeartbeats 4000000 in
set_option maxRecDepth 100000 in
theorem c_firstThatDominates (l : Launch) (dC : Nat → ClassId) (dI : Nat → Nat → Nat) (cI cJ cZ : ClassId) (y0 : Nat) (ys : Nat) (yk : Nat) (yc : Nat) (yd : Nat) (yw : Nat) (yx : Nat) (yb : Nat) (yu : Nat) (total : Int) (t0 : Nat) (hs : Nat) (hc : Nat) (hf : Nat) (hg : Nat) (hb : Nat) (he : Nat) (hm : Nat) (steps : Int) (choices : Int) (bars : Int) (cap : Nat) (gst : Int → Int) (gk : Int → Int) (gct : Int → Int) (fle : Int → Int) (a : Int) (b : Int) (kcap : cap ≤ 4801) (kgst : ∀ j, 0 ≤ j → j < 14 → 0 ≤ gst j ∧ gst j ≤ cap) (kle : ∀ j, 0 ≤ j → j < 2 → 0 ≤ fle j ∧ fle j ≤ 40) (ka : 0 ≤ a ∧ a < 13) (kb : 0 ≤ b ∧ gst a + b < gst (a + 1)) (kk : ∀ i, gst a ≤ i → i < gst (a + 1) → (0 ≤ gk i ∧ gk i < 32768) ∧ -100000 ≤ gct i ∧ gct i ≤ 100000) : ∀ sz, Met l sty_Y_firstThatDominates (Cond.code sty_Y_firstThatDominates stc_Y_firstThatDominates 5 (some .int) :: stGW) ({ frames := 2, cells := 0, slots := 0, locals := 45 } : Room) (va_Pc [.ref y0, .int (iI a), .int (iI b)] (zPre (dC, dI) stCl [(cI, .int), (cJ, .long), (cZ, .boolean)] st_nw [(y0, .inr (2, [.ref t0, .int (iI total), .ref ys, .ref yk, .ref yc, .ref yd, .ref yw, .ref yx, .ref yb, .ref yu])), (ys, .inl (cI, aI 14 gst)), (yk, .inl (cI, aI cap gk)), (yc, .inl (cI, aI cap gct)), (t0, .inr (1, [.int (iI steps), .int (iI choices), .int (iI bars), .ref hs, .ref hc, .ref hf, .ref hg, .ref hb, .ref he, .ref hm])), (he, .inl (cI, aI 2 fle))] sz)) (va_Qi (fun (r : Int32) (z : Int) => r = iI z ∧ FDp fle gk gct (gst a) b z) (zPost (dC, dI) stCl [(cI, .int), (cJ, .long), (cZ, .boolean)] [(y0, .inr (2, [.ref t0, .int (iI total), .ref ys, .ref yk, .ref yc, .ref yd, .ref yw, .ref yx, .ref yb, .ref yu])), (ys, .inl (cI, aI 14 gst)), (yk, .inl (cI, aI cap gk)), (yc, .inl (cI, aI cap gct)), (t0, .inr (1, [.int (iI steps), .int (iI choices), .int (iI bars), .ref hs, .ref hc, .ref hf, .ref hg, .ref hb, .ref he, .ref hm])), (he, .inl (cI, aI 2 fle))] sz (fun _ : Int => [(y0, .inr (2, [.ref t0, .int (iI total), .ref ys, .ref yk, .ref yc, .ref yd, .ref yw, .ref yx, .ref yb, .ref yu])), (ys, .inl (cI, aI 14 gst)), (yk, .inl (cI, aI cap gk)), (yc, .inl (cI, aI cap gct)), (t0, .inr (1, [.int (iI steps), .int (iI choices), .int (iI bars), .ref hs, .ref hc, .ref hf, .ref hg, .ref hb, .ref he, .ref hm])), (he, .inl (cI, aI 2 fle))])) (va_A [(y0, .inr (2, [.ref t0, .int (iI total), .ref ys, .ref yk, .ref yc, .ref yd, .ref yw, .ref yx, .ref yb, .ref yu])), (ys, .inl (cI, aI 14 gst)), (yk, .inl (cI, aI cap gk)), (yc, .inl (cI, aI cap gct)), (t0, .inr (1, [.int (iI steps), .int (iI choices), .int (iI bars), .ref hs, .ref hc, .ref hf, .ref hg, .ref hb, .ref he, .ref hm])), (he, .inl (cI, aI 2 fle))] sz)) 0 0 (va_A [(y0, .inr (2, [.ref t0, .int (iI total), .ref ys, .ref yk, .ref yc, .ref yd, .ref yw, .ref yx, .ref yb, .ref yu])), (ys, .inl (cI, aI 14 gst)), (yk, .inl (cI, aI cap gk)), (yc, .inl (cI, aI cap gct)), (t0, .inr (1, [.int (iI steps), .int (iI choices), .int (iI bars), .ref hs, .ref hc, .ref hf, .ref hg, .ref hb, .ref he, .ref hm])), (he, .inl (cI, aI 2 fle))] sz) := by
  refine met_i (by decide) rfl (Nat.le_of_ble_eq_true rfl) ?_
  intro p e s m below meth c A Q C hmn hret
  have hq0 := kgst a (by omega) (by omega)
  have hq1 := kgst (a + 1) (by omega) (by omega)
  have hq2 := kk (gst a + b) (by omega) (by omega)
  refine g_aload_n C 0 std_Y_firstThatDominates_0 rfl ?_
  refine g_get C (st_sub sti_Y) 0 rfl rfl 2 (by decide) (List.mem_cons_of_mem _ kw_1_86) rfl rfl std_Y_firstThatDominates_1 ?_
  refine g_iload_n C 1 std_Y_firstThatDominates_4 rfl ?_
  refine g_iald C 1 0 rfl rfl (by omega) (by omega) (by omega) std_Y_firstThatDominates_5 ?_
  refine g_iload_n C 2 std_Y_firstThatDominates_6 rfl ?_
  refine g_iadd C std_Y_firstThatDominates_7 ?_
  refine g_istore_n C (lv' := [(3, .int (iI ((gst a) + b))), (0, .ref y0), (1, .int (iI a)), (2, .int (iI b))]) std_Y_firstThatDominates_8 (by decide) rfl ?_
  refine g_aload_n C 1 std_Y_firstThatDominates_9 rfl ?_
  refine g_get C (st_sub sti_Y) 0 rfl rfl 2 (by decide) (List.mem_cons_of_mem _ kw_1_86) rfl rfl std_Y_firstThatDominates_10 ?_
  refine g_iload_n C 2 std_Y_firstThatDominates_13 rfl ?_
  refine g_iald C 1 0 rfl rfl (by omega) (by omega) (by omega) std_Y_firstThatDominates_14 ?_
  refine g_istore C (lv' := [(4, .int (iI (gst a))), (3, .int (iI ((gst a) + b))), (0, .ref y0), (1, .int (iI a)), (2, .int (iI b))]) std_Y_firstThatDominates_15 (by decide) rfl ?_
  have L17 : ∀ (nn17 : Nat) (x : Int), (gst a ≤ x ∧ x ≤ gst a + b) → (∀ j, gst a ≤ j → j < x → ¬ AGp fle gk gct j (gst a + b)) → (gst a + b - x) < (nn17 : Int) → G p l e ({ frames := 2, cells := 0, slots := 0, locals := 45 } : Room) s m ([.ref y0, .int (iI a), .int (iI b)] : List Value).toArray below meth c (dC, dI) stCl 5 A 0 0 Q [(y0, .inr (2, [.ref t0, .int (iI total), .ref ys, .ref yk, .ref yc, .ref yd, .ref yw, .ref yx, .ref yb, .ref yu])), (ys, .inl (cI, aI 14 gst)), (yk, .inl (cI, aI cap gk)), (yc, .inl (cI, aI cap gct)), (t0, .inr (1, [.int (iI steps), .int (iI choices), .int (iI bars), .ref hs, .ref hc, .ref hf, .ref hg, .ref hb, .ref he, .ref hm])), (he, .inl (cI, aI 2 fle))] 17 [(4, .int (iI x)), (3, .int (iI ((gst a) + b))), (0, .ref y0), (1, .int (iI a)), (2, .int (iI b))] [] := by
    intro nn17
    induction nn17 with
    | zero =>
      intro x kx kJ hnn17
      exact absurd hnn17 (by omega)
    | succ nn17 ih17 =>
      intro x kx kJ hnn17
      refine g_iload C 0 std_Y_firstThatDominates_17 rfl ?_
      refine g_iload_n C 1 std_Y_firstThatDominates_19 rfl ?_
      refine g_icmp_ge (tgt := 49) C std_Y_firstThatDominates_20 (by decide) ⟨by omega, by omega⟩ ⟨by omega, by omega⟩ (fun c1 => ?_) (fun c1 => ?_)
      · refine g_ldc C (z := (-1000000)) (List.mem_cons_of_mem _ kw_2_151) (by decide) std_Y_firstThatDominates_49 ?_
        exact hret _ _ _ (-1000000) (⟨rfl, Or.inl ⟨rfl, fun j j1 j2 => kJ j j1 (by omega)⟩⟩) std_Y_firstThatDominates_51
      · have hq3 := kk x (by omega) (by omega)
        refine g_aload_n C 2 std_Y_firstThatDominates_23 rfl ?_
        refine g_iload C 0 std_Y_firstThatDominates_24 rfl ?_
        refine g_iload_n C 1 std_Y_firstThatDominates_26 rfl ?_
        refine g_V_i (wc := [(y0, .inr (2, [.ref t0, .int (iI total), .ref ys, .ref yk, .ref yc, .ref yd, .ref yw, .ref yx, .ref yb, .ref yu])), (t0, .inr (1, [.int (iI steps), .int (iI choices), .int (iI bars), .ref hs, .ref hc, .ref hf, .ref hg, .ref hb, .ref he, .ref hm])), (he, .inl (cI, aI 2 fle)), (yk, .inl (cI, aI cap gk)), (yc, .inl (cI, aI cap gct))]) (wr := [(ys, .inl (cI, aI 14 gst))]) (rest := []) C (c_isAsGood l dC dI cI cJ cZ y0 ys yk yc yd yw yx yb yu total t0 hs hc hf hg hb he hm steps choices bars cap fle gk gct x ((gst a) + b) (kle) (kcap) (by omega) (by omega) (by omega)) (st_cV C kw_2_211 kw_2_208 kw_1_3 kw_2_210 kw_0_10 sth_Y_isAsGood ⟨Nat.le_of_ble_eq_true rfl, Nat.le_of_ble_eq_true rfl⟩) 0 rfl rfl rfl rfl (Nat.le_of_ble_eq_true rfl) std_Y_firstThatDominates_27 ⟨Nat.le_of_ble_eq_true rfl, Nat.le_of_ble_eq_true rfl⟩ [0, 4, 5, 2, 3] [1] rfl rfl rfl rfl (by decide) (fun r2 u3 h4 => ?_)
        subst h4
        refine g_ws (ws' := [(ys, .inl (cI, aI 14 gst)), (y0, .inr (2, [.ref t0, .int (iI total), .ref ys, .ref yk, .ref yc, .ref yd, .ref yw, .ref yx, .ref yb, .ref yu])), (t0, .inr (1, [.int (iI steps), .int (iI choices), .int (iI bars), .ref hs, .ref hc, .ref hf, .ref hg, .ref hb, .ref he, .ref hm])), (he, .inl (cI, aI 2 fle)), (yk, .inl (cI, aI cap gk)), (yc, .inl (cI, aI cap gct))]) rfl ?_
        refine g_ifeq_b (tgt := 43) C std_Y_firstThatDominates_30 (by decide) (fun c5 => ?_) (fun c5 => ?_)
        · refine g_iinc C (lv' := [(4, .int (iI (x + 1))), (3, .int (iI ((gst a) + b))), (0, .ref y0), (1, .int (iI a)), (2, .int (iI b))]) 0 std_Y_firstThatDominates_43 rfl (by decide) rfl ?_
          refine g_goto (tgt := 17) C std_Y_firstThatDominates_46 (by decide) ?_
          refine g_sub (ws' := [(y0, .inr (2, [.ref t0, .int (iI total), .ref ys, .ref yk, .ref yc, .ref yd, .ref yw, .ref yx, .ref yb, .ref yu])), (ys, .inl (cI, aI 14 gst)), (yk, .inl (cI, aI cap gk)), (yc, .inl (cI, aI cap gct)), (t0, .inr (1, [.int (iI steps), .int (iI choices), .int (iI bars), .ref hs, .ref hc, .ref hf, .ref hg, .ref hb, .ref he, .ref hm])), (he, .inl (cI, aI 2 fle))]) [1, 0, 4, 5, 2, 3] rfl rfl ?_
          refine g_wide (k := 0) (n := 0) (Nat.le_of_ble_eq_true rfl) (Nat.le_of_ble_eq_true rfl) ?_
          exact ih17 (x + 1) (by omega) (fd_not kJ c5) (by omega)
        · refine g_iload C 0 std_Y_firstThatDominates_33 rfl ?_
          refine g_aload_n C 2 std_Y_firstThatDominates_35 rfl ?_
          refine g_get C (st_sub sti_Y) 1 rfl rfl 2 (by decide) (List.mem_cons_of_mem _ kw_1_86) rfl rfl std_Y_firstThatDominates_36 ?_
          refine g_iload_n C 3 std_Y_firstThatDominates_39 rfl ?_
          refine g_iald C 0 0 rfl rfl (by omega) (by omega) (by omega) std_Y_firstThatDominates_40 ?_
          refine g_isub C std_Y_firstThatDominates_41 ?_
          refine g_sub (ws' := [(y0, .inr (2, [.ref t0, .int (iI total), .ref ys, .ref yk, .ref yc, .ref yd, .ref yw, .ref yx, .ref yb, .ref yu])), (ys, .inl (cI, aI 14 gst)), (yk, .inl (cI, aI cap gk)), (yc, .inl (cI, aI cap gct)), (t0, .inr (1, [.int (iI steps), .int (iI choices), .int (iI bars), .ref hs, .ref hc, .ref hf, .ref hg, .ref hb, .ref he, .ref hm])), (he, .inl (cI, aI 2 fle))]) [1, 0, 4, 5, 2, 3] rfl rfl ?_
          refine g_wide (k := 0) (n := 0) (Nat.le_of_ble_eq_true rfl) (Nat.le_of_ble_eq_true rfl) ?_
          exact hret _ _ _ (x - gst a) (⟨rfl, fd_yes kJ kx.1 (by omega) c5⟩) std_Y_firstThatDominates_42
  obtain ⟨nn0, hnn0⟩ : ∃ nn0 : Nat, (gst a + b - (gst a)) < (nn0 : Int) := z_nat _
  exact L17 nn0 (gst a) (by omega) (fun j j1 j2 => by omega) hnn0
end
section
/-! constructors -/
abbrev sty_T_init : MethodName := ⟨"StateTables$Told", "<init>", "()V"⟩
abbrev stc_T_init : ByteArray := prog_5_method_1_code
theorem sth_T_init : (sty_T_init).cls ≠ "java/lang/invoke/MethodHandle" ∧ (sty_T_init).cls ≠ "java/lang/invoke/VarHandle" ∧ (parseMethodDescriptor (sty_T_init).desc).map (fun d => d.parameters.length) = some 0 := by decide +kernel
theorem std_T_init_0 : decode stc_T_init 0 = .ok (.aload_n 0, 1) := by decide +kernel
theorem std_T_init_1 : decode stc_T_init 1 = .ok (.invokespecial 3, 3) := by decide +kernel
theorem kw_1_23 : Cond.methodLink "StateTables$Told" 3 (Lib.objectInit) ∈ stGW := st_t1 (List.mem_of_getElem? (i := 23) (by decide +kernel)) (by decide +kernel)
theorem kw_1_16 : Cond.instanceMethod (Lib.objectInit) ∈ stGW := st_t1 (List.mem_of_getElem? (i := 16) (by decide +kernel)) (by decide +kernel)
theorem kw_1_17 : Cond.code Lib.objectInit ⟨#[0xb1]⟩ 1 none ∈ stGW := st_t1 (List.mem_of_getElem? (i := 17) (by decide +kernel)) (by decide +kernel)
theorem std_T_init_4 : decode stc_T_init 4 = .ok (.aload_n 0, 1) := by decide +kernel
theorem std_T_init_5 : decode stc_T_init 5 = .ok (.bipush 12, 2) := by decide +kernel
theorem std_T_init_7 : decode stc_T_init 7 = .ok (.newarray .int, 2) := by decide +kernel
theorem std_T_init_9 : decode stc_T_init 9 = .ok (.putfield 9, 3) := by decide +kernel
theorem std_T_init_12 : decode stc_T_init 12 = .ok (.aload_n 0, 1) := by decide +kernel
theorem std_T_init_13 : decode stc_T_init 13 = .ok (.bipush 72, 2) := by decide +kernel
theorem std_T_init_15 : decode stc_T_init 15 = .ok (.newarray .int, 2) := by decide +kernel
theorem std_T_init_17 : decode stc_T_init 17 = .ok (.putfield 15, 3) := by decide +kernel
theorem std_T_init_20 : decode stc_T_init 20 = .ok (.aload_n 0, 1) := by decide +kernel
theorem std_T_init_21 : decode stc_T_init 21 = .ok (.bipush 72, 2) := by decide +kernel
theorem std_T_init_23 : decode stc_T_init 23 = .ok (.newarray .int, 2) := by decide +kernel
theorem std_T_init_25 : decode stc_T_init 25 = .ok (.putfield 18, 3) := by decide +kernel
theorem std_T_init_28 : decode stc_T_init 28 = .ok (.aload_n 0, 1) := by decide +kernel
theorem std_T_init_29 : decode stc_T_init 29 = .ok (.bipush 72, 2) := by decide +kernel
theorem std_T_init_31 : decode stc_T_init 31 = .ok (.newarray .int, 2) := by decide +kernel
theorem std_T_init_33 : decode stc_T_init 33 = .ok (.putfield 21, 3) := by decide +kernel
theorem std_T_init_36 : decode stc_T_init 36 = .ok (.aload_n 0, 1) := by decide +kernel
theorem std_T_init_37 : decode stc_T_init 37 = .ok (.bipush 72, 2) := by decide +kernel
theorem std_T_init_39 : decode stc_T_init 39 = .ok (.newarray .int, 2) := by decide +kernel
theorem std_T_init_41 : decode stc_T_init 41 = .ok (.putfield 24, 3) := by decide +kernel
theorem std_T_init_44 : decode stc_T_init 44 = .ok (.aload_n 0, 1) := by decide +kernel
theorem std_T_init_45 : decode stc_T_init 45 = .ok (.iconst 2, 1) := by decide +kernel
theorem std_T_init_46 : decode stc_T_init 46 = .ok (.newarray .int, 2) := by decide +kernel
theorem std_T_init_48 : decode stc_T_init 48 = .ok (.dup, 1) := by decide +kernel
theorem std_T_init_49 : decode stc_T_init 49 = .ok (.iconst 0, 1) := by decide +kernel
theorem std_T_init_50 : decode stc_T_init 50 = .ok (.iconst 0, 1) := by decide +kernel
theorem std_T_init_51 : decode stc_T_init 51 = .ok (.iastore, 1) := by decide +kernel
theorem std_T_init_52 : decode stc_T_init 52 = .ok (.dup, 1) := by decide +kernel
theorem std_T_init_53 : decode stc_T_init 53 = .ok (.iconst 1, 1) := by decide +kernel
theorem std_T_init_54 : decode stc_T_init 54 = .ok (.iconst 0, 1) := by decide +kernel
theorem std_T_init_55 : decode stc_T_init 55 = .ok (.iastore, 1) := by decide +kernel
theorem std_T_init_56 : decode stc_T_init 56 = .ok (.putfield 27, 3) := by decide +kernel
theorem std_T_init_59 : decode stc_T_init 59 = .ok (.aload_n 0, 1) := by decide +kernel
theorem std_T_init_60 : decode stc_T_init 60 = .ok (.iconst 2, 1) := by decide +kernel
theorem std_T_init_61 : decode stc_T_init 61 = .ok (.newarray .int, 2) := by decide +kernel
theorem std_T_init_63 : decode stc_T_init 63 = .ok (.dup, 1) := by decide +kernel
theorem std_T_init_64 : decode stc_T_init 64 = .ok (.iconst 0, 1) := by decide +kernel
theorem std_T_init_65 : decode stc_T_init 65 = .ok (.bipush 40, 2) := by decide +kernel
theorem std_T_init_67 : decode stc_T_init 67 = .ok (.iastore, 1) := by decide +kernel
theorem std_T_init_68 : decode stc_T_init 68 = .ok (.dup, 1) := by decide +kernel
theorem std_T_init_69 : decode stc_T_init 69 = .ok (.iconst 1, 1) := by decide +kernel
theorem std_T_init_70 : decode stc_T_init 70 = .ok (.bipush 40, 2) := by decide +kernel
theorem std_T_init_72 : decode stc_T_init 72 = .ok (.iastore, 1) := by decide +kernel
theorem std_T_init_73 : decode stc_T_init 73 = .ok (.putfield 30, 3) := by decide +kernel
theorem std_T_init_76 : decode stc_T_init 76 = .ok (.return_, 1) := by decide +kernel
set_option maxHeartbeats 4000000 in
set_option maxRecDepth 100000 in
theorem c_Told_init (l : Launch) (dC : Nat → ClassId) (dI : Nat → Nat → Nat) (cI cJ cZ : ClassId) (t0 : Nat)  : ∀ sz, Met l sty_T_init (Cond.code sty_T_init stc_T_init 1 none :: stGW) ({ frames := 1, cells := 7, slots := 304, locals := 12 } : Room) (va_Pc [.ref t0] (zPre (dC, dI) stCl [(cI, .int), (cJ, .long), (cZ, .boolean)] st_nw [(t0, .inr (1, [.int (iI 0), .int (iI 0), .int (iI 0), .null, .null, .null, .null, .null, .null, .null]))] sz)) (va_Qv (fun (_ : Nat × Nat × Nat × Nat × Nat × Nat × Nat) => True) (zPost (dC, dI) stCl [(cI, .int), (cJ, .long), (cZ, .boolean)] [(t0, .inr (1, [.int (iI 0), .int (iI 0), .int (iI 0), .null, .null, .null, .null, .null, .null, .null]))] sz (fun u : Nat × Nat × Nat × Nat × Nat × Nat × Nat => [(t0, .inr (1, [.int (iI 0), .int (iI 0), .int (iI 0), .ref u.1, .ref u.2.1, .ref u.2.2.1, .ref u.2.2.2.1, .ref u.2.2.2.2.1, .ref u.2.2.2.2.2.1, .ref u.2.2.2.2.2.2])), (u.1, .inl (cI, aI 12 (fun _ => 0))), (u.2.1, .inl (cI, aI 72 (fun _ => 0))), (u.2.2.1, .inl (cI, aI 72 (fun _ => 0))), (u.2.2.2.1, .inl (cI, aI 72 (fun _ => 0))), (u.2.2.2.2.1, .inl (cI, aI 72 (fun _ => 0))), (u.2.2.2.2.2.1, .inl (cI, aI 2 (uZ (uZ (fun _ => 0) 0 0) 1 0))), (u.2.2.2.2.2.2, .inl (cI, aI 2 (uZ (uZ (fun _ => 0) 0 40) 1 40)))])) (va_A [(t0, .inr (1, [.int (iI 0), .int (iI 0), .int (iI 0), .null, .null, .null, .null, .null, .null, .null]))] sz)) 7 304 (va_A [(t0, .inr (1, [.int (iI 0), .int (iI 0), .int (iI 0), .null, .null, .null, .null, .null, .null, .null]))] sz) := by
  refine met_v (by decide) rfl (Nat.le_of_ble_eq_true rfl) ?_
  intro p e s m below meth c A Q C hmn hret
  refine g_aload_n C 0 std_T_init_0 rfl ?_
  refine g_objInit C (List.mem_cons_of_mem _ kw_1_23) (List.mem_cons_of_mem _ kw_1_16) (List.mem_cons_of_mem _ kw_1_17) std_T_init_1 (Nat.le_of_ble_eq_true rfl) (Nat.le_of_ble_eq_true rfl) ?_
  refine g_aload_n C 0 std_T_init_4 rfl ?_
  refine g_bipush C std_T_init_5 (by decide) ?_
  refine g_newI C (N := 12) 0 rfl (List.mem_cons_of_mem _ kw_1_76) (rfl) (by decide) (Nat.le_of_ble_eq_true rfl) (Nat.le_of_ble_eq_true rfl) std_T_init_7 (fun q1 => ?_)
  refine g_ws (ws' := [(t0, .inr (1, [.int (iI 0), .int (iI 0), .int (iI 0), .null, .null, .null, .null, .null, .null, .null])), (q1, .inl (cI, aI 12 (fun _ => 0)))]) rfl ?_
  refine g_putF C (ws' := [(t0, .inr (1, [.int (iI 0), .int (iI 0), .int (iI 0), .ref q1, .null, .null, .null, .null, .null, .null])), (q1, .inl (cI, aI 12 (fun _ => 0)))]) (st_sub sti_T) stt_T sto_T stn_T 0 rfl rfl 3 (by decide) (List.mem_cons_of_mem _ kw_1_33) rfl rfl hmn rfl rfl rfl (Nat.le_of_ble_eq_true rfl) std_T_init_9 rfl ?_
  refine g_aload_n C 0 std_T_init_12 rfl ?_
  refine g_bipush C std_T_init_13 (by decide) ?_
  refine g_newI C (N := 72) 0 rfl (List.mem_cons_of_mem _ kw_1_76) (rfl) (by decide) (Nat.le_of_ble_eq_true rfl) (Nat.le_of_ble_eq_true rfl) std_T_init_15 (fun q2 => ?_)
  refine g_ws (ws' := [(t0, .inr (1, [.int (iI 0), .int (iI 0), .int (iI 0), .ref q1, .null, .null, .null, .null, .null, .null])), (q1, .inl (cI, aI 12 (fun _ => 0))), (q2, .inl (cI, aI 72 (fun _ => 0)))]) rfl ?_
  refine g_putF C (ws' := [(t0, .inr (1, [.int (iI 0), .int (iI 0), .int (iI 0), .ref q1, .ref q2, .null, .null, .null, .null, .null])), (q1, .inl (cI, aI 12 (fun _ => 0))), (q2, .inl (cI, aI 72 (fun _ => 0)))]) (st_sub sti_T) stt_T sto_T stn_T 0 rfl rfl 4 (by decide) (List.mem_cons_of_mem _ kw_1_38) rfl rfl hmn rfl rfl rfl (Nat.le_of_ble_eq_true rfl) std_T_init_17 rfl ?_
  refine g_aload_n C 0 std_T_init_20 rfl ?_
  refine g_bipush C std_T_init_21 (by decide) ?_
  refine g_newI C (N := 72) 0 rfl (List.mem_cons_of_mem _ kw_1_76) (rfl) (by decide) (Nat.le_of_ble_eq_true rfl) (Nat.le_of_ble_eq_true rfl) std_T_init_23 (fun q3 => ?_)
  refine g_ws (ws' := [(t0, .inr (1, [.int (iI 0), .int (iI 0), .int (iI 0), .ref q1, .ref q2, .null, .null, .null, .null, .null])), (q1, .inl (cI, aI 12 (fun _ => 0))), (q2, .inl (cI, aI 72 (fun _ => 0))), (q3, .inl (cI, aI 72 (fun _ => 0)))]) rfl ?_
  refine g_putF C (ws' := [(t0, .inr (1, [.int (iI 0), .int (iI 0), .int (iI 0), .ref q1, .ref q2, .ref q3, .null, .null, .null, .null])), (q1, .inl (cI, aI 12 (fun _ => 0))), (q2, .inl (cI, aI 72 (fun _ => 0))), (q3, .inl (cI, aI 72 (fun _ => 0)))]) (st_sub sti_T) stt_T sto_T stn_T 0 rfl rfl 5 (by decide) (List.mem_cons_of_mem _ kw_1_42) rfl rfl hmn rfl rfl rfl (Nat.le_of_ble_eq_true rfl) std_T_init_25 rfl ?_
  refine g_aload_n C 0 std_T_init_28 rfl ?_
  refine g_bipush C std_T_init_29 (by decide) ?_
  refine g_newI C (N := 72) 0 rfl (List.mem_cons_of_mem _ kw_1_76) (rfl) (by decide) (Nat.le_of_ble_eq_true rfl) (Nat.le_of_ble_eq_true rfl) std_T_init_31 (fun q4 => ?_)
  refine g_ws (ws' := [(t0, .inr (1, [.int (iI 0), .int (iI 0), .int (iI 0), .ref q1, .ref q2, .ref q3, .null, .null, .null, .null])), (q1, .inl (cI, aI 12 (fun _ => 0))), (q2, .inl (cI, aI 72 (fun _ => 0))), (q3, .inl (cI, aI 72 (fun _ => 0))), (q4, .inl (cI, aI 72 (fun _ => 0)))]) rfl ?_
  refine g_putF C (ws' := [(t0, .inr (1, [.int (iI 0), .int (iI 0), .int (iI 0), .ref q1, .ref q2, .ref q3, .ref q4, .null, .null, .null])), (q1, .inl (cI, aI 12 (fun _ => 0))), (q2, .inl (cI, aI 72 (fun _ => 0))), (q3, .inl (cI, aI 72 (fun _ => 0))), (q4, .inl (cI, aI 72 (fun _ => 0)))]) (st_sub sti_T) stt_T sto_T stn_T 0 rfl rfl 6 (by decide) (List.mem_cons_of_mem _ kw_1_45) rfl rfl hmn rfl rfl rfl (Nat.le_of_ble_eq_true rfl) std_T_init_33 rfl ?_
  refine g_aload_n C 0 std_T_init_36 rfl ?_
  refine g_bipush C std_T_init_37 (by decide) ?_
  refine g_newI C (N := 72) 0 rfl (List.mem_cons_of_mem _ kw_1_76) (rfl) (by decide) (Nat.le_of_ble_eq_true rfl) (Nat.le_of_ble_eq_true rfl) std_T_init_39 (fun q5 => ?_)
  refine g_ws (ws' := [(t0, .inr (1, [.int (iI 0), .int (iI 0), .int (iI 0), .ref q1, .ref q2, .ref q3, .ref q4, .null, .null, .null])), (q1, .inl (cI, aI 12 (fun _ => 0))), (q2, .inl (cI, aI 72 (fun _ => 0))), (q3, .inl (cI, aI 72 (fun _ => 0))), (q4, .inl (cI, aI 72 (fun _ => 0))), (q5, .inl (cI, aI 72 (fun _ => 0)))]) rfl ?_
  refine g_putF C (ws' := [(t0, .inr (1, [.int (iI 0), .int (iI 0), .int (iI 0), .ref q1, .ref q2, .ref q3, .ref q4, .ref q5, .null, .null])), (q1, .inl (cI, aI 12 (fun _ => 0))), (q2, .inl (cI, aI 72 (fun _ => 0))), (q3, .inl (cI, aI 72 (fun _ => 0))), (q4, .inl (cI, aI 72 (fun _ => 0))), (q5, .inl (cI, aI 72 (fun _ => 0)))]) (st_sub sti_T) stt_T sto_T stn_T 0 rfl rfl 7 (by decide) (List.mem_cons_of_mem _ kw_1_48) rfl rfl hmn rfl rfl rfl (Nat.le_of_ble_eq_true rfl) std_T_init_41 rfl ?_
  refine g_aload_n C 0 std_T_init_44 rfl ?_
  refine g_iconst C std_T_init_45 ?_
  refine g_newI C (N := 2) 0 rfl (List.mem_cons_of_mem _ kw_1_76) (rfl) (by decide) (Nat.le_of_ble_eq_true rfl) (Nat.le_of_ble_eq_true rfl) std_T_init_46 (fun q6 => ?_)
  refine g_ws (ws' := [(t0, .inr (1, [.int (iI 0), .int (iI 0), .int (iI 0), .ref q1, .ref q2, .ref q3, .ref q4, .ref q5, .null, .null])), (q1, .inl (cI, aI 12 (fun _ => 0))), (q2, .inl (cI, aI 72 (fun _ => 0))), (q3, .inl (cI, aI 72 (fun _ => 0))), (q4, .inl (cI, aI 72 (fun _ => 0))), (q5, .inl (cI, aI 72 (fun _ => 0))), (q6, .inl (cI, aI 2 (fun _ => 0)))]) rfl ?_
  refine g_dup C std_T_init_48 rfl ?_
  refine g_iconst C std_T_init_49 ?_
  refine g_iconst C std_T_init_50 ?_
  refine g_iast C (ws' := [(t0, .inr (1, [.int (iI 0), .int (iI 0), .int (iI 0), .ref q1, .ref q2, .ref q3, .ref q4, .ref q5, .null, .null])), (q1, .inl (cI, aI 12 (fun _ => 0))), (q2, .inl (cI, aI 72 (fun _ => 0))), (q3, .inl (cI, aI 72 (fun _ => 0))), (q4, .inl (cI, aI 72 (fun _ => 0))), (q5, .inl (cI, aI 72 (fun _ => 0))), (q6, .inl (cI, aI 2 (uZ (fun _ => 0) 0 0)))]) 6 0 rfl rfl (by omega) (by omega) (by omega) std_T_init_51 rfl ?_
  refine g_dup C std_T_init_52 rfl ?_
  refine g_iconst C std_T_init_53 ?_
  refine g_iconst C std_T_init_54 ?_
  refine g_iast C (ws' := [(t0, .inr (1, [.int (iI 0), .int (iI 0), .int (iI 0), .ref q1, .ref q2, .ref q3, .ref q4, .ref q5, .null, .null])), (q1, .inl (cI, aI 12 (fun _ => 0))), (q2, .inl (cI, aI 72 (fun _ => 0))), (q3, .inl (cI, aI 72 (fun _ => 0))), (q4, .inl (cI, aI 72 (fun _ => 0))), (q5, .inl (cI, aI 72 (fun _ => 0))), (q6, .inl (cI, aI 2 (uZ (uZ (fun _ => 0) 0 0) 1 0)))]) 6 0 rfl rfl (by omega) (by omega) (by omega) std_T_init_55 rfl ?_
  refine g_putF C (ws' := [(t0, .inr (1, [.int (iI 0), .int (iI 0), .int (iI 0), .ref q1, .ref q2, .ref q3, .ref q4, .ref q5, .ref q6, .null])), (q1, .inl (cI, aI 12 (fun _ => 0))), (q2, .inl (cI, aI 72 (fun _ => 0))), (q3, .inl (cI, aI 72 (fun _ => 0))), (q4, .inl (cI, aI 72 (fun _ => 0))), (q5, .inl (cI, aI 72 (fun _ => 0))), (q6, .inl (cI, aI 2 (uZ (uZ (fun _ => 0) 0 0) 1 0)))]) (st_sub sti_T) stt_T sto_T stn_T 0 rfl rfl 8 (by decide) (List.mem_cons_of_mem _ kw_1_51) rfl rfl hmn rfl rfl rfl (Nat.le_of_ble_eq_true rfl) std_T_init_56 rfl ?_
  refine g_aload_n C 0 std_T_init_59 rfl ?_
  refine g_iconst C std_T_init_60 ?_
  refine g_newI C (N := 2) 0 rfl (List.mem_cons_of_mem _ kw_1_76) (rfl) (by decide) (Nat.le_of_ble_eq_true rfl) (Nat.le_of_ble_eq_true rfl) std_T_init_61 (fun q7 => ?_)
  refine g_ws (ws' := [(t0, .inr (1, [.int (iI 0), .int (iI 0), .int (iI 0), .ref q1, .ref q2, .ref q3, .ref q4, .ref q5, .ref q6, .null])), (q1, .inl (cI, aI 12 (fun _ => 0))), (q2, .inl (cI, aI 72 (fun _ => 0))), (q3, .inl (cI, aI 72 (fun _ => 0))), (q4, .inl (cI, aI 72 (fun _ => 0))), (q5, .inl (cI, aI 72 (fun _ => 0))), (q6, .inl (cI, aI 2 (uZ (uZ (fun _ => 0) 0 0) 1 0))), (q7, .inl (cI, aI 2 (fun _ => 0)))]) rfl ?_
  refine g_dup C std_T_init_63 rfl ?_
  refine g_iconst C std_T_init_64 ?_
  refine g_bipush C std_T_init_65 (by decide) ?_
  refine g_iast C (ws' := [(t0, .inr (1, [.int (iI 0), .int (iI 0), .int (iI 0), .ref q1, .ref q2, .ref q3, .ref q4, .ref q5, .ref q6, .null])), (q1, .inl (cI, aI 12 (fun _ => 0))), (q2, .inl (cI, aI 72 (fun _ => 0))), (q3, .inl (cI, aI 72 (fun _ => 0))), (q4, .inl (cI, aI 72 (fun _ => 0))), (q5, .inl (cI, aI 72 (fun _ => 0))), (q6, .inl (cI, aI 2 (uZ (uZ (fun _ => 0) 0 0) 1 0))), (q7, .inl (cI, aI 2 (uZ (fun _ => 0) 0 40)))]) 7 0 rfl rfl (by omega) (by omega) (by omega) std_T_init_67 rfl ?_
  refine g_dup C std_T_init_68 rfl ?_
  refine g_iconst C std_T_init_69 ?_
  refine g_bipush C std_T_init_70 (by decide) ?_
  refine g_iast C (ws' := [(t0, .inr (1, [.int (iI 0), .int (iI 0), .int (iI 0), .ref q1, .ref q2, .ref q3, .ref q4, .ref q5, .ref q6, .null])), (q1, .inl (cI, aI 12 (fun _ => 0))), (q2, .inl (cI, aI 72 (fun _ => 0))), (q3, .inl (cI, aI 72 (fun _ => 0))), (q4, .inl (cI, aI 72 (fun _ => 0))), (q5, .inl (cI, aI 72 (fun _ => 0))), (q6, .inl (cI, aI 2 (uZ (uZ (fun _ => 0) 0 0) 1 0))), (q7, .inl (cI, aI 2 (uZ (uZ (fun _ => 0) 0 40) 1 40)))]) 7 0 rfl rfl (by omega) (by omega) (by omega) std_T_init_72 rfl ?_
  refine g_putF C (ws' := [(t0, .inr (1, [.int (iI 0), .int (iI 0), .int (iI 0), .ref q1, .ref q2, .ref q3, .ref q4, .ref q5, .ref q6, .ref q7])), (q1, .inl (cI, aI 12 (fun _ => 0))), (q2, .inl (cI, aI 72 (fun _ => 0))), (q3, .inl (cI, aI 72 (fun _ => 0))), (q4, .inl (cI, aI 72 (fun _ => 0))), (q5, .inl (cI, aI 72 (fun _ => 0))), (q6, .inl (cI, aI 2 (uZ (uZ (fun _ => 0) 0 0) 1 0))), (q7, .inl (cI, aI 2 (uZ (uZ (fun _ => 0) 0 40) 1 40)))]) (st_sub sti_T) stt_T sto_T stn_T 0 rfl rfl 9 (by decide) (List.mem_cons_of_mem _ kw_1_53) rfl rfl hmn rfl rfl rfl (Nat.le_of_ble_eq_true rfl) std_T_init_73 rfl ?_
  refine g_wide (k := 7) (n := 304) (Nat.le_of_ble_eq_true rfl) (Nat.le_of_ble_eq_true rfl) ?_
  exact hret _ _ (q1, q2, q3, q4, q5, q6, q7) (trivial) std_T_init_76

abbrev sty_Y_init : MethodName := ⟨"StateTables$Layers", "<init>", "(LStateTables$Told;)V"⟩
abbrev stc_Y_init : ByteArray := prog_3_method_1_code
theorem sth_Y_init : (sty_Y_init).cls ≠ "java/lang/invoke/MethodHandle" ∧ (sty_Y_init).cls ≠ "java/lang/invoke/VarHandle" ∧ (parseMethodDescriptor (sty_Y_init).desc).map (fun d => d.parameters.length) = some 1 := by decide +kernel
theorem std_Y_init_0 : decode stc_Y_init 0 = .ok (.aload_n 0, 1) := by decide +kernel
theorem std_Y_init_1 : decode stc_Y_init 1 = .ok (.invokespecial 3, 3) := by decide +kernel
theorem kw_1_82 : Cond.methodLink "StateTables$Layers" 3 (Lib.objectInit) ∈ stGW := st_t1 (List.mem_of_getElem? (i := 82) (by decide +kernel)) (by decide +kernel)
theorem std_Y_init_4 : decode stc_Y_init 4 = .ok (.aload_n 0, 1) := by decide +kernel
theorem std_Y_init_5 : decode stc_Y_init 5 = .ok (.bipush 14, 2) := by decide +kernel
theorem std_Y_init_7 : decode stc_Y_init 7 = .ok (.newarray .int, 2) := by decide +kernel
theorem std_Y_init_9 : decode stc_Y_init 9 = .ok (.putfield 9, 3) := by decide +kernel
theorem std_Y_init_12 : decode stc_Y_init 12 = .ok (.aload_n 0, 1) := by decide +kernel
theorem std_Y_init_13 : decode stc_Y_init 13 = .ok (.bipush 16, 2) := by decide +kernel
theorem std_Y_init_15 : decode stc_Y_init 15 = .ok (.newarray .int, 2) := by decide +kernel
theorem std_Y_init_17 : decode stc_Y_init 17 = .ok (.putfield 15, 3) := by decide +kernel
theorem std_Y_init_20 : decode stc_Y_init 20 = .ok (.aload_n 0, 1) := by decide +kernel
theorem std_Y_init_21 : decode stc_Y_init 21 = .ok (.bipush 16, 2) := by decide +kernel
theorem std_Y_init_23 : decode stc_Y_init 23 = .ok (.newarray .int, 2) := by decide +kernel
theorem std_Y_init_25 : decode stc_Y_init 25 = .ok (.putfield 18, 3) := by decide +kernel
theorem std_Y_init_28 : decode stc_Y_init 28 = .ok (.aload_n 0, 1) := by decide +kernel
theorem std_Y_init_29 : decode stc_Y_init 29 = .ok (.bipush 16, 2) := by decide +kernel
theorem std_Y_init_31 : decode stc_Y_init 31 = .ok (.newarray .int, 2) := by decide +kernel
theorem std_Y_init_33 : decode stc_Y_init 33 = .ok (.putfield 21, 3) := by decide +kernel
theorem std_Y_init_36 : decode stc_Y_init 36 = .ok (.aload_n 0, 1) := by decide +kernel
theorem std_Y_init_37 : decode stc_Y_init 37 = .ok (.bipush 16, 2) := by decide +kernel
theorem std_Y_init_39 : decode stc_Y_init 39 = .ok (.newarray .long, 2) := by decide +kernel
theorem std_Y_init_41 : decode stc_Y_init 41 = .ok (.putfield 24, 3) := by decide +kernel
theorem std_Y_init_44 : decode stc_Y_init 44 = .ok (.aload_n 0, 1) := by decide +kernel
theorem std_Y_init_45 : decode stc_Y_init 45 = .ok (.bipush 16, 2) := by decide +kernel
theorem std_Y_init_47 : decode stc_Y_init 47 = .ok (.newarray .long, 2) := by decide +kernel
theorem std_Y_init_49 : decode stc_Y_init 49 = .ok (.putfield 28, 3) := by decide +kernel
theorem std_Y_init_52 : decode stc_Y_init 52 = .ok (.aload_n 0, 1) := by decide +kernel
theorem std_Y_init_53 : decode stc_Y_init 53 = .ok (.bipush 96, 2) := by decide +kernel
theorem std_Y_init_55 : decode stc_Y_init 55 = .ok (.newarray .int, 2) := by decide +kernel
theorem std_Y_init_57 : decode stc_Y_init 57 = .ok (.putfield 31, 3) := by decide +kernel
theorem std_Y_init_60 : decode stc_Y_init 60 = .ok (.aload_n 0, 1) := by decide +kernel
theorem std_Y_init_61 : decode stc_Y_init 61 = .ok (.bipush 6, 2) := by decide +kernel
theorem std_Y_init_63 : decode stc_Y_init 63 = .ok (.newarray .int, 2) := by decide +kernel
theorem std_Y_init_65 : decode stc_Y_init 65 = .ok (.putfield 34, 3) := by decide +kernel
theorem std_Y_init_68 : decode stc_Y_init 68 = .ok (.aload_n 0, 1) := by decide +kernel
theorem std_Y_init_69 : decode stc_Y_init 69 = .ok (.aload_n 1, 1) := by decide +kernel
theorem std_Y_init_70 : decode stc_Y_init 70 = .ok (.putfield 37, 3) := by decide +kernel
theorem std_Y_init_73 : decode stc_Y_init 73 = .ok (.return_, 1) := by decide +kernel
set_option maxHeartbeats 4000000 in
set_option maxRecDepth 100000 in
theorem c_Layers_init (l : Launch) (dC : Nat → ClassId) (dI : Nat → Nat → Nat) (cI cJ cZ : ClassId) (y0 : Nat) (t0 : Nat)  : ∀ sz, Met l sty_Y_init (Cond.code sty_Y_init stc_Y_init 2 none :: stGW) ({ frames := 1, cells := 8, slots := 196, locals := 12 } : Room) (va_Pc [.ref y0, .ref t0] (zPre (dC, dI) stCl [(cI, .int), (cJ, .long), (cZ, .boolean)] st_nw [(y0, .inr (2, [.null, .int (iI 0), .null, .null, .null, .null, .null, .null, .null, .null]))] sz)) (va_Qv (fun (_ : Nat × Nat × Nat × Nat × Nat × Nat × Nat × Nat) => True) (zPost (dC, dI) stCl [(cI, .int), (cJ, .long), (cZ, .boolean)] [(y0, .inr (2, [.null, .int (iI 0), .null, .null, .null, .null, .null, .null, .null, .null]))] sz (fun u : Nat × Nat × Nat × Nat × Nat × Nat × Nat × Nat => [(y0, .inr (2, [.ref t0, .int (iI 0), .ref u.1, .ref u.2.1, .ref u.2.2.1, .ref u.2.2.2.1, .ref u.2.2.2.2.1, .ref u.2.2.2.2.2.1, .ref u.2.2.2.2.2.2.1, .ref u.2.2.2.2.2.2.2])), (u.1, .inl (cI, aI 14 (fun _ => 0))), (u.2.1, .inl (cI, aI 16 (fun _ => 0))), (u.2.2.1, .inl (cI, aI 16 (fun _ => 0))), (u.2.2.2.1, .inl (cI, aI 16 (fun _ => 0))), (u.2.2.2.2.1, .inl (cJ, aL 16 (fun _ => 0))), (u.2.2.2.2.2.1, .inl (cJ, aL 16 (fun _ => 0))), (u.2.2.2.2.2.2.1, .inl (cI, aI 96 (fun _ => 0))), (u.2.2.2.2.2.2.2, .inl (cI, aI 6 (fun _ => 0)))])) (va_A [(y0, .inr (2, [.null, .int (iI 0), .null, .null, .null, .null, .null, .null, .null, .null]))] sz)) 8 196 (va_A [(y0, .inr (2, [.null, .int (iI 0), .null, .null, .null, .null, .null, .null, .null, .null]))] sz) := by
  refine met_v (by decide) rfl (Nat.le_of_ble_eq_true rfl) ?_
  intro p e s m below meth c A Q C hmn hret
  refine g_aload_n C 0 std_Y_init_0 rfl ?_
  refine g_objInit C (List.mem_cons_of_mem _ kw_1_82) (List.mem_cons_of_mem _ kw_1_16) (List.mem_cons_of_mem _ kw_1_17) std_Y_init_1 (Nat.le_of_ble_eq_true rfl) (Nat.le_of_ble_eq_true rfl) ?_
  refine g_aload_n C 0 std_Y_init_4 rfl ?_
  refine g_bipush C std_Y_init_5 (by decide) ?_
  refine g_newI C (N := 14) 0 rfl (List.mem_cons_of_mem _ kw_1_76) (rfl) (by decide) (Nat.le_of_ble_eq_true rfl) (Nat.le_of_ble_eq_true rfl) std_Y_init_7 (fun q1 => ?_)
  refine g_ws (ws' := [(y0, .inr (2, [.null, .int (iI 0), .null, .null, .null, .null, .null, .null, .null, .null])), (q1, .inl (cI, aI 14 (fun _ => 0)))]) rfl ?_
  refine g_putF C (ws' := [(y0, .inr (2, [.null, .int (iI 0), .ref q1, .null, .null, .null, .null, .null, .null, .null])), (q1, .inl (cI, aI 14 (fun _ => 0)))]) (st_sub sti_Y) stt_Y sto_Y stn_Y 0 rfl rfl 2 (by decide) (List.mem_cons_of_mem _ kw_1_86) rfl rfl hmn rfl rfl rfl (Nat.le_of_ble_eq_true rfl) std_Y_init_9 rfl ?_
  refine g_aload_n C 0 std_Y_init_12 rfl ?_
  refine g_bipush C std_Y_init_13 (by decide) ?_
  refine g_newI C (N := 16) 0 rfl (List.mem_cons_of_mem _ kw_1_76) (rfl) (by decide) (Nat.le_of_ble_eq_true rfl) (Nat.le_of_ble_eq_true rfl) std_Y_init_15 (fun q2 => ?_)
  refine g_ws (ws' := [(y0, .inr (2, [.null, .int (iI 0), .ref q1, .null, .null, .null, .null, .null, .null, .null])), (q1, .inl (cI, aI 14 (fun _ => 0))), (q2, .inl (cI, aI 16 (fun _ => 0)))]) rfl ?_
  refine g_put C (ws' := [(y0, .inr (2, [.null, .int (iI 0), .ref q1, .ref q2, .null, .null, .null, .null, .null, .null])), (q1, .inl (cI, aI 14 (fun _ => 0))), (q2, .inl (cI, aI 16 (fun _ => 0)))]) (st_sub sti_Y) stt_Y sto_Y stn_Y 0 rfl rfl 3 (by decide) (List.mem_cons_of_mem _ kw_1_88) rfl rfl rfl rfl (Nat.le_of_ble_eq_true rfl) std_Y_init_17 rfl ?_
  refine g_aload_n C 0 std_Y_init_20 rfl ?_
  refine g_bipush C std_Y_init_21 (by decide) ?_
  refine g_newI C (N := 16) 0 rfl (List.mem_cons_of_mem _ kw_1_76) (rfl) (by decide) (Nat.le_of_ble_eq_true rfl) (Nat.le_of_ble_eq_true rfl) std_Y_init_23 (fun q3 => ?_)
  refine g_ws (ws' := [(y0, .inr (2, [.null, .int (iI 0), .ref q1, .ref q2, .null, .null, .null, .null, .null, .null])), (q1, .inl (cI, aI 14 (fun _ => 0))), (q2, .inl (cI, aI 16 (fun _ => 0))), (q3, .inl (cI, aI 16 (fun _ => 0)))]) rfl ?_
  refine g_put C (ws' := [(y0, .inr (2, [.null, .int (iI 0), .ref q1, .ref q2, .ref q3, .null, .null, .null, .null, .null])), (q1, .inl (cI, aI 14 (fun _ => 0))), (q2, .inl (cI, aI 16 (fun _ => 0))), (q3, .inl (cI, aI 16 (fun _ => 0)))]) (st_sub sti_Y) stt_Y sto_Y stn_Y 0 rfl rfl 4 (by decide) (List.mem_cons_of_mem _ kw_1_90) rfl rfl rfl rfl (Nat.le_of_ble_eq_true rfl) std_Y_init_25 rfl ?_
  refine g_aload_n C 0 std_Y_init_28 rfl ?_
  refine g_bipush C std_Y_init_29 (by decide) ?_
  refine g_newI C (N := 16) 0 rfl (List.mem_cons_of_mem _ kw_1_76) (rfl) (by decide) (Nat.le_of_ble_eq_true rfl) (Nat.le_of_ble_eq_true rfl) std_Y_init_31 (fun q4 => ?_)
  refine g_ws (ws' := [(y0, .inr (2, [.null, .int (iI 0), .ref q1, .ref q2, .ref q3, .null, .null, .null, .null, .null])), (q1, .inl (cI, aI 14 (fun _ => 0))), (q2, .inl (cI, aI 16 (fun _ => 0))), (q3, .inl (cI, aI 16 (fun _ => 0))), (q4, .inl (cI, aI 16 (fun _ => 0)))]) rfl ?_
  refine g_put C (ws' := [(y0, .inr (2, [.null, .int (iI 0), .ref q1, .ref q2, .ref q3, .ref q4, .null, .null, .null, .null])), (q1, .inl (cI, aI 14 (fun _ => 0))), (q2, .inl (cI, aI 16 (fun _ => 0))), (q3, .inl (cI, aI 16 (fun _ => 0))), (q4, .inl (cI, aI 16 (fun _ => 0)))]) (st_sub sti_Y) stt_Y sto_Y stn_Y 0 rfl rfl 5 (by decide) (List.mem_cons_of_mem _ kw_1_92) rfl rfl rfl rfl (Nat.le_of_ble_eq_true rfl) std_Y_init_33 rfl ?_
  refine g_aload_n C 0 std_Y_init_36 rfl ?_
  refine g_bipush C std_Y_init_37 (by decide) ?_
  refine g_newL C (N := 16) 1 rfl (List.mem_cons_of_mem _ kw_1_122) (rfl) (by decide) (Nat.le_of_ble_eq_true rfl) (Nat.le_of_ble_eq_true rfl) std_Y_init_39 (fun q5 => ?_)
  refine g_ws (ws' := [(y0, .inr (2, [.null, .int (iI 0), .ref q1, .ref q2, .ref q3, .ref q4, .null, .null, .null, .null])), (q1, .inl (cI, aI 14 (fun _ => 0))), (q2, .inl (cI, aI 16 (fun _ => 0))), (q3, .inl (cI, aI 16 (fun _ => 0))), (q4, .inl (cI, aI 16 (fun _ => 0))), (q5, .inl (cJ, aL 16 (fun _ => 0)))]) rfl ?_
  refine g_put C (ws' := [(y0, .inr (2, [.null, .int (iI 0), .ref q1, .ref q2, .ref q3, .ref q4, .ref q5, .null, .null, .null])), (q1, .inl (cI, aI 14 (fun _ => 0))), (q2, .inl (cI, aI 16 (fun _ => 0))), (q3, .inl (cI, aI 16 (fun _ => 0))), (q4, .inl (cI, aI 16 (fun _ => 0))), (q5, .inl (cJ, aL 16 (fun _ => 0)))]) (st_sub sti_Y) stt_Y sto_Y stn_Y 0 rfl rfl 6 (by decide) (List.mem_cons_of_mem _ kw_1_94) rfl rfl rfl rfl (Nat.le_of_ble_eq_true rfl) std_Y_init_41 rfl ?_
  refine g_aload_n C 0 std_Y_init_44 rfl ?_
  refine g_bipush C std_Y_init_45 (by decide) ?_
  refine g_newL C (N := 16) 1 rfl (List.mem_cons_of_mem _ kw_1_122) (rfl) (by decide) (Nat.le_of_ble_eq_true rfl) (Nat.le_of_ble_eq_true rfl) std_Y_init_47 (fun q6 => ?_)
  refine g_ws (ws' := [(y0, .inr (2, [.null, .int (iI 0), .ref q1, .ref q2, .ref q3, .ref q4, .ref q5, .null, .null, .null])), (q1, .inl (cI, aI 14 (fun _ => 0))), (q2, .inl (cI, aI 16 (fun _ => 0))), (q3, .inl (cI, aI 16 (fun _ => 0))), (q4, .inl (cI, aI 16 (fun _ => 0))), (q5, .inl (cJ, aL 16 (fun _ => 0))), (q6, .inl (cJ, aL 16 (fun _ => 0)))]) rfl ?_
  refine g_put C (ws' := [(y0, .inr (2, [.null, .int (iI 0), .ref q1, .ref q2, .ref q3, .ref q4, .ref q5, .ref q6, .null, .null])), (q1, .inl (cI, aI 14 (fun _ => 0))), (q2, .inl (cI, aI 16 (fun _ => 0))), (q3, .inl (cI, aI 16 (fun _ => 0))), (q4, .inl (cI, aI 16 (fun _ => 0))), (q5, .inl (cJ, aL 16 (fun _ => 0))), (q6, .inl (cJ, aL 16 (fun _ => 0)))]) (st_sub sti_Y) stt_Y sto_Y stn_Y 0 rfl rfl 7 (by decide) (List.mem_cons_of_mem _ kw_1_96) rfl rfl rfl rfl (Nat.le_of_ble_eq_true rfl) std_Y_init_49 rfl ?_
  refine g_aload_n C 0 std_Y_init_52 rfl ?_
  refine g_bipush C std_Y_init_53 (by decide) ?_
  refine g_newI C (N := 96) 0 rfl (List.mem_cons_of_mem _ kw_1_76) (rfl) (by decide) (Nat.le_of_ble_eq_true rfl) (Nat.le_of_ble_eq_true rfl) std_Y_init_55 (fun q7 => ?_)
  refine g_ws (ws' := [(y0, .inr (2, [.null, .int (iI 0), .ref q1, .ref q2, .ref q3, .ref q4, .ref q5, .ref q6, .null, .null])), (q1, .inl (cI, aI 14 (fun _ => 0))), (q2, .inl (cI, aI 16 (fun _ => 0))), (q3, .inl (cI, aI 16 (fun _ => 0))), (q4, .inl (cI, aI 16 (fun _ => 0))), (q5, .inl (cJ, aL 16 (fun _ => 0))), (q6, .inl (cJ, aL 16 (fun _ => 0))), (q7, .inl (cI, aI 96 (fun _ => 0)))]) rfl ?_
  refine g_put C (ws' := [(y0, .inr (2, [.null, .int (iI 0), .ref q1, .ref q2, .ref q3, .ref q4, .ref q5, .ref q6, .ref q7, .null])), (q1, .inl (cI, aI 14 (fun _ => 0))), (q2, .inl (cI, aI 16 (fun _ => 0))), (q3, .inl (cI, aI 16 (fun _ => 0))), (q4, .inl (cI, aI 16 (fun _ => 0))), (q5, .inl (cJ, aL 16 (fun _ => 0))), (q6, .inl (cJ, aL 16 (fun _ => 0))), (q7, .inl (cI, aI 96 (fun _ => 0)))]) (st_sub sti_Y) stt_Y sto_Y stn_Y 0 rfl rfl 8 (by decide) (List.mem_cons_of_mem _ kw_1_99) rfl rfl rfl rfl (Nat.le_of_ble_eq_true rfl) std_Y_init_57 rfl ?_
  refine g_aload_n C 0 std_Y_init_60 rfl ?_
  refine g_bipush C std_Y_init_61 (by decide) ?_
  refine g_newI C (N := 6) 0 rfl (List.mem_cons_of_mem _ kw_1_76) (rfl) (by decide) (Nat.le_of_ble_eq_true rfl) (Nat.le_of_ble_eq_true rfl) std_Y_init_63 (fun q8 => ?_)
  refine g_ws (ws' := [(y0, .inr (2, [.null, .int (iI 0), .ref q1, .ref q2, .ref q3, .ref q4, .ref q5, .ref q6, .ref q7, .null])), (q1, .inl (cI, aI 14 (fun _ => 0))), (q2, .inl (cI, aI 16 (fun _ => 0))), (q3, .inl (cI, aI 16 (fun _ => 0))), (q4, .inl (cI, aI 16 (fun _ => 0))), (q5, .inl (cJ, aL 16 (fun _ => 0))), (q6, .inl (cJ, aL 16 (fun _ => 0))), (q7, .inl (cI, aI 96 (fun _ => 0))), (q8, .inl (cI, aI 6 (fun _ => 0)))]) rfl ?_
  refine g_putF C (ws' := [(y0, .inr (2, [.null, .int (iI 0), .ref q1, .ref q2, .ref q3, .ref q4, .ref q5, .ref q6, .ref q7, .ref q8])), (q1, .inl (cI, aI 14 (fun _ => 0))), (q2, .inl (cI, aI 16 (fun _ => 0))), (q3, .inl (cI, aI 16 (fun _ => 0))), (q4, .inl (cI, aI 16 (fun _ => 0))), (q5, .inl (cJ, aL 16 (fun _ => 0))), (q6, .inl (cJ, aL 16 (fun _ => 0))), (q7, .inl (cI, aI 96 (fun _ => 0))), (q8, .inl (cI, aI 6 (fun _ => 0)))]) (st_sub sti_Y) stt_Y sto_Y stn_Y 0 rfl rfl 9 (by decide) (List.mem_cons_of_mem _ kw_1_100) rfl rfl hmn rfl rfl rfl (Nat.le_of_ble_eq_true rfl) std_Y_init_65 rfl ?_
  refine g_aload_n C 0 std_Y_init_68 rfl ?_
  refine g_aload_n C 1 std_Y_init_69 rfl ?_
  refine g_putF C (ws' := [(y0, .inr (2, [.ref t0, .int (iI 0), .ref q1, .ref q2, .ref q3, .ref q4, .ref q5, .ref q6, .ref q7, .ref q8])), (q1, .inl (cI, aI 14 (fun _ => 0))), (q2, .inl (cI, aI 16 (fun _ => 0))), (q3, .inl (cI, aI 16 (fun _ => 0))), (q4, .inl (cI, aI 16 (fun _ => 0))), (q5, .inl (cJ, aL 16 (fun _ => 0))), (q6, .inl (cJ, aL 16 (fun _ => 0))), (q7, .inl (cI, aI 96 (fun _ => 0))), (q8, .inl (cI, aI 6 (fun _ => 0)))]) (st_sub sti_Y) stt_Y sto_Y stn_Y 0 rfl rfl 0 (by decide) (List.mem_cons_of_mem _ kw_1_83) rfl rfl hmn rfl rfl rfl (Nat.le_of_ble_eq_true rfl) std_Y_init_70 rfl ?_
  refine g_wide (k := 8) (n := 196) (Nat.le_of_ble_eq_true rfl) (Nat.le_of_ble_eq_true rfl) ?_
  exact hret _ _ (q1, q2, q3, q4, q5, q6, q7, q8) (trivial) std_Y_init_73
end
section
/-! ROWS THAT BEGIN PLANS, as numbers -/
/-- a row of d choices (three bits each, r), its end's key k, its cost g, that begins a plan -/
def PR (fsz fco ffu fsu fbb fmo fle : Int → Int) (n : Nat) : Nat → Int → Int → Int → Prop
  | 0, r, k, g => r = 0 ∧ k = 0 ∧ g = 0 ∧ 0 < wf fsz ffu fsu fbb fmo fle n 0 0
  | d + 1, r, k, g => ∃ c k0 g0 r0, PR fsz fco ffu fsu fbb fmo fle n d r0 k0 g0 ∧ (0 ≤ c ∧ c < fsz (d : Int)) ∧ kn fbb ffu fsu fmo ((d : Int) * 6 + c) c k0 = k ∧ ¬ k = -1 ∧ 0 < wf fsz ffu fsu fbb fmo fle (n - (d + 1)) (d + 1) k ∧ r = r0 + c * 8 ^ (11 - d) ∧ g = g0 + fco ((d : Int) * 6 + c)
theorem pw8 {d : Nat} (h : d < 12) : (8 : Int) ^ (12 - d) = 8 * 8 ^ (11 - d) := by
  rw [show 12 - d = (11 - d) + 1 by omega, Int.pow_succ, Int.mul_comm]
theorem pw8p (j : Nat) : (0 : Int) < 8 ^ j := Int.pow_pos (by omega)
theorem pr_r {fsz fco ffu fsu fbb fmo fle : Int → Int} (hT : TB fsz fco ffu fsu fbb fmo) {n : Nat} : ∀ (d : Nat) (r k g : Int), d ≤ 12 → PR fsz fco ffu fsu fbb fmo fle n d r k g → ∃ q, r = q * 8 ^ (12 - d) ∧ 0 ≤ q ∧ q < 8 ^ d := by
  intro d
  induction d with
  | zero => intro r k g _ h; exact ⟨0, by rw [h.1]; simp, by omega, by decide⟩
  | succ d ih =>
    intro r k g hd h
    obtain ⟨c, k0, g0, r0, h1, h2, h3, h4, h5, h6, h7⟩ := h
    obtain ⟨q, q1, q2, q3⟩ := ih r0 k0 g0 (by omega) h1
    have hsz := hT.1 (d : Int) (by omega) (by omega)
    refine ⟨8 * q + c, ?_, by omega, ?_⟩
    · rw [h6, q1, pw8 (by omega), show 12 - (d + 1) = 11 - d by omega, Int.add_mul]
      rw [← Int.mul_assoc, Int.mul_comm q 8]
    · rw [Int.pow_succ]; omega
theorem pr_rb {fsz fco ffu fsu fbb fmo fle : Int → Int} (hT : TB fsz fco ffu fsu fbb fmo) {n d : Nat} {r k g : Int} (hd : d ≤ 12) (h : PR fsz fco ffu fsu fbb fmo fle n d r k g) : 0 ≤ r ∧ r + 8 ^ (12 - d) ≤ 68719476736 := by
  obtain ⟨q, q1, q2, q3⟩ := pr_r hT d r k g hd h
  have hp := pw8p (12 - d)
  have e : (8 : Int) ^ d * 8 ^ (12 - d) = 68719476736 := by
    rw [← Int.pow_add, show d + (12 - d) = 12 by omega]; rfl
  have h2 : (q + 1) * 8 ^ (12 - d) ≤ 8 ^ d * 8 ^ (12 - d) := Int.mul_le_mul_of_nonneg_right (by omega) (by omega)
  rw [e, Int.add_mul, Int.one_mul, ← q1] at h2
  have h3 : 0 ≤ q * 8 ^ (12 - d) := Int.mul_nonneg q2 (by omega)
  exact ⟨by rw [q1]; exact h3, h2⟩
/-- the last choice, and what is before it, stand in r -/
theorem pr_split {M q1 q2 c1 c2 : Int} (hM : 0 < M) (h1 : 0 ≤ c1 ∧ c1 < 8) (h2 : 0 ≤ c2 ∧ c2 < 8) (h : q1 * (8 * M) + c1 * M = q2 * (8 * M) + c2 * M) : q1 = q2 ∧ c1 = c2 := by
  have h3 : (8 * q1 + c1) * M = (8 * q2 + c2) * M := by
    rw [Int.add_mul, Int.add_mul, Int.mul_comm 8 q1, Int.mul_comm 8 q2, Int.mul_assoc, Int.mul_assoc]; exact h
  have h4 := Int.eq_of_mul_eq_mul_right (by omega) h3
  omega
theorem pr_fun {fsz fco ffu fsu fbb fmo fle : Int → Int} (hT : TB fsz fco ffu fsu fbb fmo) {n : Nat} : ∀ (d : Nat) (r k g k' g' : Int), d ≤ 12 → PR fsz fco ffu fsu fbb fmo fle n d r k g → PR fsz fco ffu fsu fbb fmo fle n d r k' g' → k = k' ∧ g = g' := by
  intro d
  induction d with
  | zero => intro r k g k' g' _ h h'; exact ⟨h.2.1.trans h'.2.1.symm, h.2.2.1.trans h'.2.2.1.symm⟩
  | succ d ih =>
    intro r k g k' g' hd h h'
    obtain ⟨c, k0, g0, r0, h1, h2, h3, h4, h5, h6, h7⟩ := h
    obtain ⟨c', k0', g0', r0', h1', h2', h3', h4', h5', h6', h7'⟩ := h'
    have hsz := hT.1 (d : Int) (by omega) (by omega)
    obtain ⟨q, q1, q2, q3⟩ := pr_r hT d _ _ _ (by omega) h1
    obtain ⟨q', q1', q2', q3'⟩ := pr_r hT d _ _ _ (by omega) h1'
    rw [pw8 (by omega)] at q1 q1'
    have e := h6.symm.trans h6'
    rw [q1, q1'] at e
    obtain ⟨e1, e2⟩ := pr_split (pw8p (11 - d)) ⟨h2.1, by omega⟩ ⟨h2'.1, by omega⟩ e
    subst e1 e2
    rw [← q1'] at q1
    subst q1
    obtain ⟨e3, e4⟩ := ih r0 k0 g0 k0' g0' (by omega) h1 h1'
    subst e3 e4
    exact ⟨h3.symm.trans h3', h7.trans h7'.symm⟩
theorem pr_wf {fsz fco ffu fsu fbb fmo fle : Int → Int} {n : Nat} : ∀ (d : Nat) (r k g : Int), PR fsz fco ffu fsu fbb fmo fle n d r k g → 0 < wf fsz ffu fsu fbb fmo fle (n - d) d k
  | 0, r, k, g, h => by rw [h.2.1]; exact h.2.2.2
  | d + 1, r, k, g, h => by
    obtain ⟨c, k0, g0, r0, h1, h2, h3, h4, h5, h6, h7⟩ := h
    exact h5
theorem pr_g {fsz fco ffu fsu fbb fmo fle : Int → Int} (hT : TB fsz fco ffu fsu fbb fmo) {n : Nat} : ∀ (d : Nat) (r k g : Int), d ≤ 12 → PR fsz fco ffu fsu fbb fmo fle n d r k g → -(1000 * (d : Int)) ≤ g ∧ g ≤ 1000 * (d : Int) := by
  intro d
  induction d with
  | zero => intro r k g _ h; have := h.2.2.1; omega
  | succ d ih =>
    intro r k g hd h
    obtain ⟨c, k0, g0, r0, h1, h2, h3, h4, h5, h6, h7⟩ := h
    have hsz := hT.1 (d : Int) (by omega) (by omega)
    have := ih r0 k0 g0 (by omega) h1
    have hco := hT.2.1 ((d : Int) * 6 + c) (by omega) (by omega)
    omega
/-- the number of such a row: the least cost of a plan that begins with it, then its choices -/
noncomputable def cod (fsz fco ffu fsu fbb fmo fle : Int → Int) (n d : Nat) (r k g : Int) : Int := (g + cf fsz fco ffu fsu fbb fmo fle (n - d) d k + 12000) * 68719476736 + r
theorem minR_att {P : Int → Prop} {v : Int → Int} {s : Int} : ∀ n : Nat, (∃ i, s ≤ i ∧ i < s + (n : Int) ∧ P i ∧ v i ≤ 900000) → ∃ i, s ≤ i ∧ i < s + (n : Int) ∧ P i ∧ minR P v s n = v i
  | 0, ⟨i, h1, h2, _⟩ => by omega
  | n + 1, h => by
    by_cases q : ∃ i, s ≤ i ∧ i < s + (n : Int) ∧ P i ∧ v i ≤ 900000
    · obtain ⟨i, i1, i2, i3, i4⟩ := minR_att n q
      by_cases r : P (s + (n : Int))
      · rw [minR_yes r]
        by_cases t : v (s + (n : Int)) < minR P v s n
        · exact ⟨s + (n : Int), by omega, by omega, r, by omega⟩
        · exact ⟨i, i1, by omega, i3, by omega⟩
      · rw [minR_no r]; exact ⟨i, i1, by omega, i3, i4⟩
    · obtain ⟨i, i1, i2, i3, i4⟩ := h
      have e : i = s + (n : Int) := Classical.byContradiction fun z => q ⟨i, i1, by omega, i3, i4⟩
      subst e
      rw [minR_yes i3]
      have : ∀ m : Nat, m ≤ n → minR P v s m = 900000 ∨ 900000 ≤ minR P v s m := by
        intro m
        induction m with
        | zero => intro _; exact Or.inl rfl
        | succ m ih =>
          intro hm
          by_cases r : P (s + (m : Int))
          · rw [minR_yes r]
            have := ih (by omega)
            have h5 : ¬ v (s + (m : Int)) ≤ 900000 := fun z => q ⟨s + (m : Int), by omega, by omega, r, z⟩
            omega
          · rw [minR_no r]; exact ih (by omega)
      have := this n (Nat.le_refl n)
      exact ⟨s + (n : Int), i1, i2, i3, by omega⟩
/-- a child of a row: its number is not less; one of them has the same least cost -/
theorem cod_child {fsz fco ffu fsu fbb fmo fle : Int → Int} (hT : TB fsz fco ffu fsu fbb fmo) {n d : Nat} (hn : n ≤ 12) (hd : d < n) {r k g c : Int} (hc : 0 ≤ c ∧ c < fsz (d : Int)) (h1 : ¬ kn fbb ffu fsu fmo ((d : Int) * 6 + c) c k = -1) (h2 : 0 < wf fsz ffu fsu fbb fmo fle (n - (d + 1)) (d + 1) (kn fbb ffu fsu fmo ((d : Int) * 6 + c) c k)) :
    cod fsz fco ffu fsu fbb fmo fle n d r k g ≤ cod fsz fco ffu fsu fbb fmo fle n (d + 1) (r + c * 8 ^ (11 - d)) (kn fbb ffu fsu fmo ((d : Int) * 6 + c) c k) (g + fco ((d : Int) * 6 + c)) := by
  have e : n - d = (n - (d + 1)) + 1 := by omega
  have hle : cf fsz fco ffu fsu fbb fmo fle (n - d) d k ≤ cf fsz fco ffu fsu fbb fmo fle (n - (d + 1)) (d + 1) (kn fbb ffu fsu fmo ((d : Int) * 6 + c) c k) + fco ((d : Int) * 6 + c) := by
    rw [e]
    exact minR_le (P := fun c => ¬ kn fbb ffu fsu fmo ((d : Int) * 6 + c) c k = -1 ∧ 0 < wf fsz ffu fsu fbb fmo fle (n - (d + 1)) (d + 1) (kn fbb ffu fsu fmo ((d : Int) * 6 + c) c k)) (v := fun c => cf fsz fco ffu fsu fbb fmo fle (n - (d + 1)) (d + 1) (kn fbb ffu fsu fmo ((d : Int) * 6 + c) c k) + fco ((d : Int) * 6 + c)) (s := 0) (fsz (d : Int)).toNat c hc.1 (by omega) ⟨h1, h2⟩
  have hp : 0 ≤ c * 8 ^ (11 - d) := Int.mul_nonneg hc.1 (Int.le_of_lt (pw8p _))
  unfold cod
  omega
theorem cod_best {fsz fco ffu fsu fbb fmo fle : Int → Int} (hT : TB fsz fco ffu fsu fbb fmo) {n d : Nat} (hn : n ≤ 12) (hd : d < n) {r k g : Int} (h : 0 < wf fsz ffu fsu fbb fmo fle (n - d) d k) :
    ∃ c, (0 ≤ c ∧ c < fsz (d : Int)) ∧ ¬ kn fbb ffu fsu fmo ((d : Int) * 6 + c) c k = -1 ∧ 0 < wf fsz ffu fsu fbb fmo fle (n - (d + 1)) (d + 1) (kn fbb ffu fsu fmo ((d : Int) * 6 + c) c k) ∧ cod fsz fco ffu fsu fbb fmo fle n (d + 1) (r + c * 8 ^ (11 - d)) (kn fbb ffu fsu fmo ((d : Int) * 6 + c) c k) (g + fco ((d : Int) * 6 + c)) < cod fsz fco ffu fsu fbb fmo fle n d r k g + 8 ^ (12 - d) := by
  have hsz := hT.1 (d : Int) (by omega) (by omega)
  have e : n - d = (n - (d + 1)) + 1 := by omega
  rw [e] at h
  obtain ⟨c, c1, c2, c3⟩ := sumR_pos (fun c => by
    show 0 ≤ (if kn fbb ffu fsu fmo ((d : Int) * 6 + c) c k = -1 then 0 else wf fsz ffu fsu fbb fmo fle (n - (d + 1)) (d + 1) (kn fbb ffu fsu fmo ((d : Int) * 6 + c) c k))
    split
    · exact Int.le_refl 0
    · exact wf_nn _ (d + 1) _) _ h
  have c4 : 0 < (if kn fbb ffu fsu fmo ((d : Int) * 6 + c) c k = -1 then 0 else wf fsz ffu fsu fbb fmo fle (n - (d + 1)) (d + 1) (kn fbb ffu fsu fmo ((d : Int) * 6 + c) c k)) := c3
  have hne : ¬ kn fbb ffu fsu fmo ((d : Int) * 6 + c) c k = -1 := fun q => by rw [if_pos q] at c4; omega
  rw [if_neg hne] at c4
  have hco := hT.2.1 ((d : Int) * 6 + c) (by omega) (by omega)
  have hr := cf_rng hT (n - (d + 1)) (d + 1) _ (by omega) c4
  obtain ⟨b, b1, b2, b3, b4⟩ := minR_att (P := fun c => ¬ kn fbb ffu fsu fmo ((d : Int) * 6 + c) c k = -1 ∧ 0 < wf fsz ffu fsu fbb fmo fle (n - (d + 1)) (d + 1) (kn fbb ffu fsu fmo ((d : Int) * 6 + c) c k)) (v := fun c => cf fsz fco ffu fsu fbb fmo fle (n - (d + 1)) (d + 1) (kn fbb ffu fsu fmo ((d : Int) * 6 + c) c k) + fco ((d : Int) * 6 + c)) (s := 0) (fsz (d : Int)).toNat ⟨c, c1, c2, ⟨hne, c4⟩, by
    show cf fsz fco ffu fsu fbb fmo fle (n - (d + 1)) (d + 1) (kn fbb ffu fsu fmo ((d : Int) * 6 + c) c k) + fco ((d : Int) * 6 + c) ≤ 900000
    omega⟩
  have b5 : cf fsz fco ffu fsu fbb fmo fle (n - d) d k = cf fsz fco ffu fsu fbb fmo fle (n - (d + 1)) (d + 1) (kn fbb ffu fsu fmo ((d : Int) * 6 + b) b k) + fco ((d : Int) * 6 + b) := by
    rw [e]; exact b4
  refine ⟨b, ⟨b1, by omega⟩, b3.1, b3.2, ?_⟩
  have hb : b * 8 ^ (11 - d) < 8 ^ (12 - d) := by
    rw [pw8 (by omega)]
    exact Int.mul_lt_mul_of_pos_right (by omega) (pw8p _)
  unfold cod
  rw [b5]
  omega
end
section
/-! THE FIRST TWENTY OF A SET OF NUMBERS -/
def FS (Xs : Int → Int → Prop) (m : Int) (R V : Int → Int) : Prop :=
  (0 ≤ m ∧ m ≤ 20) ∧ (∀ i, 0 ≤ i → i < m → Xs (R i) (V i)) ∧ (∀ i j, 0 ≤ i → i < j → j < m → R i < R j) ∧ (∀ E v, Xs E v → (∃ i, (0 ≤ i ∧ i < m) ∧ R i = E) ∨ (m = 20 ∧ R 19 < E))
theorem fs_0 {Xs : Int → Int → Prop} {R V : Int → Int} (h : ∀ E v, ¬ Xs E v) : FS Xs 0 R V := ⟨by omega, fun i h1 h2 => by omega, fun i j h1 h2 h3 => by omega, fun E v q => absurd q (h E v)⟩
theorem fs_congr {Xs Ys : Int → Int → Prop} {m : Int} {R V : Int → Int} (h : FS Xs m R V) (e : ∀ E v, Xs E v ↔ Ys E v) : FS Ys m R V :=
  ⟨h.1, fun i h1 h2 => (e _ _).mp (h.2.1 i h1 h2), h.2.2.1, fun E v q => h.2.2.2 E v ((e E v).mpr q)⟩
theorem fs_fn {Xs : Int → Int → Prop} {m : Int} {R V R' V' : Int → Int} (h : FS Xs m R V) (e : ∀ i, 0 ≤ i → i < 20 → R' i = R i ∧ V' i = V i) : FS Xs m R' V' := by
  obtain ⟨h1, h2, h3, h4⟩ := h
  refine ⟨h1, fun i i1 i2 => ?_, fun i j i1 i2 i3 => ?_, fun E v q => ?_⟩
  · rw [(e i i1 (by omega)).1, (e i i1 (by omega)).2]; exact h2 i i1 i2
  · rw [(e i i1 (by omega)).1, (e j (by omega) (by omega)).1]; exact h3 i j i1 i2 i3
  · rcases h4 E v q with ⟨i, i1, i2⟩ | ⟨i1, i2⟩
    · exact Or.inl ⟨i, i1, by rw [(e i i1.1 (by omega)).1]; exact i2⟩
    · exact Or.inr ⟨i1, by rw [(e 19 (by omega) (by omega)).1]; exact i2⟩
theorem fs_ins {Xs : Int → Int → Prop} {m m0 row en p : Int} {lr le LR LE : Int → Int} (h : FS Xs m lr le) (hm : (m < 20 ∧ m0 = m) ∨ (m = 20 ∧ m0 = 19 ∧ row < lr 19)) (hp : 0 ≤ p ∧ p ≤ m0)
    (f1 : ∀ i, 0 ≤ i → i < p → LR i = lr i ∧ LE i = le i) (f2 : LR p = row ∧ LE p = en) (f3 : ∀ i, p < i → i ≤ m0 → LR i = lr (i - 1) ∧ LE i = le (i - 1)) (o1 : ∀ i, 0 ≤ i → i < p → lr i < row) (o2 : ∀ i, p ≤ i → i < m0 → row < lr i) :
    FS (fun E v => Xs E v ∨ (E = row ∧ v = en)) (m0 + 1) LR LE := by
  obtain ⟨h1, h2, h3, h4⟩ := h
  have hlast : m0 = 19 → m = 20 → LR 19 < lr 19 := by
    intro e1 e2
    by_cases q : p = 19
    · have := f2.1; rw [q] at this; rw [this]; omega
    · rw [(f3 19 (by omega) (by omega)).1]; exact h3 (19 - 1) 19 (by omega) (by omega) (by omega)
  refine ⟨by omega, fun i i1 i2 => ?_, fun i j i1 i2 i3 => ?_, fun E v q => ?_⟩
  · by_cases q : i < p
    · rw [(f1 i i1 q).1, (f1 i i1 q).2]; exact Or.inl (h2 i i1 (by omega))
    · by_cases r : i = p
      · subst r; exact Or.inr f2
      · rw [(f3 i (by omega) (by omega)).1, (f3 i (by omega) (by omega)).2]; exact Or.inl (h2 (i - 1) (by omega) (by omega))
  · by_cases q : j < p
    · rw [(f1 i i1 (by omega)).1, (f1 j (by omega) q).1]; exact h3 i j i1 i2 (by omega)
    · by_cases r : j = p
      · rw [r, f2.1, (f1 i i1 (by omega)).1]; exact o1 i i1 (by omega)
      · rw [(f3 j (by omega) (by omega)).1]
        by_cases t : i < p
        · rw [(f1 i i1 t).1]; exact h3 i (j - 1) i1 (by omega) (by omega)
        · by_cases u : i = p
          · rw [u, f2.1]; exact o2 (j - 1) (by omega) (by omega)
          · rw [(f3 i (by omega) (by omega)).1]; exact h3 (i - 1) (j - 1) (by omega) (by omega) (by omega)
  · rcases q with q | ⟨q, -⟩
    · rcases h4 E v q with ⟨i, i1, i2⟩ | ⟨i1, i2⟩
      · by_cases r : i < p
        · exact Or.inl ⟨i, by omega, by rw [(f1 i i1.1 r).1]; exact i2⟩
        · by_cases t : i < m0
          · refine Or.inl ⟨i + 1, by omega, ?_⟩
            rw [(f3 (i + 1) (by omega) (by omega)).1, show i + 1 - 1 = i by omega]; exact i2
          · have e1 : i = 19 := by omega
            subst e1
            exact Or.inr ⟨by omega, by rw [← i2]; exact hlast (by omega) (by omega)⟩
      · refine Or.inr ⟨by omega, ?_⟩
        have := hlast (by omega) i1
        omega
    · exact Or.inl ⟨p, by omega, by rw [f2.1, q]⟩
theorem fs_out {Xs : Int → Int → Prop} {row en : Int} {lr le : Int → Int} (h : FS Xs 20 lr le) (hr : lr 19 < row) : FS (fun E v => Xs E v ∨ (E = row ∧ v = en)) 20 lr le := by
  obtain ⟨h1, h2, h3, h4⟩ := h
  refine ⟨h1, fun i i1 i2 => Or.inl (h2 i i1 i2), h3, fun E v q => ?_⟩
  rcases q with q | ⟨q, -⟩
  · exact h4 E v q
  · exact Or.inr ⟨rfl, by rw [q]; exact hr⟩
/-- the rows of length d that begin plans, with the nodes at which they end -/
def PC (fsz fco ffu fsu fbb fmo fle : Int → Int) (n : Nat) (gst gk : Int → Int) (d : Nat) (E v : Int) : Prop :=
  ∃ r k g, PR fsz fco ffu fsu fbb fmo fle n d r k g ∧ E = cod fsz fco ffu fsu fbb fmo fle n d r k g ∧ (gst (d : Int) ≤ v ∧ v < gst ((d : Int) + 1)) ∧ gk v = k
def rowf (fco gbe gcf R V : Int → Int) (d i c : Int) : Int := R i + (fco (d * 6 + c) + gcf (gbe (V i * 6 + c)) - gcf (V i)) * 68719476736 + c * 2 ^ (3 * (11 - d)).toNat
/-- what the rows kept lead to -/
def XR (fco gbe gwf gcf R V : Int → Int) (d sz x y : Int) (E v : Int) : Prop :=
  ∃ i c, (0 ≤ i ∧ (i < x ∨ (i = x ∧ c < y))) ∧ (0 ≤ c ∧ c < sz) ∧ (0 ≤ gbe (V i * 6 + c) ∧ ¬ gwf (gbe (V i * 6 + c)) = 0) ∧ E = rowf fco gbe gcf R V d i c ∧ v = gbe (V i * 6 + c)
theorem pw2 {d : Nat} (h : d < 12) : (2 : Int) ^ (3 * (11 - (d : Int))).toNat = 8 ^ (11 - d) := by
  rw [show (3 * (11 - (d : Int))).toNat = 3 * (11 - d) by omega, Int.pow_mul]; rfl
section FN
variable {fsz fco ffu fsu fbb fmo fle gst gk gwt gct gbe gwf gcf R V : Int → Int} {n d : Nat} {m : Int}
/-- a child of a row kept -/
theorem pc_child (hT : TB fsz fco ffu fsu fbb fmo) (hn : n ≤ 12) (hd : d < n) (hLS : LYS fsz fco ffu fsu fbb fmo n gst gk gwt gct gbe) (hB : ∀ d : Nat, d ≤ n → BK fsz fco ffu fsu fbb fmo fle n gk gwf gcf d (gst (d : Int)) (gst ((d : Int) + 1)))
    {E v c : Int} (h : PC fsz fco ffu fsu fbb fmo fle n gst gk d E v) (hc : 0 ≤ c ∧ c < fsz (d : Int)) :
    ∃ r k g, PR fsz fco ffu fsu fbb fmo fle n d r k g ∧ E = cod fsz fco ffu fsu fbb fmo fle n d r k g ∧ gk v = k ∧ ((0 ≤ gbe (v * 6 + c) ∧ ¬ gwf (gbe (v * 6 + c)) = 0) ↔ (¬ kn fbb ffu fsu fmo ((d : Int) * 6 + c) c k = -1 ∧ 0 < wf fsz ffu fsu fbb fmo fle (n - (d + 1)) (d + 1) (kn fbb ffu fsu fmo ((d : Int) * 6 + c) c k))) ∧
      ((0 ≤ gbe (v * 6 + c) ∧ ¬ gwf (gbe (v * 6 + c)) = 0) → E + (fco ((d : Int) * 6 + c) + gcf (gbe (v * 6 + c)) - gcf v) * 68719476736 + c * 2 ^ (3 * (11 - (d : Int))).toNat = cod fsz fco ffu fsu fbb fmo fle n (d + 1) (r + c * 8 ^ (11 - d)) (kn fbb ffu fsu fmo ((d : Int) * 6 + c) c k) (g + fco ((d : Int) * 6 + c)) ∧ PC fsz fco ffu fsu fbb fmo fle n gst gk (d + 1) (cod fsz fco ffu fsu fbb fmo fle n (d + 1) (r + c * 8 ^ (11 - d)) (kn fbb ffu fsu fmo ((d : Int) * 6 + c) c k) (g + fco ((d : Int) * 6 + c))) (gbe (v * 6 + c))) := by
  obtain ⟨r, k, g, h1, h2, h3, h4⟩ := h
  refine ⟨r, k, g, h1, h2, h4, ?_⟩
  have hLK := hLS.2.1 d hd c v hc.1 hc.2 h3.1 h3.2
  have hs0 := (hLS.1 d (by omega)).1
  have hs1 := (hLS.1 (d + 1) (by omega)).1
  have hw := pr_wf d r k g h1
  have hBd := hB d (by omega) v h3.1 h3.2
  rw [h4] at hLK hBd
  rcases hLK with ⟨x1, x2⟩ | ⟨x1, x2, x3⟩
  · exact ⟨⟨fun z => by omega, fun z => absurd x1 z.1⟩, fun z => by omega⟩
  · have e2 : ((d + 1 : Nat) : Int) = (d : Int) + 1 := by omega
    have hBn := hB (d + 1) (by omega) (gbe (v * 6 + c)) (by rw [e2]; exact x1.1) (by rw [e2, show (d : Int) + 1 + 1 = (d : Int) + 2 by omega]; exact x1.2)
    rw [x2] at hBn
    have hnn := wf_nn (fsz := fsz) (ffu := ffu) (fsu := fsu) (fbb := fbb) (fmo := fmo) (fle := fle) (n - (d + 1)) (d + 1) (kn fbb ffu fsu fmo ((d : Int) * 6 + c) c k)
    have key : (0 ≤ gbe (v * 6 + c) ∧ ¬ gwf (gbe (v * 6 + c)) = 0) ↔ (¬ kn fbb ffu fsu fmo ((d : Int) * 6 + c) c k = -1 ∧ 0 < wf fsz ffu fsu fbb fmo fle (n - (d + 1)) (d + 1) (kn fbb ffu fsu fmo ((d : Int) * 6 + c) c k)) := by
      rw [hBn.1]
      exact ⟨fun z => ⟨x3, by omega⟩, fun z => ⟨by omega, by omega⟩⟩
    refine ⟨key, fun z => ?_⟩
    have z2 := key.mp z
    have c1 := hBn.2.1 (by rw [hBn.1]; exact z2.2)
    have c2 := hBd.2.1 (by rw [hBd.1]; exact hw)
    refine ⟨?_, r + c * 8 ^ (11 - d), _, g + fco ((d : Int) * 6 + c), ⟨c, k, g, r, h1, hc, rfl, x3, z2.2, rfl, rfl⟩, rfl, ?_, x2⟩
    · rw [pw2 (by omega), c1, c2, h2]
      unfold cod
      omega
    · rw [e2, show (d : Int) + 1 + 1 = (d : Int) + 2 by omega]; exact x1
theorem pc_mult (hT : TB fsz fco ffu fsu fbb fmo) (hd : d ≤ 12) {E v : Int} (h : PC fsz fco ffu fsu fbb fmo fle n gst gk d E v) : ∃ q, E = q * 8 ^ (12 - d) := by
  obtain ⟨r, k, g, h1, h2, -⟩ := h
  obtain ⟨q, q1, -⟩ := pr_r hT d r k g hd h1
  have e : (8 : Int) ^ d * 8 ^ (12 - d) = 68719476736 := by
    rw [← Int.pow_add, show d + (12 - d) = 12 by omega]; rfl
  refine ⟨(g + cf fsz fco ffu fsu fbb fmo fle (n - d) d k + 12000) * 8 ^ d + q, ?_⟩
  rw [h2, Int.add_mul, Int.mul_assoc, e, ← q1]
  rfl
theorem mult_lt {M a b q p : Int} (hM : 0 < M) (ha : a = q * M) (hb : b = p * M) (h : a < b) : a + M ≤ b := by
  have h1 : q < p := by
    rcases Int.lt_or_le q p with z | z
    · exact z
    · have := Int.mul_le_mul_of_nonneg_right z (Int.le_of_lt hM); omega
  have h2 : (q + 1) * M ≤ p * M := Int.mul_le_mul_of_nonneg_right (by omega) (by omega)
  rw [Int.add_mul, Int.one_mul, ← ha, ← hb] at h2
  exact h2
/-- the first twenty of the next length come from the first twenty of this one -/
theorem fs_next (hT : TB fsz fco ffu fsu fbb fmo) (hn : n ≤ 12) (hd : d < n) (hLS : LYS fsz fco ffu fsu fbb fmo n gst gk gwt gct gbe) (hB : ∀ d : Nat, d ≤ n → BK fsz fco ffu fsu fbb fmo fle n gk gwf gcf d (gst (d : Int)) (gst ((d : Int) + 1)))
    (h : FS (PC fsz fco ffu fsu fbb fmo fle n gst gk d) m R V) {m' : Int} {R' V' : Int → Int} (h' : FS (XR fco gbe gwf gcf R V (d : Int) (fsz (d : Int)) m 0) m' R' V') : FS (PC fsz fco ffu fsu fbb fmo fle n gst gk (d + 1)) m' R' V' := by
  obtain ⟨a1, a2, a3, a4⟩ := h
  obtain ⟨b1, b2, b3, b4⟩ := h'
  have hM := pw8p (12 - d)
  refine ⟨b1, fun i i1 i2 => ?_, b3, fun E v q => ?_⟩
  · obtain ⟨j, c, c1, c2, c3, c4, c5⟩ := b2 i i1 i2
    obtain ⟨r, k, g, p1, p2, p3, p4, p5⟩ := pc_child hT hn hd hLS hB (a2 j c1.1 (by omega)) c2
    obtain ⟨p6, p7⟩ := p5 c3
    have e : R' i = cod fsz fco ffu fsu fbb fmo fle n (d + 1) (r + c * 8 ^ (11 - d)) (kn fbb ffu fsu fmo ((d : Int) * 6 + c) c k) (g + fco ((d : Int) * 6 + c)) := by
      rw [c4]; exact p6
    rw [e, c5]; exact p7
  · obtain ⟨r', k', g', q1, q2, q3, q4⟩ := q
    obtain ⟨c, k0, g0, r0, s1, s2, s3, s4, s5, s6, s7⟩ := q1
    -- the parent of E
    have hwp := pr_wf d r0 k0 g0 s1
    have hchild := cod_child hT hn hd (r := r0) (k := k0) (g := g0) s2 (by rw [s3]; exact s4) (by rw [s3]; exact s5)
    rw [s3, ← s6, ← s7, ← q2] at hchild
    -- a node with its key
    have hLd := hLS.1 d (by omega)
    have hk0 : 0 < wt fsz ffu fsu fbb fmo d k0 := by
      have : ∀ (d : Nat) (r k g : Int), d ≤ n → PR fsz fco ffu fsu fbb fmo fle n d r k g → 0 < wt fsz ffu fsu fbb fmo d k := by
        intro d
        induction d with
        | zero => intro r k g _ h; rw [h.2.1]; unfold wt; rw [if_pos rfl]; omega
        | succ d ih =>
          intro r k g hd h
          obtain ⟨c, k0, g0, r0, t1, t2, t3, t4, t5, t6, t7⟩ := h
          have w := ih r0 k0 g0 (by omega) t1
          rw [← t3]
          exact wt_pos hT (by omega) t2.1 t2.2 (wt_vk hT d k0 (by omega) w) w (by rw [t3]; exact t4)
      exact this d r0 k0 g0 (by omega) s1
    obtain ⟨v0, v1, v2, v3⟩ := hLd.2.1.2.2 k0 hk0
    have hpar : PC fsz fco ffu fsu fbb fmo fle n gst gk d (cod fsz fco ffu fsu fbb fmo fle n d r0 k0 g0) v0 := ⟨r0, k0, g0, s1, rfl, ⟨v1, v2⟩, v3⟩
    rcases a4 _ _ hpar with ⟨i, i1, i2⟩ | ⟨i1, i2⟩
    · -- the parent is kept: E is among the children
      obtain ⟨r, k, g, p1, p2, p3, p4, p5⟩ := pc_child hT hn hd hLS hB (a2 i i1.1 i1.2) s2
      have hr0 := pr_rb hT (by omega) s1
      have hr := pr_rb hT (by omega) p1
      have er : r = r0 := by
        rw [p2] at i2
        unfold cod at i2
        have hp := pw8p (12 - d)
        omega
      subst er
      obtain ⟨ek, eg⟩ := pr_fun hT d r k g k0 g0 (by omega) p1 s1
      subst ek eg
      have hcnd := p4.mpr ⟨by rw [s3]; exact s4, by rw [s3]; exact s5⟩
      have p6 := (p5 hcnd).1
      refine b4 E _ ⟨i, c, ⟨i1.1, Or.inl i1.2⟩, s2, hcnd, ?_, rfl⟩
      rw [q2, s6, s7, ← s3, ← p6]
      rfl
    · -- twenty better ones
      have step : ∀ i : Nat, (i : Int) < 20 → (m' = 20 ∧ R' 19 < E) ∨ ∃ j B, (i : Int) ≤ j ∧ j < m' ∧ R' j = B ∧ B < R (i : Int) + 8 ^ (12 - d) := by
        have best : ∀ i : Nat, (i : Int) < 20 → ∃ B w, XR fco gbe gwf gcf R V (d : Int) (fsz (d : Int)) m 0 B w ∧ R (i : Int) ≤ B ∧ B < R (i : Int) + 8 ^ (12 - d) := by
          intro i hi
          have hPi := a2 (i : Int) (by omega) (by omega)
          obtain ⟨r, k, g, p1, p2, -, -⟩ := id hPi
          obtain ⟨c, d1, d2, d3, d4⟩ := cod_best hT hn hd (r := r) (g := g) (pr_wf d r k g p1)
          obtain ⟨r1, k1, g1, p1', p2', p3', p4', p5'⟩ := pc_child hT hn hd hLS hB hPi d1
          have hr0 := pr_rb hT (by omega) p1
          have hr := pr_rb hT (by omega) p1'
          have er : r1 = r := by
            have e := p2.symm.trans p2'
            unfold cod at e
            have hp := pw8p (12 - d)
            omega
          subst er
          obtain ⟨ek, eg⟩ := pr_fun hT d r1 k1 g1 k g (by omega) p1' p1
          subst ek eg
          have hcnd := p4'.mpr ⟨d2, d3⟩
          have p6 := (p5' hcnd).1
          have hch := cod_child hT hn hd (r := r1) (k := k1) (g := g1) d1 d2 d3
          refine ⟨_, _, ⟨(i : Int), c, ⟨by omega, Or.inl (by omega)⟩, d1, hcnd, rfl, rfl⟩, ?_, ?_⟩
          · show R (i : Int) ≤ R (i : Int) + (fco ((d : Int) * 6 + c) + gcf (gbe (V (i : Int) * 6 + c)) - gcf (V (i : Int))) * 68719476736 + c * 2 ^ (3 * (11 - (d : Int))).toNat
            rw [p6, p2']; exact hch
          · show R (i : Int) + (fco ((d : Int) * 6 + c) + gcf (gbe (V (i : Int) * 6 + c)) - gcf (V (i : Int))) * 68719476736 + c * 2 ^ (3 * (11 - (d : Int))).toNat < _
            rw [p6, p2']; exact d4
        have hup : ∀ i : Nat, (i : Int) < 20 → R (i : Int) + 8 ^ (12 - d) ≤ E := by
          intro i hi
          obtain ⟨x1, hx1⟩ := pc_mult hT (by omega) (a2 (i : Int) (by omega) (by omega))
          obtain ⟨x2, hx2⟩ := pc_mult hT (by omega) hpar
          have hlt : R (i : Int) < cod fsz fco ffu fsu fbb fmo fle n d r0 k0 g0 := by
            by_cases z : (i : Int) = 19
            · rw [z]; exact i2
            · have := a3 (i : Int) 19 (by omega) (by omega) (by omega); omega
          have := mult_lt hM hx1 hx2 hlt
          omega
        intro i
        induction i with
        | zero =>
          intro hi
          obtain ⟨B, w, w1, w2, w3⟩ := best 0 hi
          rcases b4 B w w1 with ⟨j, j1, j2⟩ | ⟨j1, j2⟩
          · exact Or.inr ⟨j, B, by omega, j1.2, j2, w3⟩
          · have := hup 0 hi; exact Or.inl ⟨j1, by omega⟩
        | succ i ih =>
          intro hi
          rcases ih (by omega) with z | ⟨j, B, z1, z2, z3, z4⟩
          · exact Or.inl z
          · obtain ⟨B', w, w1, w2, w3⟩ := best (i + 1) hi
            have u1 := hup (i + 1) hi
            obtain ⟨x1, hx1⟩ := pc_mult hT (by omega) (a2 (i : Int) (by omega) (by omega))
            obtain ⟨x2, hx2⟩ := pc_mult hT (by omega) (a2 ((i + 1 : Nat) : Int) (by omega) (by omega))
            have hlt := mult_lt hM hx1 hx2 (a3 (i : Int) ((i + 1 : Nat) : Int) (by omega) (by omega) (by omega))
            rcases b4 B' w w1 with ⟨j', j1, j2⟩ | ⟨j1, j2⟩
            · refine Or.inr ⟨j', B', ?_, j1.2, j2, w3⟩
              have : j < j' := by
                rcases Int.lt_or_le j j' with t | t
                · exact t
                · by_cases t2 : j' = j
                  · subst t2; omega
                  · have := b3 j' j j1.1 (by omega) z2; omega
              omega
            · exact Or.inl ⟨j1, by omega⟩
      rcases step 19 (by omega) with z | ⟨j, B, z1, z2, z3, z4⟩
      · exact Or.inr z
      · have e1 : j = 19 := by omega
        subst e1
        refine Or.inr ⟨by omega, ?_⟩
        obtain ⟨x1, hx1⟩ := pc_mult hT (by omega) (a2 19 (by omega) (by omega))
        obtain ⟨x2, hx2⟩ := pc_mult hT (by omega) hpar
        have := mult_lt hM hx1 hx2 i2
        rw [z3]
        have e19 : ((19 : Nat) : Int) = 19 := rfl
        rw [e19] at z4
        omega
end FN
end
section
/-! LONGS: shifts, masks -/
theorem l_sh : ∀ n : Nat, n < 64 → (((nI n).toInt64 &&& 63).toBitVec.smod 64).toNat = n := by decide +kernel
theorem pkl_shl (a s : Int64) (k : Nat) (hs : (s.toBitVec.smod 64).toNat = k) : (a <<< s).toBitVec.toNat = a.toBitVec.toNat * 2 ^ k % 2 ^ 64 := by
  show (a.toBitVec <<< (s.toBitVec.smod 64).toNat).toNat = _
  rw [hs, BitVec.toNat_shiftLeft, Nat.shiftLeft_eq]
theorem pkl_shr (a s : Int64) (k : Nat) (hs : (s.toBitVec.smod 64).toNat = k) : (a >>> s).toInt = a.toInt >>> k := by
  show (a.toBitVec.sshiftRight (s.toBitVec.smod 64).toNat).toInt = _
  rw [hs, BitVec.toInt_sshiftRight]
  rfl
theorem lI_bv (a : Int) : (lI a).toBitVec.toNat = (a % 18446744073709551616).toNat := by
  show (BitVec.ofInt 64 a).toNat = _
  rw [BitVec.toNat_ofInt]
  rfl
theorem lI_shl {a k d : Int} (h0 : 0 ≤ k) (h1 : k < 64) (h2 : (2 : Int) ^ k.toNat = d) : lI a <<< ((iI k).toInt64 &&& 63) = lI (a * d) := by
  obtain ⟨n, rfl⟩ : ∃ n : Nat, k = (n : Int) := ⟨k.toNat, by omega⟩
  rw [Int.toNat_natCast] at h2
  rw [iI_nat, ← h2]
  apply Int64.toBitVec_inj.mp
  apply BitVec.eq_of_toNat_eq
  rw [pkl_shl _ _ n (l_sh n (by omega)), lI_bv, lI_bv]
  apply Int.ofNat.inj
  show (((a % 18446744073709551616).toNat * 2 ^ n % 2 ^ 64 : Nat) : Int) = ((a * 2 ^ n % 18446744073709551616).toNat : Int)
  rw [Int.natCast_emod, Int.natCast_mul, Int.natCast_pow, Int.toNat_of_nonneg (Int.emod_nonneg _ (by omega)), Int.toNat_of_nonneg (Int.emod_nonneg _ (by omega))]
  show a % 18446744073709551616 * 2 ^ n % 18446744073709551616 = a * 2 ^ n % 18446744073709551616
  rw [Int.mul_emod, Int.emod_emod_of_dvd _ (Int.dvd_refl _), ← Int.mul_emod]
theorem lI_shr {a k d : Int} (ha : 0 ≤ a ∧ a < 9223372036854775808) (h0 : 0 ≤ k) (h1 : k < 64) (h2 : (2 : Int) ^ k.toNat = d) : lI a >>> ((iI k).toInt64 &&& 63) = lI (a / d) := by
  obtain ⟨n, rfl⟩ : ∃ n : Nat, k = (n : Int) := ⟨k.toNat, by omega⟩
  rw [Int.toNat_natCast] at h2
  rw [iI_nat, ← h2]
  apply Int64.toInt_inj.mp
  rw [pkl_shr _ _ n (l_sh n (by omega)), lI_toInt (by constructor <;> omega), Int.shiftRight_eq_div_pow]
  have hd : a / ((2 ^ n : Nat) : Int) = a / 2 ^ n := by rw [Int.natCast_pow]; rfl
  have hp : (0 : Int) < 2 ^ n := Int.pow_pos (by omega)
  have b1 : 0 ≤ a / 2 ^ n := Int.ediv_nonneg ha.1 (by omega)
  have b2 : a / 2 ^ n ≤ a := Int.ediv_le_self _ ha.1
  rw [hd, lI_toInt (by constructor <;> omega)]
end
section
/-! insertion, step by step -/
theorem ki_1 {LR LE lr le : Int → Int} {x v w : Int} (h : ∀ i, 0 ≤ i → i ≤ x → LR i = lr i ∧ LE i = le i) : ∀ i, 0 ≤ i → i ≤ x + (-1) → uZ LR x v i = lr i ∧ uZ LE x w i = le i := by
  intro i h1 h2
  rw [uZ_n (by omega), uZ_n (by omega)]
  exact h i h1 (by omega)
theorem ki_2 {LR LE lr le : Int → Int} {x m0 : Int} (h1 : ∀ i, 0 ≤ i → i ≤ x → LR i = lr i ∧ LE i = le i) (h2 : ∀ i, x < i → i ≤ m0 → LR i = lr (i - 1) ∧ LE i = le (i - 1)) (hx : 0 < x) : ∀ i, x + (-1) < i → i ≤ m0 → uZ LR x (LR (x - 1)) i = lr (i - 1) ∧ uZ LE x (LE (x - 1)) i = le (i - 1) := by
  intro i a b
  by_cases q : i = x
  · subst q; rw [uZ_s, uZ_s]; exact h1 (i - 1) (by omega) (by omega)
  · rw [uZ_n q, uZ_n q]; exact h2 i (by omega) b
theorem ki_3 {lr : Int → Int} {x m0 w : Int} (h : ∀ i, x ≤ i → i < m0 → w < lr i) (hx : w < lr (x - 1)) : ∀ i, x + (-1) ≤ i → i < m0 → w < lr i := by
  intro i a b
  by_cases q : i = x - 1
  · subst q; exact hx
  · exact h i (by omega) b
theorem ki_lo {Xs : Int → Int → Prop} {m x w : Int} {lr le : Int → Int} (h : FS Xs m lr le) (hne : ∀ i, 0 ≤ i → i < m → ¬ lr i = w) (h1 : 0 < x) (h2 : x ≤ m) (h3 : lr (x - 1) ≤ w) : ∀ i, 0 ≤ i → i < x → lr i < w := by
  intro i a b
  by_cases q : i = x - 1
  · subst q; have := hne (x - 1) (by omega) (by omega); omega
  · have := h.2.2.1 i (x - 1) a (by omega) (by omega); omega
theorem ki_fin {Xs : Int → Int → Prop} {m m0 x w b : Int} {lr le LR LE : Int → Int} (h : FS Xs m lr le) (hm : (m < 20 ∧ m0 = m) ∨ (m = 20 ∧ m0 = 19 ∧ w < lr 19)) (hx : 0 ≤ x ∧ x ≤ m0) (k1 : ∀ i, 0 ≤ i → i ≤ x → LR i = lr i ∧ LE i = le i) (k2 : ∀ i, x < i → i ≤ m0 → LR i = lr (i - 1) ∧ LE i = le (i - 1)) (hlo : ∀ i, 0 ≤ i → i < x → lr i < w) (k3 : ∀ i, x ≤ i → i < m0 → w < lr i) : FS (fun E v => Xs E v ∨ (E = w ∧ v = b)) (m0 + 1) (uZ LR x w) (uZ LE x b) :=
  fs_ins h hm hx (fun i h1 h2 => by rw [uZ_n (by omega), uZ_n (by omega)]; exact k1 i h1 (by omega)) ⟨uZ_s, uZ_s⟩ (fun i h1 h2 => by rw [uZ_n (by omega), uZ_n (by omega)]; exact k2 i h1 h2) hlo k3
theorem fs_out2 {Xs : Int → Int → Prop} {m row en : Int} {lr le : Int → Int} (h : FS Xs m lr le) (hm : m = 20) (hr : lr 19 < row) : FS (fun E v => Xs E v ∨ (E = row ∧ v = en)) m lr le := by
  subst hm; exact fs_out h hr
end
section
/-! FirstPlans: reads, keepIfAmongFirst -/
abbrev sty_F_bitsBehind : MethodName := ⟨"StateTables$FirstPlans", "bitsBehind", "(I)I"⟩
abbrev stc_F_bitsBehind : ByteArray := prog_2_method_4_code
theorem sth_F_bitsBehind : (sty_F_bitsBehind).cls ≠ "java/lang/invoke/MethodHandle" ∧ (sty_F_bitsBehind).cls ≠ "java/lang/invoke/VarHandle" ∧ (parseMethodDescriptor (sty_F_bitsBehind).desc).map (fun d => d.parameters.length) = some 1 := by decide +kernel
theorem std_F_bitsBehind_0 : decode stc_F_bitsBehind 0 = .ok (.iconst 3, 1) := by decide +kernel
theorem std_F_bitsBehind_1 : decode stc_F_bitsBehind 1 = .ok (.bipush 11, 2) := by decide +kernel
theorem std_F_bitsBehind_3 : decode stc_F_bitsBehind 3 = .ok (.iload_n 0, 1) := by decide +kernel
theorem std_F_bitsBehind_4 : decode stc_F_bitsBehind 4 = .ok (.isub, 1) := by decide +kernel
theorem std_F_bitsBehind_5 : decode stc_F_bitsBehind 5 = .ok (.imul, 1) := by decide +kernel
theorem std_F_bitsBehind_6 : decode stc_F_bitsBehind 6 = .ok (.ireturn, 1) := by decide +kernel
set_option maxHeartbeats 4000000 in
set_option maxRecDepth 100000 in
theorem c_bitsBehind (l : Launch) (dC : Nat → ClassId) (dI : Nat → Nat → Nat) (cI cJ cZ : ClassId) (a : Int)  : ∀ sz, Met l sty_F_bitsBehind (Cond.code sty_F_bitsBehind stc_F_bitsBehind 1 (some .int) :: stGW) ({ frames := 0, cells := 0, slots := 0, locals := 0 } : Room) (va_Pc [.int (iI a)] (zPre (dC, dI) stCl [(cI, .int), (cJ, .long), (cZ, .boolean)] st_nw [] sz)) (va_Qi (fun (r : Int32) (_ : Unit) => r = iI (3 * (11 - a))) (zPost (dC, dI) stCl [(cI, .int), (cJ, .long), (cZ, .boolean)] [] sz (fun _ : Unit => [])) (va_A [] sz)) 0 0 (va_A [] sz) := by
  refine met_i (by decide) rfl (Nat.le_of_ble_eq_true rfl) ?_
  intro p e s m below meth c A Q C hmn hret
  refine g_iconst C std_F_bitsBehind_0 ?_
  refine g_bipush C std_F_bitsBehind_1 (by decide) ?_
  refine g_iload_n C 0 std_F_bitsBehind_3 rfl ?_
  refine g_isub C std_F_bitsBehind_4 ?_
  refine g_imul C std_F_bitsBehind_5 ?_
  exact hret _ _ _ () (rfl) std_F_bitsBehind_6

abbrev sty_F_costOf : MethodName := ⟨"StateTables$FirstPlans", "costOf", "(I)I"⟩
abbrev stc_F_costOf : ByteArray := prog_2_method_2_code
theorem sth_F_costOf : (sty_F_costOf).cls ≠ "java/lang/invoke/MethodHandle" ∧ (sty_F_costOf).cls ≠ "java/lang/invoke/VarHandle" ∧ (parseMethodDescriptor (sty_F_costOf).desc).map (fun d => d.parameters.length) = some 1 := by decide +kernel
theorem std_F_costOf_0 : decode stc_F_costOf 0 = .ok (.aload_n 0, 1) := by decide +kernel
theorem std_F_costOf_1 : decode stc_F_costOf 1 = .ok (.getfield 11, 3) := by decide +kernel
theorem kw_1_133 : Cond.fieldLink "StateTables$FirstPlans" 11 "StateTables$FirstPlans" "rows" "[J" ∈ stGW := st_t1 (List.mem_of_getElem? (i := 133) (by decide +kernel)) (by decide +kernel)
theorem std_F_costOf_4 : decode stc_F_costOf 4 = .ok (.iload_n 1, 1) := by decide +kernel
theorem std_F_costOf_5 : decode stc_F_costOf 5 = .ok (.laload, 1) := by decide +kernel
theorem std_F_costOf_6 : decode stc_F_costOf 6 = .ok (.bipush 36, 2) := by decide +kernel
theorem std_F_costOf_8 : decode stc_F_costOf 8 = .ok (.lshr, 1) := by decide +kernel
theorem std_F_costOf_9 : decode stc_F_costOf 9 = .ok (.l2i, 1) := by decide +kernel
theorem std_F_costOf_10 : decode stc_F_costOf 10 = .ok (.sipush 12000, 3) := by decide +kernel
theorem std_F_costOf_13 : decode stc_F_costOf 13 = .ok (.isub, 1) := by decide +kernel
theorem std_F_costOf_14 : decode stc_F_costOf 14 = .ok (.ireturn, 1) := by decide +kernel
set_option maxHeartbeats 4000000 in
set_option maxRecDepth 100000 in
theorem c_costOf (l : Launch) (dC : Nat → ClassId) (dI : Nat → Nat → Nat) (cI cJ cZ : ClassId) (f0 : Nat) (r1 : Nat) (e1 : Nat) (r2 : Nat) (e2 : Nat) (fo : Int) (lf : Int) (t0 : Nat) (y0 : Nat) (fr1 : Int → Int) (a : Int) (ka : 0 ≤ a ∧ a < 20) (kr : 0 ≤ fr1 a ∧ fr1 a < 4611686018427387904) : ∀ sz, Met l sty_F_costOf (Cond.code sty_F_costOf stc_F_costOf 2 (some .int) :: stGW) ({ frames := 0, cells := 0, slots := 0, locals := 0 } : Room) (va_Pc [.ref f0, .int (iI a)] (zPre (dC, dI) stCl [(cI, .int), (cJ, .long), (cZ, .boolean)] st_nw [(f0, .inr (3, [.ref t0, .ref y0, .int (iI fo), .ref r1, .ref e1, .int (iI lf), .ref r2, .ref e2])), (r1, .inl (cJ, aL 20 fr1))] sz)) (va_Qi (fun (r : Int32) (_ : Unit) => r = iI (((fr1 a) / 68719476736) - 12000)) (zPost (dC, dI) stCl [(cI, .int), (cJ, .long), (cZ, .boolean)] [(f0, .inr (3, [.ref t0, .ref y0, .int (iI fo), .ref r1, .ref e1, .int (iI lf), .ref r2, .ref e2])), (r1, .inl (cJ, aL 20 fr1))] sz (fun _ : Unit => [(f0, .inr (3, [.ref t0, .ref y0, .int (iI fo), .ref r1, .ref e1, .int (iI lf), .ref r2, .ref e2])), (r1, .inl (cJ, aL 20 fr1))])) (va_A [(f0, .inr (3, [.ref t0, .ref y0, .int (iI fo), .ref r1, .ref e1, .int (iI lf), .ref r2, .ref e2])), (r1, .inl (cJ, aL 20 fr1))] sz)) 0 0 (va_A [(f0, .inr (3, [.ref t0, .ref y0, .int (iI fo), .ref r1, .ref e1, .int (iI lf), .ref r2, .ref e2])), (r1, .inl (cJ, aL 20 fr1))] sz) := by
  refine met_i (by decide) rfl (Nat.le_of_ble_eq_true rfl) ?_
  intro p e s m below meth c A Q C hmn hret
  refine g_aload_n C 0 std_F_costOf_0 rfl ?_
  refine g_get C (st_sub sti_F) 0 rfl rfl 3 (by decide) (List.mem_cons_of_mem _ kw_1_133) rfl rfl std_F_costOf_1 ?_
  refine g_iload_n C 1 std_F_costOf_4 rfl ?_
  refine g_lald C 1 1 rfl rfl (by omega) (by omega) (by omega) std_F_costOf_5 ?_
  refine g_bipush C std_F_costOf_6 (by decide) ?_
  refine g_lshr C (z := ((fr1 a) / 68719476736)) std_F_costOf_8 (lI_shr (by omega) (by decide) (by decide) (by decide)) ?_
  refine g_l2i C std_F_costOf_9 ?_
  refine g_sipush C std_F_costOf_10 (by decide) ?_
  refine g_isub C std_F_costOf_13 ?_
  exact hret _ _ _ () (rfl) std_F_costOf_14

abbrev sty_F_choiceOf : MethodName := ⟨"StateTables$FirstPlans", "choiceOf", "(II)I"⟩
abbrev stc_F_choiceOf : ByteArray := prog_2_method_3_code
theorem sth_F_choiceOf : (sty_F_choiceOf).cls ≠ "java/lang/invoke/MethodHandle" ∧ (sty_F_choiceOf).cls ≠ "java/lang/invoke/VarHandle" ∧ (parseMethodDescriptor (sty_F_choiceOf).desc).map (fun d => d.parameters.length) = some 2 := by decide +kernel
theorem std_F_choiceOf_0 : decode stc_F_choiceOf 0 = .ok (.aload_n 0, 1) := by decide +kernel
theorem std_F_choiceOf_1 : decode stc_F_choiceOf 1 = .ok (.getfield 11, 3) := by decide +kernel
theorem std_F_choiceOf_4 : decode stc_F_choiceOf 4 = .ok (.iload_n 1, 1) := by decide +kernel
theorem std_F_choiceOf_5 : decode stc_F_choiceOf 5 = .ok (.laload, 1) := by decide +kernel
theorem std_F_choiceOf_6 : decode stc_F_choiceOf 6 = .ok (.iload_n 2, 1) := by decide +kernel
theorem std_F_choiceOf_7 : decode stc_F_choiceOf 7 = .ok (.invokestatic 33, 3) := by decide +kernel
theorem kw_2_138 : Cond.code sty_F_bitsBehind stc_F_bitsBehind 1 (some .int) ∈ stGW := st_t2 (List.mem_of_getElem? (i := 138) (by decide +kernel)) (by decide +kernel)
theorem kw_1_4 : Cond.initialized "StateTables$FirstPlans" ∈ stGW := st_t1 (List.mem_of_getElem? (i := 4) (by decide +kernel)) (by decide +kernel)
theorem kw_2_136 : Cond.methodLink "StateTables$FirstPlans" 33 (sty_F_bitsBehind) ∈ stGW := st_t2 (List.mem_of_getElem? (i := 136) (by decide +kernel)) (by decide +kernel)
theorem kw_2_137 : Cond.static (sty_F_bitsBehind) ∈ stGW := st_t2 (List.mem_of_getElem? (i := 137) (by decide +kernel)) (by decide +kernel)
theorem std_F_choiceOf_10 : decode stc_F_choiceOf 10 = .ok (.lshr, 1) := by decide +kernel
theorem std_F_choiceOf_11 : decode stc_F_choiceOf 11 = .ok (.l2i, 1) := by decide +kernel
theorem std_F_choiceOf_12 : decode stc_F_choiceOf 12 = .ok (.bipush 7, 2) := by decide +kernel
theorem std_F_choiceOf_14 : decode stc_F_choiceOf 14 = .ok (.iand, 1) := by decide +kernel
theorem std_F_choiceOf_15 : decode stc_F_choiceOf 15 = .ok (.ireturn, 1) := by decide +kernel
set_option maxHeartbeats 4000000 in
set_option maxRecDepth 100000 in
theorem c_choiceOf (l : Launch) (dC : Nat → ClassId) (dI : Nat → Nat → Nat) (cI cJ cZ : ClassId) (f0 : Nat) (r1 : Nat) (e1 : Nat) (r2 : Nat) (e2 : Nat) (fo : Int) (lf : Int) (t0 : Nat) (y0 : Nat) (fr1 : Int → Int) (a : Int) (b : Int) (ka : 0 ≤ a ∧ a < 20) (kb : 0 ≤ b ∧ b < 12) (kr : 0 ≤ fr1 a ∧ fr1 a < 4611686018427387904) : ∀ sz, Met l sty_F_choiceOf (Cond.code sty_F_choiceOf stc_F_choiceOf 3 (some .int) :: stGW) ({ frames := 1, cells := 0, slots := 0, locals := 20 } : Room) (va_Pc [.ref f0, .int (iI a), .int (iI b)] (zPre (dC, dI) stCl [(cI, .int), (cJ, .long), (cZ, .boolean)] st_nw [(f0, .inr (3, [.ref t0, .ref y0, .int (iI fo), .ref r1, .ref e1, .int (iI lf), .ref r2, .ref e2])), (r1, .inl (cJ, aL 20 fr1))] sz)) (va_Qi (fun (r : Int32) (_ : Unit) => r = iI (((fr1 a) / (2 ^ (3 * (11 - b)).toNat)) % 8)) (zPost (dC, dI) stCl [(cI, .int), (cJ, .long), (cZ, .boolean)] [(f0, .inr (3, [.ref t0, .ref y0, .int (iI fo), .ref r1, .ref e1, .int (iI lf), .ref r2, .ref e2])), (r1, .inl (cJ, aL 20 fr1))] sz (fun _ : Unit => [(f0, .inr (3, [.ref t0, .ref y0, .int (iI fo), .ref r1, .ref e1, .int (iI lf), .ref r2, .ref e2])), (r1, .inl (cJ, aL 20 fr1))])) (va_A [(f0, .inr (3, [.ref t0, .ref y0, .int (iI fo), .ref r1, .ref e1, .int (iI lf), .ref r2, .ref e2])), (r1, .inl (cJ, aL 20 fr1))] sz)) 0 0 (va_A [(f0, .inr (3, [.ref t0, .ref y0, .int (iI fo), .ref r1, .ref e1, .int (iI lf), .ref r2, .ref e2])), (r1, .inl (cJ, aL 20 fr1))] sz) := by
  refine met_i (by decide) rfl (Nat.le_of_ble_eq_true rfl) ?_
  intro p e s m below meth c A Q C hmn hret
  refine g_aload_n C 0 std_F_choiceOf_0 rfl ?_
  refine g_get C (st_sub sti_F) 0 rfl rfl 3 (by decide) (List.mem_cons_of_mem _ kw_1_133) rfl rfl std_F_choiceOf_1 ?_
  refine g_iload_n C 1 std_F_choiceOf_4 rfl ?_
  refine g_lald C 1 1 rfl rfl (by omega) (by omega) (by omega) std_F_choiceOf_5 ?_
  refine g_iload_n C 2 std_F_choiceOf_6 rfl ?_
  refine g_S_i (wc := []) (wr := [(f0, .inr (3, [.ref t0, .ref y0, .int (iI fo), .ref r1, .ref e1, .int (iI lf), .ref r2, .ref e2])), (r1, .inl (cJ, aL 20 fr1))]) (rest := [.long (lI (fr1 a))]) C (c_bitsBehind l dC dI cI cJ cZ b ) (st_cS C kw_2_138 kw_2_136 kw_1_4 kw_2_137 sth_F_bitsBehind ⟨Nat.le_of_ble_eq_true rfl, Nat.le_of_ble_eq_true rfl⟩) rfl rfl (Nat.le_of_ble_eq_true rfl) std_F_choiceOf_7 ⟨Nat.le_of_ble_eq_true rfl, Nat.le_of_ble_eq_true rfl⟩ [] [0, 1] rfl rfl rfl rfl (by decide) (fun r1 u2 h3 => ?_)
  subst h3
  refine g_ws (ws' := [(f0, .inr (3, [.ref t0, .ref y0, .int (iI fo), .ref r1, .ref e1, .int (iI lf), .ref r2, .ref e2])), (r1, .inl (cJ, aL 20 fr1))]) rfl ?_
  refine g_lshr C (z := ((fr1 a) / (2 ^ (3 * (11 - b)).toNat))) std_F_choiceOf_10 (lI_shr (by omega) (by omega) (by omega) rfl) ?_
  refine g_l2i C std_F_choiceOf_11 ?_
  refine g_bipush C std_F_choiceOf_12 (by decide) ?_
  refine g_iand C std_F_choiceOf_14 (iI_andK (d := 8) 3 (by decide) (by decide) (by decide)) ?_
  refine g_wide (k := 0) (n := 0) (Nat.le_of_ble_eq_true rfl) (Nat.le_of_ble_eq_true rfl) ?_
  exact hret _ _ _ () (rfl) std_F_choiceOf_15

abbrev sty_F_keepIfAmongFirst : MethodName := ⟨"StateTables$FirstPlans", "keepIfAmongFirst", "(JI)V"⟩
abbrev stc_F_keepIfAmongFirst : ByteArray := prog_2_method_8_code
theorem sth_F_keepIfAmongFirst : (sty_F_keepIfAmongFirst).cls ≠ "java/lang/invoke/MethodHandle" ∧ (sty_F_keepIfAmongFirst).cls ≠ "java/lang/invoke/VarHandle" ∧ (parseMethodDescriptor (sty_F_keepIfAmongFirst).desc).map (fun d => d.parameters.length) = some 2 := by decide +kernel
theorem std_F_keepIfAmongFirst_0 : decode stc_F_keepIfAmongFirst 0 = .ok (.aload_n 0, 1) := by decide +kernel
theorem std_F_keepIfAmongFirst_1 : decode stc_F_keepIfAmongFirst 1 = .ok (.getfield 58, 3) := by decide +kernel
theorem kw_1_135 : Cond.fieldLink "StateTables$FirstPlans" 58 "StateTables$FirstPlans" "longerFound" "I" ∈ stGW := st_t1 (List.mem_of_getElem? (i := 135) (by decide +kernel)) (by decide +kernel)
theorem std_F_keepIfAmongFirst_4 : decode stc_F_keepIfAmongFirst 4 = .ok (.bipush 20, 2) := by decide +kernel
theorem std_F_keepIfAmongFirst_6 : decode stc_F_keepIfAmongFirst 6 = .ok (.if_icmp .ne 26, 3) := by decide +kernel
theorem std_F_keepIfAmongFirst_32 : decode stc_F_keepIfAmongFirst 32 = .ok (.aload_n 0, 1) := by decide +kernel
theorem std_F_keepIfAmongFirst_33 : decode stc_F_keepIfAmongFirst 33 = .ok (.getfield 58, 3) := by decide +kernel
theorem std_F_keepIfAmongFirst_36 : decode stc_F_keepIfAmongFirst 36 = .ok (.istore 4, 2) := by decide +kernel
theorem std_F_keepIfAmongFirst_38 : decode stc_F_keepIfAmongFirst 38 = .ok (.iload 4, 2) := by decide +kernel
theorem std_F_keepIfAmongFirst_40 : decode stc_F_keepIfAmongFirst 40 = .ok (.ifCond .le 55, 3) := by decide +kernel
theorem std_F_keepIfAmongFirst_95 : decode stc_F_keepIfAmongFirst 95 = .ok (.aload_n 0, 1) := by decide +kernel
theorem std_F_keepIfAmongFirst_96 : decode stc_F_keepIfAmongFirst 96 = .ok (.getfield 19, 3) := by decide +kernel
theorem kw_1_136 : Cond.fieldLink "StateTables$FirstPlans" 19 "StateTables$FirstPlans" "longerRows" "[J" ∈ stGW := st_t1 (List.mem_of_getElem? (i := 136) (by decide +kernel)) (by decide +kernel)
theorem std_F_keepIfAmongFirst_99 : decode stc_F_keepIfAmongFirst 99 = .ok (.iload 4, 2) := by decide +kernel
theorem std_F_keepIfAmongFirst_101 : decode stc_F_keepIfAmongFirst 101 = .ok (.lload_n 1, 1) := by decide +kernel
theorem std_F_keepIfAmongFirst_102 : decode stc_F_keepIfAmongFirst 102 = .ok (.lastore, 1) := by decide +kernel
theorem std_F_keepIfAmongFirst_103 : decode stc_F_keepIfAmongFirst 103 = .ok (.aload_n 0, 1) := by decide +kernel
theorem std_F_keepIfAmongFirst_104 : decode stc_F_keepIfAmongFirst 104 = .ok (.getfield 22, 3) := by decide +kernel
theorem kw_1_137 : Cond.fieldLink "StateTables$FirstPlans" 22 "StateTables$FirstPlans" "longerEnds" "[I" ∈ stGW := st_t1 (List.mem_of_getElem? (i := 137) (by decide +kernel)) (by decide +kernel)
theorem std_F_keepIfAmongFirst_107 : decode stc_F_keepIfAmongFirst 107 = .ok (.iload 4, 2) := by decide +kernel
theorem std_F_keepIfAmongFirst_109 : decode stc_F_keepIfAmongFirst 109 = .ok (.iload_n 3, 1) := by decide +kernel
theorem std_F_keepIfAmongFirst_110 : decode stc_F_keepIfAmongFirst 110 = .ok (.iastore, 1) := by decide +kernel
theorem std_F_keepIfAmongFirst_111 : decode stc_F_keepIfAmongFirst 111 = .ok (.aload_n 0, 1) := by decide +kernel
theorem std_F_keepIfAmongFirst_112 : decode stc_F_keepIfAmongFirst 112 = .ok (.dup, 1) := by decide +kernel
theorem std_F_keepIfAmongFirst_113 : decode stc_F_keepIfAmongFirst 113 = .ok (.getfield 58, 3) := by decide +kernel
theorem std_F_keepIfAmongFirst_116 : decode stc_F_keepIfAmongFirst 116 = .ok (.iconst 1, 1) := by decide +kernel
theorem std_F_keepIfAmongFirst_117 : decode stc_F_keepIfAmongFirst 117 = .ok (.iadd, 1) := by decide +kernel
theorem std_F_keepIfAmongFirst_118 : decode stc_F_keepIfAmongFirst 118 = .ok (.putfield 58, 3) := by decide +kernel
theorem std_F_keepIfAmongFirst_121 : decode stc_F_keepIfAmongFirst 121 = .ok (.return_, 1) := by decide +kernel
theorem std_F_keepIfAmongFirst_43 : decode stc_F_keepIfAmongFirst 43 = .ok (.aload_n 0, 1) := by decide +kernel
theorem std_F_keepIfAmongFirst_44 : decode stc_F_keepIfAmongFirst 44 = .ok (.getfield 19, 3) := by decide +kernel
theorem std_F_keepIfAmongFirst_47 : decode stc_F_keepIfAmongFirst 47 = .ok (.iload 4, 2) := by decide +kernel
theorem std_F_keepIfAmongFirst_49 : decode stc_F_keepIfAmongFirst 49 = .ok (.iconst 1, 1) := by decide +kernel
theorem std_F_keepIfAmongFirst_50 : decode stc_F_keepIfAmongFirst 50 = .ok (.isub, 1) := by decide +kernel
theorem std_F_keepIfAmongFirst_51 : decode stc_F_keepIfAmongFirst 51 = .ok (.laload, 1) := by decide +kernel
theorem std_F_keepIfAmongFirst_52 : decode stc_F_keepIfAmongFirst 52 = .ok (.lload_n 1, 1) := by decide +kernel
theorem std_F_keepIfAmongFirst_53 : decode stc_F_keepIfAmongFirst 53 = .ok (.lcmp, 1) := by decide +kernel
theorem std_F_keepIfAmongFirst_54 : decode stc_F_keepIfAmongFirst 54 = .ok (.ifCond .le 41, 3) := by decide +kernel
theorem std_F_keepIfAmongFirst_57 : decode stc_F_keepIfAmongFirst 57 = .ok (.aload_n 0, 1) := by decide +kernel
theorem std_F_keepIfAmongFirst_58 : decode stc_F_keepIfAmongFirst 58 = .ok (.getfield 19, 3) := by decide +kernel
theorem std_F_keepIfAmongFirst_61 : decode stc_F_keepIfAmongFirst 61 = .ok (.iload 4, 2) := by decide +kernel
theorem std_F_keepIfAmongFirst_63 : decode stc_F_keepIfAmongFirst 63 = .ok (.aload_n 0, 1) := by decide +kernel
theorem std_F_keepIfAmongFirst_64 : decode stc_F_keepIfAmongFirst 64 = .ok (.getfield 19, 3) := by decide +kernel
theorem std_F_keepIfAmongFirst_67 : decode stc_F_keepIfAmongFirst 67 = .ok (.iload 4, 2) := by decide +kernel
theorem std_F_keepIfAmongFirst_69 : decode stc_F_keepIfAmongFirst 69 = .ok (.iconst 1, 1) := by decide +kernel
theorem std_F_keepIfAmongFirst_70 : decode stc_F_keepIfAmongFirst 70 = .ok (.isub, 1) := by decide +kernel
theorem std_F_keepIfAmongFirst_71 : decode stc_F_keepIfAmongFirst 71 = .ok (.laload, 1) := by decide +kernel
theorem std_F_keepIfAmongFirst_72 : decode stc_F_keepIfAmongFirst 72 = .ok (.lastore, 1) := by decide +kernel
theorem std_F_keepIfAmongFirst_73 : decode stc_F_keepIfAmongFirst 73 = .ok (.aload_n 0, 1) := by decide +kernel
theorem std_F_keepIfAmongFirst_74 : decode stc_F_keepIfAmongFirst 74 = .ok (.getfield 22, 3) := by decide +kernel
theorem std_F_keepIfAmongFirst_77 : decode stc_F_keepIfAmongFirst 77 = .ok (.iload 4, 2) := by decide +kernel
theorem std_F_keepIfAmongFirst_79 : decode stc_F_keepIfAmongFirst 79 = .ok (.aload_n 0, 1) := by decide +kernel
theorem std_F_keepIfAmongFirst_80 : decode stc_F_keepIfAmongFirst 80 = .ok (.getfield 22, 3) := by decide +kernel
theorem std_F_keepIfAmongFirst_83 : decode stc_F_keepIfAmongFirst 83 = .ok (.iload 4, 2) := by decide +kernel
theorem std_F_keepIfAmongFirst_85 : decode stc_F_keepIfAmongFirst 85 = .ok (.iconst 1, 1) := by decide +kernel
theorem std_F_keepIfAmongFirst_86 : decode stc_F_keepIfAmongFirst 86 = .ok (.isub, 1) := by decide +kernel
theorem std_F_keepIfAmongFirst_87 : decode stc_F_keepIfAmongFirst 87 = .ok (.iaload, 1) := by decide +kernel
theorem std_F_keepIfAmongFirst_88 : decode stc_F_keepIfAmongFirst 88 = .ok (.iastore, 1) := by decide +kernel
theorem std_F_keepIfAmongFirst_89 : decode stc_F_keepIfAmongFirst 89 = .ok (.iinc 4 (-1), 3) := by decide +kernel
theorem std_F_keepIfAmongFirst_92 : decode stc_F_keepIfAmongFirst 92 = .ok (.goto (-54), 3) := by decide +kernel
theorem std_F_keepIfAmongFirst_9 : decode stc_F_keepIfAmongFirst 9 = .ok (.lload_n 1, 1) := by decide +kernel
theorem std_F_keepIfAmongFirst_10 : decode stc_F_keepIfAmongFirst 10 = .ok (.aload_n 0, 1) := by decide +kernel
theorem std_F_keepIfAmongFirst_11 : decode stc_F_keepIfAmongFirst 11 = .ok (.getfield 19, 3) := by decide +kernel
theorem std_F_keepIfAmongFirst_14 : decode stc_F_keepIfAmongFirst 14 = .ok (.bipush 19, 2) := by decide +kernel
theorem std_F_keepIfAmongFirst_16 : decode stc_F_keepIfAmongFirst 16 = .ok (.laload, 1) := by decide +kernel
theorem std_F_keepIfAmongFirst_17 : decode stc_F_keepIfAmongFirst 17 = .ok (.lcmp, 1) := by decide +kernel
theorem std_F_keepIfAmongFirst_18 : decode stc_F_keepIfAmongFirst 18 = .ok (.ifCond .le 4, 3) := by decide +kernel
theorem std_F_keepIfAmongFirst_22 : decode stc_F_keepIfAmongFirst 22 = .ok (.aload_n 0, 1) := by decide +kernel
theorem std_F_keepIfAmongFirst_23 : decode stc_F_keepIfAmongFirst 23 = .ok (.dup, 1) := by decide +kernel
theorem std_F_keepIfAmongFirst_24 : decode stc_F_keepIfAmongFirst 24 = .ok (.getfield 58, 3) := by decide +kernel
theorem std_F_keepIfAmongFirst_27 : decode stc_F_keepIfAmongFirst 27 = .ok (.iconst 1, 1) := by decide +kernel
theorem std_F_keepIfAmongFirst_28 : decode stc_F_keepIfAmongFirst 28 = .ok (.isub, 1) := by decide +kernel
theorem std_F_keepIfAmongFirst_29 : decode stc_F_keepIfAmongFirst 29 = .ok (.putfield 58, 3) := by decide +kernel
theorem std_F_keepIfAmongFirst_21 : decode stc_F_keepIfAmongFirst 21 = .ok (.return_, 1) := by decide +kernel
set_option maxHeartbeats 4000000 in
set_option maxRecDepth 100000 in
theorem c_keepIfAmongFirst (l : Launch) (dC : Nat → ClassId) (dI : Nat → Nat → Nat) (cI cJ cZ : ClassId) (f0 : Nat) (r1 : Nat) (e1 : Nat) (r2 : Nat) (e2 : Nat) (fo : Int) (lf : Int) (t0 : Nat) (y0 : Nat) (fr2 : Int → Int) (fe2 : Int → Int) (Xs : Int → Int → Prop) (w : Int) (b : Int) (kF : FS Xs lf fr2 fe2) (kne : ∀ i, 0 ≤ i → i < lf → ¬ fr2 i = w) (kR : ∀ i, 0 ≤ i → i < lf → 0 ≤ fr2 i ∧ fr2 i < 4611686018427387904) (kw : 0 ≤ w ∧ w < 4611686018427387904) : ∀ sz, Met l sty_F_keepIfAmongFirst (Cond.code sty_F_keepIfAmongFirst stc_F_keepIfAmongFirst 5 none :: stGW) ({ frames := 0, cells := 0, slots := 0, locals := 0 } : Room) (va_Pc [.ref f0, .long (lI w), .int (iI b)] (zPre (dC, dI) stCl [(cI, .int), (cJ, .long), (cZ, .boolean)] st_nw [(f0, .inr (3, [.ref t0, .ref y0, .int (iI fo), .ref r1, .ref e1, .int (iI lf), .ref r2, .ref e2])), (r2, .inl (cJ, aL 20 fr2)), (e2, .inl (cI, aI 20 fe2))] sz)) (va_Qv (fun (u : (Int → Int) × (Int → Int) × Int) => FS (fun E v => Xs E v ∨ (E = w ∧ v = b)) u.2.2 u.1 u.2.1) (zPost (dC, dI) stCl [(cI, .int), (cJ, .long), (cZ, .boolean)] [(f0, .inr (3, [.ref t0, .ref y0, .int (iI fo), .ref r1, .ref e1, .int (iI lf), .ref r2, .ref e2])), (r2, .inl (cJ, aL 20 fr2)), (e2, .inl (cI, aI 20 fe2))] sz (fun u : (Int → Int) × (Int → Int) × Int => [(f0, .inr (3, [.ref t0, .ref y0, .int (iI fo), .ref r1, .ref e1, .int (iI (u.2.2)), .ref r2, .ref e2])), (r2, .inl (cJ, aL 20 (u.1))), (e2, .inl (cI, aI 20 (u.2.1)))])) (va_A [(f0, .inr (3, [.ref t0, .ref y0, .int (iI fo), .ref r1, .ref e1, .int (iI lf), .ref r2, .ref e2])), (r2, .inl (cJ, aL 20 fr2)), (e2, .inl (cI, aI 20 fe2))] sz)) 0 0 (va_A [(f0, .inr (3, [.ref t0, .ref y0, .int (iI fo), .ref r1, .ref e1, .int (iI lf), .ref r2, .ref e2])), (r2, .inl (cJ, aL 20 fr2)), (e2, .inl (cI, aI 20 fe2))] sz) := by
  refine met_v (by decide) rfl (Nat.le_of_ble_eq_true rfl) ?_
  intro p e s m below meth c A Q C hmn hret
  have hF1 := kF.1
  refine g_aload_n C 0 std_F_keepIfAmongFirst_0 rfl ?_
  refine g_get C (st_sub sti_F) 0 rfl rfl 5 (by decide) (List.mem_cons_of_mem _ kw_1_135) rfl rfl std_F_keepIfAmongFirst_1 ?_
  refine g_bipush C std_F_keepIfAmongFirst_4 (by decide) ?_
  refine g_icmp_ne (tgt := 32) C std_F_keepIfAmongFirst_6 (by decide) ⟨by omega, by omega⟩ ⟨by omega, by omega⟩ (fun c1 => ?_) (fun c1 => ?_)
  · refine g_aload_n C 0 std_F_keepIfAmongFirst_32 rfl ?_
    refine g_get C (st_sub sti_F) 0 rfl rfl 5 (by decide) (List.mem_cons_of_mem _ kw_1_135) rfl rfl std_F_keepIfAmongFirst_33 ?_
    refine g_istore C (lv' := [(4, .int (iI lf)), (0, .ref f0), (1, .long (lI w)), (3, .int (iI b))]) std_F_keepIfAmongFirst_36 (by decide) rfl ?_
    have L38 : ∀ (nn38 : Nat) (m0 : Int) (x : Int) (LR : Int → Int) (LE : Int → Int), ((lf < 20 ∧ m0 = lf) ∨ (lf = 20 ∧ m0 = 19 ∧ w < fr2 19)) → (0 ≤ x ∧ x ≤ m0) → (∀ i, 0 ≤ i → i ≤ x → LR i = fr2 i ∧ LE i = fe2 i) → (∀ i, x < i → i ≤ m0 → LR i = fr2 (i - 1) ∧ LE i = fe2 (i - 1)) → (∀ i, x ≤ i → i < m0 → w < fr2 i) → x < (nn38 : Int) → G p l e ({ frames := 0, cells := 0, slots := 0, locals := 0 } : Room) s m ([.ref f0, .long (lI w), .int (iI b)] : List Value).toArray below meth c (dC, dI) stCl 5 A 0 0 Q [(f0, .inr (3, [.ref t0, .ref y0, .int (iI fo), .ref r1, .ref e1, .int (iI m0), .ref r2, .ref e2])), (r2, .inl (cJ, aL 20 LR)), (e2, .inl (cI, aI 20 LE))] 38 [(4, .int (iI x)), (0, .ref f0), (1, .long (lI w)), (3, .int (iI b))] [] := by
      intro nn38
      induction nn38 with
      | zero =>
        intro m0 x LR LE km kx k1 k2 k3 hnn38
        exact absurd hnn38 (by omega)
      | succ nn38 ih38 =>
        intro m0 x LR LE km kx k1 k2 k3 hnn38
        refine g_iload C 0 std_F_keepIfAmongFirst_38 rfl ?_
        refine g_if_le (tgt := 95) C std_F_keepIfAmongFirst_40 (by decide) ⟨by omega, by omega⟩ (fun c2 => ?_) (fun c2 => ?_)
        · have hlo : ∀ i, 0 ≤ i → i < x → fr2 i < w := fun i h1 h2 => by omega
          refine g_aload_n C 1 std_F_keepIfAmongFirst_95 rfl ?_
          refine g_get C (st_sub sti_F) 0 rfl rfl 6 (by decide) (List.mem_cons_of_mem _ kw_1_136) rfl rfl std_F_keepIfAmongFirst_96 ?_
          refine g_iload C 0 std_F_keepIfAmongFirst_99 rfl ?_
          refine g_lload_n C 2 std_F_keepIfAmongFirst_101 rfl ?_
          refine g_last C (ws' := [(f0, .inr (3, [.ref t0, .ref y0, .int (iI fo), .ref r1, .ref e1, .int (iI m0), .ref r2, .ref e2])), (r2, .inl (cJ, aL 20 (uZ LR x w))), (e2, .inl (cI, aI 20 LE))]) 1 1 rfl rfl (by omega) (by omega) (by omega) std_F_keepIfAmongFirst_102 rfl ?_
          refine g_aload_n C 1 std_F_keepIfAmongFirst_103 rfl ?_
          refine g_get C (st_sub sti_F) 0 rfl rfl 7 (by decide) (List.mem_cons_of_mem _ kw_1_137) rfl rfl std_F_keepIfAmongFirst_104 ?_
          refine g_iload C 0 std_F_keepIfAmongFirst_107 rfl ?_
          refine g_iload_n C 3 std_F_keepIfAmongFirst_109 rfl ?_
          refine g_iast C (ws' := [(f0, .inr (3, [.ref t0, .ref y0, .int (iI fo), .ref r1, .ref e1, .int (iI m0), .ref r2, .ref e2])), (r2, .inl (cJ, aL 20 (uZ LR x w))), (e2, .inl (cI, aI 20 (uZ LE x b)))]) 2 0 rfl rfl (by omega) (by omega) (by omega) std_F_keepIfAmongFirst_110 rfl ?_
          refine g_aload_n C 1 std_F_keepIfAmongFirst_111 rfl ?_
          refine g_dup C std_F_keepIfAmongFirst_112 rfl ?_
          refine g_get C (st_sub sti_F) 0 rfl rfl 5 (by decide) (List.mem_cons_of_mem _ kw_1_135) rfl rfl std_F_keepIfAmongFirst_113 ?_
          refine g_iconst C std_F_keepIfAmongFirst_116 ?_
          refine g_iadd C std_F_keepIfAmongFirst_117 ?_
          refine g_put C (ws' := [(f0, .inr (3, [.ref t0, .ref y0, .int (iI fo), .ref r1, .ref e1, .int (iI (m0 + 1)), .ref r2, .ref e2])), (r2, .inl (cJ, aL 20 (uZ LR x w))), (e2, .inl (cI, aI 20 (uZ LE x b)))]) (st_sub sti_F) stt_F sto_F stn_F 0 rfl rfl 5 (by decide) (List.mem_cons_of_mem _ kw_1_135) rfl rfl rfl rfl (Nat.le_of_ble_eq_true rfl) std_F_keepIfAmongFirst_118 rfl ?_
          exact hret _ _ ((uZ LR x w), (uZ LE x b), (m0 + 1)) (ki_fin kF km kx k1 k2 hlo k3) std_F_keepIfAmongFirst_121
        · refine g_aload_n C 1 std_F_keepIfAmongFirst_43 rfl ?_
          refine g_get C (st_sub sti_F) 0 rfl rfl 6 (by decide) (List.mem_cons_of_mem _ kw_1_136) rfl rfl std_F_keepIfAmongFirst_44 ?_
          refine g_iload C 0 std_F_keepIfAmongFirst_47 rfl ?_
          refine g_iconst C std_F_keepIfAmongFirst_49 ?_
          refine g_isub C std_F_keepIfAmongFirst_50 ?_
          refine g_lald C 1 1 rfl rfl (by omega) (by omega) (by omega) std_F_keepIfAmongFirst_51 ?_
          refine g_lload_n C 2 std_F_keepIfAmongFirst_52 rfl ?_
          have hqx := kR (x - 1) (by omega) (by omega)
          have hkx := (k1 (x - 1) (by omega) (by omega)).1
          refine g_lcmp_le (tgt := 95) C std_F_keepIfAmongFirst_53 std_F_keepIfAmongFirst_54 (by decide) ⟨by omega, by omega⟩ ⟨by omega, by omega⟩ (fun c3 => ?_) (fun c3 => ?_)
          · have hlo : ∀ i, 0 ≤ i → i < x → fr2 i < w := ki_lo kF kne (by omega) (by omega) (by omega)
            refine g_aload_n C 1 std_F_keepIfAmongFirst_95 rfl ?_
            refine g_get C (st_sub sti_F) 0 rfl rfl 6 (by decide) (List.mem_cons_of_mem _ kw_1_136) rfl rfl std_F_keepIfAmongFirst_96 ?_
            refine g_iload C 0 std_F_keepIfAmongFirst_99 rfl ?_
            refine g_lload_n C 2 std_F_keepIfAmongFirst_101 rfl ?_
            refine g_last C (ws' := [(f0, .inr (3, [.ref t0, .ref y0, .int (iI fo), .ref r1, .ref e1, .int (iI m0), .ref r2, .ref e2])), (r2, .inl (cJ, aL 20 (uZ LR x w))), (e2, .inl (cI, aI 20 LE))]) 1 1 rfl rfl (by omega) (by omega) (by omega) std_F_keepIfAmongFirst_102 rfl ?_
            refine g_aload_n C 1 std_F_keepIfAmongFirst_103 rfl ?_
            refine g_get C (st_sub sti_F) 0 rfl rfl 7 (by decide) (List.mem_cons_of_mem _ kw_1_137) rfl rfl std_F_keepIfAmongFirst_104 ?_
            refine g_iload C 0 std_F_keepIfAmongFirst_107 rfl ?_
            refine g_iload_n C 3 std_F_keepIfAmongFirst_109 rfl ?_
            refine g_iast C (ws' := [(f0, .inr (3, [.ref t0, .ref y0, .int (iI fo), .ref r1, .ref e1, .int (iI m0), .ref r2, .ref e2])), (r2, .inl (cJ, aL 20 (uZ LR x w))), (e2, .inl (cI, aI 20 (uZ LE x b)))]) 2 0 rfl rfl (by omega) (by omega) (by omega) std_F_keepIfAmongFirst_110 rfl ?_
            refine g_aload_n C 1 std_F_keepIfAmongFirst_111 rfl ?_
            refine g_dup C std_F_keepIfAmongFirst_112 rfl ?_
            refine g_get C (st_sub sti_F) 0 rfl rfl 5 (by decide) (List.mem_cons_of_mem _ kw_1_135) rfl rfl std_F_keepIfAmongFirst_113 ?_
            refine g_iconst C std_F_keepIfAmongFirst_116 ?_
            refine g_iadd C std_F_keepIfAmongFirst_117 ?_
            refine g_put C (ws' := [(f0, .inr (3, [.ref t0, .ref y0, .int (iI fo), .ref r1, .ref e1, .int (iI (m0 + 1)), .ref r2, .ref e2])), (r2, .inl (cJ, aL 20 (uZ LR x w))), (e2, .inl (cI, aI 20 (uZ LE x b)))]) (st_sub sti_F) stt_F sto_F stn_F 0 rfl rfl 5 (by decide) (List.mem_cons_of_mem _ kw_1_135) rfl rfl rfl rfl (Nat.le_of_ble_eq_true rfl) std_F_keepIfAmongFirst_118 rfl ?_
            exact hret _ _ ((uZ LR x w), (uZ LE x b), (m0 + 1)) (ki_fin kF km kx k1 k2 hlo k3) std_F_keepIfAmongFirst_121
          · refine g_aload_n C 1 std_F_keepIfAmongFirst_57 rfl ?_
            refine g_get C (st_sub sti_F) 0 rfl rfl 6 (by decide) (List.mem_cons_of_mem _ kw_1_136) rfl rfl std_F_keepIfAmongFirst_58 ?_
            refine g_iload C 0 std_F_keepIfAmongFirst_61 rfl ?_
            refine g_aload_n C 1 std_F_keepIfAmongFirst_63 rfl ?_
            refine g_get C (st_sub sti_F) 0 rfl rfl 6 (by decide) (List.mem_cons_of_mem _ kw_1_136) rfl rfl std_F_keepIfAmongFirst_64 ?_
            refine g_iload C 0 std_F_keepIfAmongFirst_67 rfl ?_
            refine g_iconst C std_F_keepIfAmongFirst_69 ?_
            refine g_isub C std_F_keepIfAmongFirst_70 ?_
            refine g_lald C 1 1 rfl rfl (by omega) (by omega) (by omega) std_F_keepIfAmongFirst_71 ?_
            refine g_last C (ws' := [(f0, .inr (3, [.ref t0, .ref y0, .int (iI fo), .ref r1, .ref e1, .int (iI m0), .ref r2, .ref e2])), (r2, .inl (cJ, aL 20 (uZ LR x (LR (x - 1))))), (e2, .inl (cI, aI 20 LE))]) 1 1 rfl rfl (by omega) (by omega) (by omega) std_F_keepIfAmongFirst_72 rfl ?_
            refine g_aload_n C 1 std_F_keepIfAmongFirst_73 rfl ?_
            refine g_get C (st_sub sti_F) 0 rfl rfl 7 (by decide) (List.mem_cons_of_mem _ kw_1_137) rfl rfl std_F_keepIfAmongFirst_74 ?_
            refine g_iload C 0 std_F_keepIfAmongFirst_77 rfl ?_
            refine g_aload_n C 1 std_F_keepIfAmongFirst_79 rfl ?_
            refine g_get C (st_sub sti_F) 0 rfl rfl 7 (by decide) (List.mem_cons_of_mem _ kw_1_137) rfl rfl std_F_keepIfAmongFirst_80 ?_
            refine g_iload C 0 std_F_keepIfAmongFirst_83 rfl ?_
            refine g_iconst C std_F_keepIfAmongFirst_85 ?_
            refine g_isub C std_F_keepIfAmongFirst_86 ?_
            refine g_iald C 2 0 rfl rfl (by omega) (by omega) (by omega) std_F_keepIfAmongFirst_87 ?_
            refine g_iast C (ws' := [(f0, .inr (3, [.ref t0, .ref y0, .int (iI fo), .ref r1, .ref e1, .int (iI m0), .ref r2, .ref e2])), (r2, .inl (cJ, aL 20 (uZ LR x (LR (x - 1))))), (e2, .inl (cI, aI 20 (uZ LE x (LE (x - 1)))))]) 2 0 rfl rfl (by omega) (by omega) (by omega) std_F_keepIfAmongFirst_88 rfl ?_
            refine g_iinc C (lv' := [(4, .int (iI (x + (-1)))), (0, .ref f0), (1, .long (lI w)), (3, .int (iI b))]) 0 std_F_keepIfAmongFirst_89 rfl (by decide) rfl ?_
            refine g_goto (tgt := 38) C std_F_keepIfAmongFirst_92 (by decide) ?_
            exact ih38 m0 (x + (-1)) (uZ LR x (LR (x - 1))) (uZ LE x (LE (x - 1))) (km) (by omega) (ki_1 k1) (ki_2 k1 k2 (by omega)) (ki_3 k3 (by have := (k1 (x - 1) (by omega) (by omega)).1; omega)) (by omega)
    obtain ⟨nn0, hnn0⟩ : ∃ nn0 : Nat, lf < (nn0 : Int) := z_nat _
    exact L38 nn0 lf lf fr2 fe2 (Or.inl ⟨by omega, rfl⟩) (by omega) (fun i _ _ => ⟨rfl, rfl⟩) (fun i h1 h2 => by omega) (fun i h1 h2 => by omega) hnn0
  · refine g_lload_n C 1 std_F_keepIfAmongFirst_9 rfl ?_
    refine g_aload_n C 0 std_F_keepIfAmongFirst_10 rfl ?_
    refine g_get C (st_sub sti_F) 0 rfl rfl 6 (by decide) (List.mem_cons_of_mem _ kw_1_136) rfl rfl std_F_keepIfAmongFirst_11 ?_
    refine g_bipush C std_F_keepIfAmongFirst_14 (by decide) ?_
    refine g_lald C 1 1 rfl rfl (by omega) (by omega) (by omega) std_F_keepIfAmongFirst_16 ?_
    have hq19 := kR 19 (by omega) (by omega)
    refine g_lcmp_le (tgt := 22) C std_F_keepIfAmongFirst_17 std_F_keepIfAmongFirst_18 (by decide) ⟨by omega, by omega⟩ ⟨by omega, by omega⟩ (fun c4 => ?_) (fun c4 => ?_)
    · refine g_aload_n C 0 std_F_keepIfAmongFirst_22 rfl ?_
      refine g_dup C std_F_keepIfAmongFirst_23 rfl ?_
      refine g_get C (st_sub sti_F) 0 rfl rfl 5 (by decide) (List.mem_cons_of_mem _ kw_1_135) rfl rfl std_F_keepIfAmongFirst_24 ?_
      refine g_iconst C std_F_keepIfAmongFirst_27 ?_
      refine g_isub C std_F_keepIfAmongFirst_28 ?_
      refine g_put C (ws' := [(f0, .inr (3, [.ref t0, .ref y0, .int (iI fo), .ref r1, .ref e1, .int (iI (lf - 1)), .ref r2, .ref e2])), (r2, .inl (cJ, aL 20 fr2)), (e2, .inl (cI, aI 20 fe2))]) (st_sub sti_F) stt_F sto_F stn_F 0 rfl rfl 5 (by decide) (List.mem_cons_of_mem _ kw_1_135) rfl rfl rfl rfl (Nat.le_of_ble_eq_true rfl) std_F_keepIfAmongFirst_29 rfl ?_
      refine g_aload_n C 0 std_F_keepIfAmongFirst_32 rfl ?_
      refine g_get C (st_sub sti_F) 0 rfl rfl 5 (by decide) (List.mem_cons_of_mem _ kw_1_135) rfl rfl std_F_keepIfAmongFirst_33 ?_
      refine g_istore C (lv' := [(4, .int (iI (lf - 1))), (0, .ref f0), (1, .long (lI w)), (3, .int (iI b))]) std_F_keepIfAmongFirst_36 (by decide) rfl ?_
      have L38 : ∀ (nn38 : Nat) (m0 : Int) (x : Int) (LR : Int → Int) (LE : Int → Int), ((lf < 20 ∧ m0 = lf) ∨ (lf = 20 ∧ m0 = 19 ∧ w < fr2 19)) → (0 ≤ x ∧ x ≤ m0) → (∀ i, 0 ≤ i → i ≤ x → LR i = fr2 i ∧ LE i = fe2 i) → (∀ i, x < i → i ≤ m0 → LR i = fr2 (i - 1) ∧ LE i = fe2 (i - 1)) → (∀ i, x ≤ i → i < m0 → w < fr2 i) → x < (nn38 : Int) → G p l e ({ frames := 0, cells := 0, slots := 0, locals := 0 } : Room) s m ([.ref f0, .long (lI w), .int (iI b)] : List Value).toArray below meth c (dC, dI) stCl 5 A 0 0 Q [(f0, .inr (3, [.ref t0, .ref y0, .int (iI fo), .ref r1, .ref e1, .int (iI m0), .ref r2, .ref e2])), (r2, .inl (cJ, aL 20 LR)), (e2, .inl (cI, aI 20 LE))] 38 [(4, .int (iI x)), (0, .ref f0), (1, .long (lI w)), (3, .int (iI b))] [] := by
        intro nn38
        induction nn38 with
        | zero =>
          intro m0 x LR LE km kx k1 k2 k3 hnn38
          exact absurd hnn38 (by omega)
        | succ nn38 ih38 =>
          intro m0 x LR LE km kx k1 k2 k3 hnn38
          refine g_iload C 0 std_F_keepIfAmongFirst_38 rfl ?_
          refine g_if_le (tgt := 95) C std_F_keepIfAmongFirst_40 (by decide) ⟨by omega, by omega⟩ (fun c5 => ?_) (fun c5 => ?_)
          · have hlo : ∀ i, 0 ≤ i → i < x → fr2 i < w := fun i h1 h2 => by omega
            refine g_aload_n C 1 std_F_keepIfAmongFirst_95 rfl ?_
            refine g_get C (st_sub sti_F) 0 rfl rfl 6 (by decide) (List.mem_cons_of_mem _ kw_1_136) rfl rfl std_F_keepIfAmongFirst_96 ?_
            refine g_iload C 0 std_F_keepIfAmongFirst_99 rfl ?_
            refine g_lload_n C 2 std_F_keepIfAmongFirst_101 rfl ?_
            refine g_last C (ws' := [(f0, .inr (3, [.ref t0, .ref y0, .int (iI fo), .ref r1, .ref e1, .int (iI m0), .ref r2, .ref e2])), (r2, .inl (cJ, aL 20 (uZ LR x w))), (e2, .inl (cI, aI 20 LE))]) 1 1 rfl rfl (by omega) (by omega) (by omega) std_F_keepIfAmongFirst_102 rfl ?_
            refine g_aload_n C 1 std_F_keepIfAmongFirst_103 rfl ?_
            refine g_get C (st_sub sti_F) 0 rfl rfl 7 (by decide) (List.mem_cons_of_mem _ kw_1_137) rfl rfl std_F_keepIfAmongFirst_104 ?_
            refine g_iload C 0 std_F_keepIfAmongFirst_107 rfl ?_
            refine g_iload_n C 3 std_F_keepIfAmongFirst_109 rfl ?_
            refine g_iast C (ws' := [(f0, .inr (3, [.ref t0, .ref y0, .int (iI fo), .ref r1, .ref e1, .int (iI m0), .ref r2, .ref e2])), (r2, .inl (cJ, aL 20 (uZ LR x w))), (e2, .inl (cI, aI 20 (uZ LE x b)))]) 2 0 rfl rfl (by omega) (by omega) (by omega) std_F_keepIfAmongFirst_110 rfl ?_
            refine g_aload_n C 1 std_F_keepIfAmongFirst_111 rfl ?_
            refine g_dup C std_F_keepIfAmongFirst_112 rfl ?_
            refine g_get C (st_sub sti_F) 0 rfl rfl 5 (by decide) (List.mem_cons_of_mem _ kw_1_135) rfl rfl std_F_keepIfAmongFirst_113 ?_
            refine g_iconst C std_F_keepIfAmongFirst_116 ?_
            refine g_iadd C std_F_keepIfAmongFirst_117 ?_
            refine g_put C (ws' := [(f0, .inr (3, [.ref t0, .ref y0, .int (iI fo), .ref r1, .ref e1, .int (iI (m0 + 1)), .ref r2, .ref e2])), (r2, .inl (cJ, aL 20 (uZ LR x w))), (e2, .inl (cI, aI 20 (uZ LE x b)))]) (st_sub sti_F) stt_F sto_F stn_F 0 rfl rfl 5 (by decide) (List.mem_cons_of_mem _ kw_1_135) rfl rfl rfl rfl (Nat.le_of_ble_eq_true rfl) std_F_keepIfAmongFirst_118 rfl ?_
            exact hret _ _ ((uZ LR x w), (uZ LE x b), (m0 + 1)) (ki_fin kF km kx k1 k2 hlo k3) std_F_keepIfAmongFirst_121
          · refine g_aload_n C 1 std_F_keepIfAmongFirst_43 rfl ?_
            refine g_get C (st_sub sti_F) 0 rfl rfl 6 (by decide) (List.mem_cons_of_mem _ kw_1_136) rfl rfl std_F_keepIfAmongFirst_44 ?_
            refine g_iload C 0 std_F_keepIfAmongFirst_47 rfl ?_
            refine g_iconst C std_F_keepIfAmongFirst_49 ?_
            refine g_isub C std_F_keepIfAmongFirst_50 ?_
            refine g_lald C 1 1 rfl rfl (by omega) (by omega) (by omega) std_F_keepIfAmongFirst_51 ?_
            refine g_lload_n C 2 std_F_keepIfAmongFirst_52 rfl ?_
            have hqx := kR (x - 1) (by omega) (by omega)
            have hkx := (k1 (x - 1) (by omega) (by omega)).1
            refine g_lcmp_le (tgt := 95) C std_F_keepIfAmongFirst_53 std_F_keepIfAmongFirst_54 (by decide) ⟨by omega, by omega⟩ ⟨by omega, by omega⟩ (fun c6 => ?_) (fun c6 => ?_)
            · have hlo : ∀ i, 0 ≤ i → i < x → fr2 i < w := ki_lo kF kne (by omega) (by omega) (by omega)
              refine g_aload_n C 1 std_F_keepIfAmongFirst_95 rfl ?_
              refine g_get C (st_sub sti_F) 0 rfl rfl 6 (by decide) (List.mem_cons_of_mem _ kw_1_136) rfl rfl std_F_keepIfAmongFirst_96 ?_
              refine g_iload C 0 std_F_keepIfAmongFirst_99 rfl ?_
              refine g_lload_n C 2 std_F_keepIfAmongFirst_101 rfl ?_
              refine g_last C (ws' := [(f0, .inr (3, [.ref t0, .ref y0, .int (iI fo), .ref r1, .ref e1, .int (iI m0), .ref r2, .ref e2])), (r2, .inl (cJ, aL 20 (uZ LR x w))), (e2, .inl (cI, aI 20 LE))]) 1 1 rfl rfl (by omega) (by omega) (by omega) std_F_keepIfAmongFirst_102 rfl ?_
              refine g_aload_n C 1 std_F_keepIfAmongFirst_103 rfl ?_
              refine g_get C (st_sub sti_F) 0 rfl rfl 7 (by decide) (List.mem_cons_of_mem _ kw_1_137) rfl rfl std_F_keepIfAmongFirst_104 ?_
              refine g_iload C 0 std_F_keepIfAmongFirst_107 rfl ?_
              refine g_iload_n C 3 std_F_keepIfAmongFirst_109 rfl ?_
              refine g_iast C (ws' := [(f0, .inr (3, [.ref t0, .ref y0, .int (iI fo), .ref r1, .ref e1, .int (iI m0), .ref r2, .ref e2])), (r2, .inl (cJ, aL 20 (uZ LR x w))), (e2, .inl (cI, aI 20 (uZ LE x b)))]) 2 0 rfl rfl (by omega) (by omega) (by omega) std_F_keepIfAmongFirst_110 rfl ?_
              refine g_aload_n C 1 std_F_keepIfAmongFirst_111 rfl ?_
              refine g_dup C std_F_keepIfAmongFirst_112 rfl ?_
              refine g_get C (st_sub sti_F) 0 rfl rfl 5 (by decide) (List.mem_cons_of_mem _ kw_1_135) rfl rfl std_F_keepIfAmongFirst_113 ?_
              refine g_iconst C std_F_keepIfAmongFirst_116 ?_
              refine g_iadd C std_F_keepIfAmongFirst_117 ?_
              refine g_put C (ws' := [(f0, .inr (3, [.ref t0, .ref y0, .int (iI fo), .ref r1, .ref e1, .int (iI (m0 + 1)), .ref r2, .ref e2])), (r2, .inl (cJ, aL 20 (uZ LR x w))), (e2, .inl (cI, aI 20 (uZ LE x b)))]) (st_sub sti_F) stt_F sto_F stn_F 0 rfl rfl 5 (by decide) (List.mem_cons_of_mem _ kw_1_135) rfl rfl rfl rfl (Nat.le_of_ble_eq_true rfl) std_F_keepIfAmongFirst_118 rfl ?_
              exact hret _ _ ((uZ LR x w), (uZ LE x b), (m0 + 1)) (ki_fin kF km kx k1 k2 hlo k3) std_F_keepIfAmongFirst_121
            · refine g_aload_n C 1 std_F_keepIfAmongFirst_57 rfl ?_
              refine g_get C (st_sub sti_F) 0 rfl rfl 6 (by decide) (List.mem_cons_of_mem _ kw_1_136) rfl rfl std_F_keepIfAmongFirst_58 ?_
              refine g_iload C 0 std_F_keepIfAmongFirst_61 rfl ?_
              refine g_aload_n C 1 std_F_keepIfAmongFirst_63 rfl ?_
              refine g_get C (st_sub sti_F) 0 rfl rfl 6 (by decide) (List.mem_cons_of_mem _ kw_1_136) rfl rfl std_F_keepIfAmongFirst_64 ?_
              refine g_iload C 0 std_F_keepIfAmongFirst_67 rfl ?_
              refine g_iconst C std_F_keepIfAmongFirst_69 ?_
              refine g_isub C std_F_keepIfAmongFirst_70 ?_
              refine g_lald C 1 1 rfl rfl (by omega) (by omega) (by omega) std_F_keepIfAmongFirst_71 ?_
              refine g_last C (ws' := [(f0, .inr (3, [.ref t0, .ref y0, .int (iI fo), .ref r1, .ref e1, .int (iI m0), .ref r2, .ref e2])), (r2, .inl (cJ, aL 20 (uZ LR x (LR (x - 1))))), (e2, .inl (cI, aI 20 LE))]) 1 1 rfl rfl (by omega) (by omega) (by omega) std_F_keepIfAmongFirst_72 rfl ?_
              refine g_aload_n C 1 std_F_keepIfAmongFirst_73 rfl ?_
              refine g_get C (st_sub sti_F) 0 rfl rfl 7 (by decide) (List.mem_cons_of_mem _ kw_1_137) rfl rfl std_F_keepIfAmongFirst_74 ?_
              refine g_iload C 0 std_F_keepIfAmongFirst_77 rfl ?_
              refine g_aload_n C 1 std_F_keepIfAmongFirst_79 rfl ?_
              refine g_get C (st_sub sti_F) 0 rfl rfl 7 (by decide) (List.mem_cons_of_mem _ kw_1_137) rfl rfl std_F_keepIfAmongFirst_80 ?_
              refine g_iload C 0 std_F_keepIfAmongFirst_83 rfl ?_
              refine g_iconst C std_F_keepIfAmongFirst_85 ?_
              refine g_isub C std_F_keepIfAmongFirst_86 ?_
              refine g_iald C 2 0 rfl rfl (by omega) (by omega) (by omega) std_F_keepIfAmongFirst_87 ?_
              refine g_iast C (ws' := [(f0, .inr (3, [.ref t0, .ref y0, .int (iI fo), .ref r1, .ref e1, .int (iI m0), .ref r2, .ref e2])), (r2, .inl (cJ, aL 20 (uZ LR x (LR (x - 1))))), (e2, .inl (cI, aI 20 (uZ LE x (LE (x - 1)))))]) 2 0 rfl rfl (by omega) (by omega) (by omega) std_F_keepIfAmongFirst_88 rfl ?_
              refine g_iinc C (lv' := [(4, .int (iI (x + (-1)))), (0, .ref f0), (1, .long (lI w)), (3, .int (iI b))]) 0 std_F_keepIfAmongFirst_89 rfl (by decide) rfl ?_
              refine g_goto (tgt := 38) C std_F_keepIfAmongFirst_92 (by decide) ?_
              exact ih38 m0 (x + (-1)) (uZ LR x (LR (x - 1))) (uZ LE x (LE (x - 1))) (km) (by omega) (ki_1 k1) (ki_2 k1 k2 (by omega)) (ki_3 k3 (by have := (k1 (x - 1) (by omega) (by omega)).1; omega)) (by omega)
      obtain ⟨nn0, hnn0⟩ : ∃ nn0 : Nat, (lf - 1) < (nn0 : Int) := z_nat _
      exact L38 nn0 (lf - 1) (lf - 1) fr2 fe2 (Or.inr ⟨by omega, by omega, by have := kne 19 (by omega) (by omega); omega⟩) (by omega) (fun i _ _ => ⟨rfl, rfl⟩) (fun i h1 h2 => by omega) (fun i h1 h2 => by omega) hnn0
    · exact hret _ _ (fr2, fe2, lf) (fs_out2 kF (by omega) (by omega)) std_F_keepIfAmongFirst_21
end
section
/-! what the rows kept lead to, one by one -/
theorem xr_0 {fco gbe gwf gcf R V : Int → Int} {d sz : Int} : ∀ E v, ¬ XR fco gbe gwf gcf R V d sz 0 0 E v := by
  intro E v h
  obtain ⟨i, c, h1, h2, -⟩ := h
  omega
theorem xr_s {fco gbe gwf gcf R V : Int → Int} {d sz x y : Int} (hx : 0 ≤ x) (hy : 0 ≤ y ∧ y < sz) : ∀ E v, (XR fco gbe gwf gcf R V d sz x y E v ∨ ((0 ≤ gbe (V x * 6 + y) ∧ ¬ gwf (gbe (V x * 6 + y)) = 0) ∧ E = rowf fco gbe gcf R V d x y ∧ v = gbe (V x * 6 + y))) ↔ XR fco gbe gwf gcf R V d sz x (y + 1) E v := by
  intro E v
  constructor
  · rintro (⟨i, c, h1, h2, h3, h4, h5⟩ | ⟨h3, h4, h5⟩)
    · exact ⟨i, c, ⟨h1.1, by omega⟩, h2, h3, h4, h5⟩
    · exact ⟨x, y, ⟨hx, Or.inr ⟨rfl, by omega⟩⟩, hy, h3, h4, h5⟩
  · rintro ⟨i, c, h1, h2, h3, h4, h5⟩
    by_cases q : i = x ∧ c = y
    · obtain ⟨q1, q2⟩ := q
      subst q1 q2
      exact Or.inr ⟨h3, h4, h5⟩
    · exact Or.inl ⟨i, c, ⟨h1.1, by omega⟩, h2, h3, h4, h5⟩
theorem xr_e {fco gbe gwf gcf R V : Int → Int} {d sz x y : Int} (hx : 0 ≤ x) (hy : sz ≤ y) : ∀ E v, XR fco gbe gwf gcf R V d sz x y E v ↔ XR fco gbe gwf gcf R V d sz (x + 1) 0 E v := by
  intro E v
  constructor
  · rintro ⟨i, c, h1, h2, h3, h4, h5⟩
    exact ⟨i, c, ⟨h1.1, by omega⟩, h2, h3, h4, h5⟩
  · rintro ⟨i, c, h1, h2, h3, h4, h5⟩
    exact ⟨i, c, ⟨h1.1, by omega⟩, h2, h3, h4, h5⟩
section RN
variable {fsz fco ffu fsu fbb fmo fle gst gk gwt gct gbe gwf gcf R V : Int → Int} {n d : Nat} {m : Int}
theorem pc_rng (hT : TB fsz fco ffu fsu fbb fmo) (hn : n ≤ 12) (hd : d ≤ n) {E v : Int} (h : PC fsz fco ffu fsu fbb fmo fle n gst gk d E v) : 0 ≤ E ∧ E < 4611686018427387904 := by
  obtain ⟨r, k, g, h1, h2, -⟩ := h
  have a := pr_g hT d r k g (by omega) h1
  have b := cf_rng hT (n - d) d k (by omega) (pr_wf d r k g h1)
  have c := pr_rb hT (by omega) h1
  have p := pw8p (12 - d)
  rw [h2]
  unfold cod
  omega
theorem row_pc (hT : TB fsz fco ffu fsu fbb fmo) (hn : n ≤ 12) (hd : d < n) (hLS : LYS fsz fco ffu fsu fbb fmo n gst gk gwt gct gbe) (hB : ∀ d : Nat, d ≤ n → BK fsz fco ffu fsu fbb fmo fle n gk gwf gcf d (gst (d : Int)) (gst ((d : Int) + 1)))
    (h : FS (PC fsz fco ffu fsu fbb fmo fle n gst gk d) m R V) {i c : Int} (hi : 0 ≤ i ∧ i < m) (hc : 0 ≤ c ∧ c < fsz (d : Int)) (hq : 0 ≤ gbe (V i * 6 + c) ∧ ¬ gwf (gbe (V i * 6 + c)) = 0) : PC fsz fco ffu fsu fbb fmo fle n gst gk (d + 1) (rowf fco gbe gcf R V (d : Int) i c) (gbe (V i * 6 + c)) := by
  obtain ⟨r, k, g, p1, p2, p3, p4, p5⟩ := pc_child hT hn hd hLS hB (h.2.1 i hi.1 hi.2) hc
  obtain ⟨p6, p7⟩ := p5 hq
  have e : rowf fco gbe gcf R V (d : Int) i c = cod fsz fco ffu fsu fbb fmo fle n (d + 1) (r + c * 8 ^ (11 - d)) (kn fbb ffu fsu fmo ((d : Int) * 6 + c) c k) (g + fco ((d : Int) * 6 + c)) := p6
  rw [e]; exact p7
theorem row_inj (hT : TB fsz fco ffu fsu fbb fmo) (hn : n ≤ 12) (hd : d < n) (hLS : LYS fsz fco ffu fsu fbb fmo n gst gk gwt gct gbe) (hB : ∀ d : Nat, d ≤ n → BK fsz fco ffu fsu fbb fmo fle n gk gwf gcf d (gst (d : Int)) (gst ((d : Int) + 1)))
    (h : FS (PC fsz fco ffu fsu fbb fmo fle n gst gk d) m R V) {i c i' c' : Int} (hi : 0 ≤ i ∧ i < m) (hc : 0 ≤ c ∧ c < fsz (d : Int)) (hq : 0 ≤ gbe (V i * 6 + c) ∧ ¬ gwf (gbe (V i * 6 + c)) = 0) (hi' : 0 ≤ i' ∧ i' < m) (hc' : 0 ≤ c' ∧ c' < fsz (d : Int)) (hq' : 0 ≤ gbe (V i' * 6 + c') ∧ ¬ gwf (gbe (V i' * 6 + c')) = 0)
    (e : rowf fco gbe gcf R V (d : Int) i c = rowf fco gbe gcf R V (d : Int) i' c') : i = i' ∧ c = c' := by
  have hsz := hT.1 (d : Int) (by omega) (by omega)
  obtain ⟨r, k, g, p1, p2, p3, p4, p5⟩ := pc_child hT hn hd hLS hB (h.2.1 i hi.1 hi.2) hc
  obtain ⟨r', k', g', p1', p2', p3', p4', p5'⟩ := pc_child hT hn hd hLS hB (h.2.1 i' hi'.1 hi'.2) hc'
  have e1 := (p5 hq).1
  have e2 := (p5' hq').1
  have e3 : cod fsz fco ffu fsu fbb fmo fle n (d + 1) (r + c * 8 ^ (11 - d)) (kn fbb ffu fsu fmo ((d : Int) * 6 + c) c k) (g + fco ((d : Int) * 6 + c)) = cod fsz fco ffu fsu fbb fmo fle n (d + 1) (r' + c' * 8 ^ (11 - d)) (kn fbb ffu fsu fmo ((d : Int) * 6 + c') c' k') (g' + fco ((d : Int) * 6 + c')) := by
    rw [← e1, ← e2]; exact e
  have hr := pr_rb hT (by omega) p1
  have hr' := pr_rb hT (by omega) p1'
  have hp := pw8p (11 - d)
  rw [pw8 (by omega)] at hr hr'
  have b1 : c * 8 ^ (11 - d) ≤ 5 * 8 ^ (11 - d) := Int.mul_le_mul_of_nonneg_right (by omega) (by omega)
  have b1' : c' * 8 ^ (11 - d) ≤ 5 * 8 ^ (11 - d) := Int.mul_le_mul_of_nonneg_right (by omega) (by omega)
  have b2 : 0 ≤ c * 8 ^ (11 - d) := Int.mul_nonneg hc.1 (by omega)
  have b2' : 0 ≤ c' * 8 ^ (11 - d) := Int.mul_nonneg hc'.1 (by omega)
  have e4 : r + c * 8 ^ (11 - d) = r' + c' * 8 ^ (11 - d) := by
    unfold cod at e3
    omega
  obtain ⟨q, q1, -⟩ := pr_r hT d _ _ _ (by omega) p1
  obtain ⟨q', q1', -⟩ := pr_r hT d _ _ _ (by omega) p1'
  rw [pw8 (by omega)] at q1 q1'
  rw [q1, q1'] at e4
  obtain ⟨e5, e6⟩ := pr_split hp ⟨hc.1, by omega⟩ ⟨hc'.1, by omega⟩ e4
  subst e6
  have e7 : r = r' := by rw [q1, q1', e5]
  subst e7
  obtain ⟨e8, e9⟩ := pr_fun hT d r k g k' g' (by omega) p1 p1'
  subst e8 e9
  refine ⟨?_, rfl⟩
  have e10 : R i = R i' := p2.trans p2'.symm
  rcases Int.lt_trichotomy i i' with t | t | t
  · have := h.2.2.1 i i' hi.1 t hi'.2; omega
  · exact t
  · have := h.2.2.1 i' i hi'.1 t hi.2; omega
theorem xr_ne (hT : TB fsz fco ffu fsu fbb fmo) (hn : n ≤ 12) (hd : d < n) (hLS : LYS fsz fco ffu fsu fbb fmo n gst gk gwt gct gbe) (hB : ∀ d : Nat, d ≤ n → BK fsz fco ffu fsu fbb fmo fle n gk gwf gcf d (gst (d : Int)) (gst ((d : Int) + 1)))
    (h : FS (PC fsz fco ffu fsu fbb fmo fle n gst gk d) m R V) {x y m' : Int} {LR LE : Int → Int} (hx : 0 ≤ x ∧ x < m) (hy : 0 ≤ y ∧ y < fsz (d : Int)) (h' : FS (XR fco gbe gwf gcf R V (d : Int) (fsz (d : Int)) x y) m' LR LE) (hq : 0 ≤ gbe (V x * 6 + y) ∧ ¬ gwf (gbe (V x * 6 + y)) = 0) : ∀ i, 0 ≤ i → i < m' → ¬ LR i = rowf fco gbe gcf R V (d : Int) x y := by
  intro i i1 i2 e
  obtain ⟨j, c, c1, c2, c3, c4, c5⟩ := h'.2.1 i i1 i2
  rw [c4] at e
  have := row_inj hT hn hd hLS hB h ⟨c1.1, by omega⟩ c2 c3 hx hy hq e
  omega
theorem xr_rng (hT : TB fsz fco ffu fsu fbb fmo) (hn : n ≤ 12) (hd : d < n) (hLS : LYS fsz fco ffu fsu fbb fmo n gst gk gwt gct gbe) (hB : ∀ d : Nat, d ≤ n → BK fsz fco ffu fsu fbb fmo fle n gk gwf gcf d (gst (d : Int)) (gst ((d : Int) + 1)))
    (h : FS (PC fsz fco ffu fsu fbb fmo fle n gst gk d) m R V) {x y m' : Int} {LR LE : Int → Int} (hx : 0 ≤ x ∧ x ≤ m) (hy : x = m → y ≤ 0) (h' : FS (XR fco gbe gwf gcf R V (d : Int) (fsz (d : Int)) x y) m' LR LE) : ∀ i, 0 ≤ i → i < m' → 0 ≤ LR i ∧ LR i < 4611686018427387904 := by
  intro i i1 i2
  obtain ⟨j, c, c1, c2, c3, c4, c5⟩ := h'.2.1 i i1 i2
  rw [c4]
  exact pc_rng hT hn (by omega) (row_pc hT hn hd hLS hB h ⟨c1.1, by omega⟩ c2 c3)
end RN
theorem fs_skip {Xs Ys : Int → Int → Prop} {m : Int} {R V : Int → Int} (h : FS Xs m R V) (hn : ∀ E v, ¬ Ys E v) : FS (fun E v => Xs E v ∨ Ys E v) m R V :=
  fs_congr h (fun E v => ⟨Or.inl, fun q => q.elim id (fun z => absurd z (hn E v))⟩)
end
section
/-! FirstPlans.lengthen, lengthenAll -/
abbrev sty_F_lengthen : MethodName := ⟨"StateTables$FirstPlans", "lengthen", "(III)V"⟩
abbrev stc_F_lengthen : ByteArray := prog_2_method_7_code
theorem sth_F_lengthen : (sty_F_lengthen).cls ≠ "java/lang/invoke/MethodHandle" ∧ (sty_F_lengthen).cls ≠ "java/lang/invoke/VarHandle" ∧ (parseMethodDescriptor (sty_F_lengthen).desc).map (fun d => d.parameters.length) = some 3 := by decide +kernel
theorem std_F_lengthen_0 : decode stc_F_lengthen 0 = .ok (.aload_n 0, 1) := by decide +kernel
theorem std_F_lengthen_1 : decode stc_F_lengthen 1 = .ok (.getfield 15, 3) := by decide +kernel
theorem kw_1_134 : Cond.fieldLink "StateTables$FirstPlans" 15 "StateTables$FirstPlans" "ends" "[I" ∈ stGW := st_t1 (List.mem_of_getElem? (i := 134) (by decide +kernel)) (by decide +kernel)
theorem std_F_lengthen_4 : decode stc_F_lengthen 4 = .ok (.iload_n 1, 1) := by decide +kernel
theorem std_F_lengthen_5 : decode stc_F_lengthen 5 = .ok (.iaload, 1) := by decide +kernel
theorem std_F_lengthen_6 : decode stc_F_lengthen 6 = .ok (.istore 4, 2) := by decide +kernel
theorem std_F_lengthen_8 : decode stc_F_lengthen 8 = .ok (.aload_n 0, 1) := by decide +kernel
theorem std_F_lengthen_9 : decode stc_F_lengthen 9 = .ok (.getfield 29, 3) := by decide +kernel
theorem kw_1_130 : Cond.fieldLink "StateTables$FirstPlans" 29 "StateTables$FirstPlans" "layers" "LStateTables$Layers;" ∈ stGW := st_t1 (List.mem_of_getElem? (i := 130) (by decide +kernel)) (by decide +kernel)
theorem std_F_lengthen_12 : decode stc_F_lengthen 12 = .ok (.iload 4, 2) := by decide +kernel
theorem std_F_lengthen_14 : decode stc_F_lengthen 14 = .ok (.iload_n 3, 1) := by decide +kernel
theorem std_F_lengthen_15 : decode stc_F_lengthen 15 = .ok (.invokevirtual 68, 3) := by decide +kernel
theorem kw_2_134 : Cond.methodLink "StateTables$FirstPlans" 68 (sty_Y_nodeBehind) ∈ stGW := st_t2 (List.mem_of_getElem? (i := 134) (by decide +kernel)) (by decide +kernel)
theorem std_F_lengthen_18 : decode stc_F_lengthen 18 = .ok (.istore 5, 2) := by decide +kernel
theorem std_F_lengthen_20 : decode stc_F_lengthen 20 = .ok (.iload 5, 2) := by decide +kernel
theorem std_F_lengthen_22 : decode stc_F_lengthen 22 = .ok (.ifCond .lt 18, 3) := by decide +kernel
theorem std_F_lengthen_40 : decode stc_F_lengthen 40 = .ok (.return_, 1) := by decide +kernel
theorem std_F_lengthen_25 : decode stc_F_lengthen 25 = .ok (.aload_n 0, 1) := by decide +kernel
theorem std_F_lengthen_26 : decode stc_F_lengthen 26 = .ok (.getfield 29, 3) := by decide +kernel
theorem std_F_lengthen_29 : decode stc_F_lengthen 29 = .ok (.getfield 41, 3) := by decide +kernel
theorem kw_1_97 : Cond.fieldLink "StateTables$FirstPlans" 41 "StateTables$Layers" "waysFrom" "[J" ∈ stGW := st_t1 (List.mem_of_getElem? (i := 97) (by decide +kernel)) (by decide +kernel)
theorem std_F_lengthen_32 : decode stc_F_lengthen 32 = .ok (.iload 5, 2) := by decide +kernel
theorem std_F_lengthen_34 : decode stc_F_lengthen 34 = .ok (.laload, 1) := by decide +kernel
theorem std_F_lengthen_35 : decode stc_F_lengthen 35 = .ok (.lconst 0, 1) := by decide +kernel
theorem std_F_lengthen_36 : decode stc_F_lengthen 36 = .ok (.lcmp, 1) := by decide +kernel
theorem std_F_lengthen_37 : decode stc_F_lengthen 37 = .ok (.ifCond .ne 4, 3) := by decide +kernel
theorem std_F_lengthen_41 : decode stc_F_lengthen 41 = .ok (.aload_n 0, 1) := by decide +kernel
theorem std_F_lengthen_42 : decode stc_F_lengthen 42 = .ok (.getfield 25, 3) := by decide +kernel
theorem kw_1_129 : Cond.fieldLink "StateTables$FirstPlans" 25 "StateTables$FirstPlans" "told" "LStateTables$Told;" ∈ stGW := st_t1 (List.mem_of_getElem? (i := 129) (by decide +kernel)) (by decide +kernel)
theorem std_F_lengthen_45 : decode stc_F_lengthen 45 = .ok (.getfield 72, 3) := by decide +kernel
theorem kw_1_39 : Cond.fieldLink "StateTables$FirstPlans" 72 "StateTables$Told" "costs" "[I" ∈ stGW := st_t1 (List.mem_of_getElem? (i := 39) (by decide +kernel)) (by decide +kernel)
theorem std_F_lengthen_48 : decode stc_F_lengthen 48 = .ok (.iload_n 2, 1) := by decide +kernel
theorem std_F_lengthen_49 : decode stc_F_lengthen 49 = .ok (.iload_n 3, 1) := by decide +kernel
theorem std_F_lengthen_50 : decode stc_F_lengthen 50 = .ok (.invokestatic 75, 3) := by decide +kernel
theorem std_F_lengthen_53 : decode stc_F_lengthen 53 = .ok (.iaload, 1) := by decide +kernel
theorem std_F_lengthen_54 : decode stc_F_lengthen 54 = .ok (.aload_n 0, 1) := by decide +kernel
theorem std_F_lengthen_55 : decode stc_F_lengthen 55 = .ok (.getfield 29, 3) := by decide +kernel
theorem std_F_lengthen_58 : decode stc_F_lengthen 58 = .ok (.getfield 46, 3) := by decide +kernel
theorem kw_1_93 : Cond.fieldLink "StateTables$FirstPlans" 46 "StateTables$Layers" "costFrom" "[I" ∈ stGW := st_t1 (List.mem_of_getElem? (i := 93) (by decide +kernel)) (by decide +kernel)
theorem std_F_lengthen_61 : decode stc_F_lengthen 61 = .ok (.iload 5, 2) := by decide +kernel
theorem std_F_lengthen_63 : decode stc_F_lengthen 63 = .ok (.iaload, 1) := by decide +kernel
theorem std_F_lengthen_64 : decode stc_F_lengthen 64 = .ok (.iadd, 1) := by decide +kernel
theorem std_F_lengthen_65 : decode stc_F_lengthen 65 = .ok (.aload_n 0, 1) := by decide +kernel
theorem std_F_lengthen_66 : decode stc_F_lengthen 66 = .ok (.getfield 29, 3) := by decide +kernel
theorem std_F_lengthen_69 : decode stc_F_lengthen 69 = .ok (.getfield 46, 3) := by decide +kernel
theorem std_F_lengthen_72 : decode stc_F_lengthen 72 = .ok (.iload 4, 2) := by decide +kernel
theorem std_F_lengthen_74 : decode stc_F_lengthen 74 = .ok (.iaload, 1) := by decide +kernel
theorem std_F_lengthen_75 : decode stc_F_lengthen 75 = .ok (.isub, 1) := by decide +kernel
theorem std_F_lengthen_76 : decode stc_F_lengthen 76 = .ok (.istore 6, 2) := by decide +kernel
theorem std_F_lengthen_78 : decode stc_F_lengthen 78 = .ok (.aload_n 0, 1) := by decide +kernel
theorem std_F_lengthen_79 : decode stc_F_lengthen 79 = .ok (.getfield 11, 3) := by decide +kernel
theorem std_F_lengthen_82 : decode stc_F_lengthen 82 = .ok (.iload_n 1, 1) := by decide +kernel
theorem std_F_lengthen_83 : decode stc_F_lengthen 83 = .ok (.laload, 1) := by decide +kernel
theorem std_F_lengthen_84 : decode stc_F_lengthen 84 = .ok (.iload 6, 2) := by decide +kernel
theorem std_F_lengthen_86 : decode stc_F_lengthen 86 = .ok (.i2l, 1) := by decide +kernel
theorem std_F_lengthen_87 : decode stc_F_lengthen 87 = .ok (.bipush 36, 2) := by decide +kernel
theorem std_F_lengthen_89 : decode stc_F_lengthen 89 = .ok (.lshl, 1) := by decide +kernel
theorem std_F_lengthen_90 : decode stc_F_lengthen 90 = .ok (.ladd, 1) := by decide +kernel
theorem std_F_lengthen_91 : decode stc_F_lengthen 91 = .ok (.iload_n 3, 1) := by decide +kernel
theorem std_F_lengthen_92 : decode stc_F_lengthen 92 = .ok (.i2l, 1) := by decide +kernel
theorem std_F_lengthen_93 : decode stc_F_lengthen 93 = .ok (.iload_n 2, 1) := by decide +kernel
theorem std_F_lengthen_94 : decode stc_F_lengthen 94 = .ok (.invokestatic 33, 3) := by decide +kernel
theorem std_F_lengthen_97 : decode stc_F_lengthen 97 = .ok (.lshl, 1) := by decide +kernel
theorem std_F_lengthen_98 : decode stc_F_lengthen 98 = .ok (.ladd, 1) := by decide +kernel
theorem std_F_lengthen_99 : decode stc_F_lengthen 99 = .ok (.lstore 7, 2) := by decide +kernel
theorem std_F_lengthen_101 : decode stc_F_lengthen 101 = .ok (.aload_n 0, 1) := by decide +kernel
theorem std_F_lengthen_102 : decode stc_F_lengthen 102 = .ok (.lload 7, 2) := by decide +kernel
theorem std_F_lengthen_104 : decode stc_F_lengthen 104 = .ok (.iload 5, 2) := by decide +kernel
theorem std_F_lengthen_106 : decode stc_F_lengthen 106 = .ok (.invokevirtual 78, 3) := by decide +kernel
theorem kw_2_142 : Cond.code sty_F_keepIfAmongFirst stc_F_keepIfAmongFirst 5 none ∈ stGW := st_t2 (List.mem_of_getElem? (i := 142) (by decide +kernel)) (by decide +kernel)
theorem kw_2_139 : Cond.methodLink "StateTables$FirstPlans" 78 (sty_F_keepIfAmongFirst) ∈ stGW := st_t2 (List.mem_of_getElem? (i := 139) (by decide +kernel)) (by decide +kernel)
theorem kw_2_141 : Cond.instanceMethod (sty_F_keepIfAmongFirst) ∈ stGW := st_t2 (List.mem_of_getElem? (i := 141) (by decide +kernel)) (by decide +kernel)
theorem kw_0_9 : Cond.selects "StateTables$FirstPlans" (sty_F_keepIfAmongFirst) (sty_F_keepIfAmongFirst) ∈ stGW := st_t0 (List.mem_of_getElem? (i := 9) (by decide +kernel)) (by decide +kernel)
theorem std_F_lengthen_109 : decode stc_F_lengthen 109 = .ok (.return_, 1) := by decide +kernel
set_option maxHeartbeats 4000000 in
set_option maxRecDepth 100000 in
theorem c_lengthen (l : Launch) (dC : Nat → ClassId) (dI : Nat → Nat → Nat) (cI cJ cZ : ClassId) (f0 : Nat) (r1 : Nat) (e1 : Nat) (r2 : Nat) (e2 : Nat) (fo : Int) (lf : Int) (y0 : Nat) (ys : Nat) (yk : Nat) (yc : Nat) (yd : Nat) (yw : Nat) (yx : Nat) (yb : Nat) (yu : Nat) (total : Int) (t0 : Nat) (hs : Nat) (hc : Nat) (hf : Nat) (hg : Nat) (hb : Nat) (he : Nat) (hm : Nat) (steps : Int) (choices : Int) (bars : Int) (cap : Nat) (fr1 : Int → Int) (fe1 : Int → Int) (fr2 : Int → Int) (fe2 : Int → Int) (gbe : Int → Int) (gwf : Int → Int) (gcf : Int → Int) (fco : Int → Int) (Xs : Int → Int → Prop) (a : Int) (sd : Int) (b : Int) (kcap : cap ≤ 4801) (ka : 0 ≤ a ∧ a < 20) (ksd : 0 ≤ sd ∧ sd < 12) (kb : 0 ≤ b ∧ b < 6) (kv : 0 ≤ fe1 a ∧ fe1 a < (cap : Int)) (kNX : (-1 ≤ (gbe ((fe1 a * 6) + b)) ∧ (gbe ((fe1 a * 6) + b)) < (cap : Int)) ∧ (0 ≤ (gbe ((fe1 a * 6) + b)) → (0 ≤ gwf (gbe ((fe1 a * 6) + b)) ∧ gwf (gbe ((fe1 a * 6) + b)) ≤ 1000000000000) ∧ -1000000 ≤ gcf (gbe ((fe1 a * 6) + b)) ∧ gcf (gbe ((fe1 a * 6) + b)) ≤ 1000000)) (kg : -1000000 ≤ gcf (fe1 a) ∧ gcf (fe1 a) ≤ 1000000) (kco : ∀ j, 0 ≤ j → j < 72 → -1000 ≤ fco j ∧ fco j ≤ 1000) (kF : FS Xs lf fr2 fe2) (kne : (0 ≤ (gbe ((fe1 a * 6) + b)) ∧ ¬ gwf (gbe ((fe1 a * 6) + b)) = 0) → ∀ i, 0 ≤ i → i < lf → ¬ fr2 i = (rowf fco gbe gcf fr1 fe1 sd a b)) (kR : ∀ i, 0 ≤ i → i < lf → 0 ≤ fr2 i ∧ fr2 i < 4611686018427387904) (kw : (0 ≤ (gbe ((fe1 a * 6) + b)) ∧ ¬ gwf (gbe ((fe1 a * 6) + b)) = 0) → 0 ≤ (rowf fco gbe gcf fr1 fe1 sd a b) ∧ (rowf fco gbe gcf fr1 fe1 sd a b) < 4611686018427387904) : ∀ sz, Met l sty_F_lengthen (Cond.code sty_F_lengthen stc_F_lengthen 9 none :: stGW) ({ frames := 1, cells := 0, slots := 0, locals := 24 } : Room) (va_Pc [.ref f0, .int (iI a), .int (iI sd), .int (iI b)] (zPre (dC, dI) stCl [(cI, .int), (cJ, .long), (cZ, .boolean)] st_nw [(f0, .inr (3, [.ref t0, .ref y0, .int (iI fo), .ref r1, .ref e1, .int (iI lf), .ref r2, .ref e2])), (r1, .inl (cJ, aL 20 fr1)), (e1, .inl (cI, aI 20 fe1)), (r2, .inl (cJ, aL 20 fr2)), (e2, .inl (cI, aI 20 fe2)), (y0, .inr (2, [.ref t0, .int (iI total), .ref ys, .ref yk, .ref yc, .ref yd, .ref yw, .ref yx, .ref yb, .ref yu])), (yb, .inl (cI, aI (6 * cap) gbe)), (yx, .inl (cJ, aL cap gwf)), (yd, .inl (cI, aI cap gcf)), (t0, .inr (1, [.int (iI steps), .int (iI choices), .int (iI bars), .ref hs, .ref hc, .ref hf, .ref hg, .ref hb, .ref he, .ref hm])), (hc, .inl (cI, aI 72 fco))] sz)) (va_Qv (fun (u : (Int → Int) × (Int → Int) × Int) => FS (fun E v => Xs E v ∨ ((0 ≤ (gbe ((fe1 a * 6) + b)) ∧ ¬ gwf (gbe ((fe1 a * 6) + b)) = 0) ∧ E = (rowf fco gbe gcf fr1 fe1 sd a b) ∧ v = (gbe ((fe1 a * 6) + b)))) u.2.2 u.1 u.2.1) (zPost (dC, dI) stCl [(cI, .int), (cJ, .long), (cZ, .boolean)] [(f0, .inr (3, [.ref t0, .ref y0, .int (iI fo), .ref r1, .ref e1, .int (iI lf), .ref r2, .ref e2])), (r1, .inl (cJ, aL 20 fr1)), (e1, .inl (cI, aI 20 fe1)), (r2, .inl (cJ, aL 20 fr2)), (e2, .inl (cI, aI 20 fe2)), (y0, .inr (2, [.ref t0, .int (iI total), .ref ys, .ref yk, .ref yc, .ref yd, .ref yw, .ref yx, .ref yb, .ref yu])), (yb, .inl (cI, aI (6 * cap) gbe)), (yx, .inl (cJ, aL cap gwf)), (yd, .inl (cI, aI cap gcf)), (t0, .inr (1, [.int (iI steps), .int (iI choices), .int (iI bars), .ref hs, .ref hc, .ref hf, .ref hg, .ref hb, .ref he, .ref hm])), (hc, .inl (cI, aI 72 fco))] sz (fun u : (Int → Int) × (Int → Int) × Int => [(f0, .inr (3, [.ref t0, .ref y0, .int (iI fo), .ref r1, .ref e1, .int (iI (u.2.2)), .ref r2, .ref e2])), (r1, .inl (cJ, aL 20 fr1)), (e1, .inl (cI, aI 20 fe1)), (r2, .inl (cJ, aL 20 (u.1))), (e2, .inl (cI, aI 20 (u.2.1))), (y0, .inr (2, [.ref t0, .int (iI total), .ref ys, .ref yk, .ref yc, .ref yd, .ref yw, .ref yx, .ref yb, .ref yu])), (yb, .inl (cI, aI (6 * cap) gbe)), (yx, .inl (cJ, aL cap gwf)), (yd, .inl (cI, aI cap gcf)), (t0, .inr (1, [.int (iI steps), .int (iI choices), .int (iI bars), .ref hs, .ref hc, .ref hf, .ref hg, .ref hb, .ref he, .ref hm])), (hc, .inl (cI, aI 72 fco))])) (va_A [(f0, .inr (3, [.ref t0, .ref y0, .int (iI fo), .ref r1, .ref e1, .int (iI lf), .ref r2, .ref e2])), (r1, .inl (cJ, aL 20 fr1)), (e1, .inl (cI, aI 20 fe1)), (r2, .inl (cJ, aL 20 fr2)), (e2, .inl (cI, aI 20 fe2)), (y0, .inr (2, [.ref t0, .int (iI total), .ref ys, .ref yk, .ref yc, .ref yd, .ref yw, .ref yx, .ref yb, .ref yu])), (yb, .inl (cI, aI (6 * cap) gbe)), (yx, .inl (cJ, aL cap gwf)), (yd, .inl (cI, aI cap gcf)), (t0, .inr (1, [.int (iI steps), .int (iI choices), .int (iI bars), .ref hs, .ref hc, .ref hf, .ref hg, .ref hb, .ref he, .ref hm])), (hc, .inl (cI, aI 72 fco))] sz)) 0 0 (va_A [(f0, .inr (3, [.ref t0, .ref y0, .int (iI fo), .ref r1, .ref e1, .int (iI lf), .ref r2, .ref e2])), (r1, .inl (cJ, aL 20 fr1)), (e1, .inl (cI, aI 20 fe1)), (r2, .inl (cJ, aL 20 fr2)), (e2, .inl (cI, aI 20 fe2)), (y0, .inr (2, [.ref t0, .int (iI total), .ref ys, .ref yk, .ref yc, .ref yd, .ref yw, .ref yx, .ref yb, .ref yu])), (yb, .inl (cI, aI (6 * cap) gbe)), (yx, .inl (cJ, aL cap gwf)), (yd, .inl (cI, aI cap gcf)), (t0, .inr (1, [.int (iI steps), .int (iI choices), .int (iI bars), .ref hs, .ref hc, .ref hf, .ref hg, .ref hb, .ref he, .ref hm])), (hc, .inl (cI, aI 72 fco))] sz) := by
  refine met_v (by decide) rfl (Nat.le_of_ble_eq_true rfl) ?_
  intro p e s m below meth c A Q C hmn hret
  refine g_aload_n C 0 std_F_lengthen_0 rfl ?_
  refine g_get C (st_sub sti_F) 0 rfl rfl 4 (by decide) (List.mem_cons_of_mem _ kw_1_134) rfl rfl std_F_lengthen_1 ?_
  refine g_iload_n C 1 std_F_lengthen_4 rfl ?_
  refine g_iald C 2 0 rfl rfl (by omega) (by omega) (by omega) std_F_lengthen_5 ?_
  refine g_istore C (lv' := [(4, .int (iI (fe1 a))), (0, .ref f0), (1, .int (iI a)), (2, .int (iI sd)), (3, .int (iI b))]) std_F_lengthen_6 (by decide) rfl ?_
  refine g_aload_n C 1 std_F_lengthen_8 rfl ?_
  refine g_get C (st_sub sti_F) 0 rfl rfl 1 (by decide) (List.mem_cons_of_mem _ kw_1_130) rfl rfl std_F_lengthen_9 ?_
  refine g_iload C 0 std_F_lengthen_12 rfl ?_
  refine g_iload_n C 4 std_F_lengthen_14 rfl ?_
  refine g_V_i (wc := [(y0, .inr (2, [.ref t0, .int (iI total), .ref ys, .ref yk, .ref yc, .ref yd, .ref yw, .ref yx, .ref yb, .ref yu])), (yb, .inl (cI, aI (6 * cap) gbe))]) (wr := [(f0, .inr (3, [.ref t0, .ref y0, .int (iI fo), .ref r1, .ref e1, .int (iI lf), .ref r2, .ref e2])), (r1, .inl (cJ, aL 20 fr1)), (e1, .inl (cI, aI 20 fe1)), (r2, .inl (cJ, aL 20 fr2)), (e2, .inl (cI, aI 20 fe2)), (yx, .inl (cJ, aL cap gwf)), (yd, .inl (cI, aI cap gcf)), (t0, .inr (1, [.int (iI steps), .int (iI choices), .int (iI bars), .ref hs, .ref hc, .ref hf, .ref hg, .ref hb, .ref he, .ref hm])), (hc, .inl (cI, aI 72 fco))]) (rest := []) C (c_nodeBehind l dC dI cI cJ cZ y0 ys yk yc yd yw yx yb yu total t0 cap gbe (fe1 a) b (kcap) (by omega)) (st_cV C kw_2_101 kw_2_134 kw_1_3 kw_2_99 kw_2_100 sth_Y_nodeBehind ⟨Nat.le_of_ble_eq_true rfl, Nat.le_of_ble_eq_true rfl⟩) 0 rfl rfl rfl rfl (Nat.le_of_ble_eq_true rfl) std_F_lengthen_15 ⟨Nat.le_of_ble_eq_true rfl, Nat.le_of_ble_eq_true rfl⟩ [5, 6] [0, 1, 2, 3, 4, 7, 8, 9, 10] rfl rfl rfl rfl (by decide) (fun r1 u2 h3 => ?_)
  subst h3
  refine g_ws (ws' := [(f0, .inr (3, [.ref t0, .ref y0, .int (iI fo), .ref r1, .ref e1, .int (iI lf), .ref r2, .ref e2])), (r1, .inl (cJ, aL 20 fr1)), (e1, .inl (cI, aI 20 fe1)), (r2, .inl (cJ, aL 20 fr2)), (e2, .inl (cI, aI 20 fe2)), (yx, .inl (cJ, aL cap gwf)), (yd, .inl (cI, aI cap gcf)), (t0, .inr (1, [.int (iI steps), .int (iI choices), .int (iI bars), .ref hs, .ref hc, .ref hf, .ref hg, .ref hb, .ref he, .ref hm])), (hc, .inl (cI, aI 72 fco)), (y0, .inr (2, [.ref t0, .int (iI total), .ref ys, .ref yk, .ref yc, .ref yd, .ref yw, .ref yx, .ref yb, .ref yu])), (yb, .inl (cI, aI (6 * cap) gbe))]) rfl ?_
  refine g_istore C (lv' := [(5, .int (iI (gbe (((fe1 a) * 6) + b)))), (4, .int (iI (fe1 a))), (0, .ref f0), (1, .int (iI a)), (2, .int (iI sd)), (3, .int (iI b))]) std_F_lengthen_18 (by decide) rfl ?_
  refine g_iload C 0 std_F_lengthen_20 rfl ?_
  refine g_if_lt (tgt := 40) C std_F_lengthen_22 (by decide) ⟨by omega, by omega⟩ (fun c4 => ?_) (fun c4 => ?_)
  · refine g_sub (ws' := [(f0, .inr (3, [.ref t0, .ref y0, .int (iI fo), .ref r1, .ref e1, .int (iI lf), .ref r2, .ref e2])), (r1, .inl (cJ, aL 20 fr1)), (e1, .inl (cI, aI 20 fe1)), (r2, .inl (cJ, aL 20 fr2)), (e2, .inl (cI, aI 20 fe2)), (y0, .inr (2, [.ref t0, .int (iI total), .ref ys, .ref yk, .ref yc, .ref yd, .ref yw, .ref yx, .ref yb, .ref yu])), (yb, .inl (cI, aI (6 * cap) gbe)), (yx, .inl (cJ, aL cap gwf)), (yd, .inl (cI, aI cap gcf)), (t0, .inr (1, [.int (iI steps), .int (iI choices), .int (iI bars), .ref hs, .ref hc, .ref hf, .ref hg, .ref hb, .ref he, .ref hm])), (hc, .inl (cI, aI 72 fco))]) [0, 1, 2, 3, 4, 9, 10, 5, 6, 7, 8] rfl rfl ?_
    refine g_wide (k := 0) (n := 0) (Nat.le_of_ble_eq_true rfl) (Nat.le_of_ble_eq_true rfl) ?_
    exact hret _ _ (fr2, fe2, lf) (fs_skip (Ys := fun E v => (0 ≤ (gbe ((fe1 a * 6) + b)) ∧ ¬ gwf (gbe ((fe1 a * 6) + b)) = 0) ∧ E = (rowf fco gbe gcf fr1 fe1 sd a b) ∧ v = (gbe ((fe1 a * 6) + b))) kF (fun E v z => by have := z.1; omega)) std_F_lengthen_40
  · refine g_aload_n C 2 std_F_lengthen_25 rfl ?_
    refine g_get C (st_sub sti_F) 0 rfl rfl 1 (by decide) (List.mem_cons_of_mem _ kw_1_130) rfl rfl std_F_lengthen_26 ?_
    refine g_get C (st_sub sti_Y) 9 rfl rfl 7 (by decide) (List.mem_cons_of_mem _ kw_1_97) rfl rfl std_F_lengthen_29 ?_
    refine g_iload C 0 std_F_lengthen_32 rfl ?_
    refine g_lald C 5 1 rfl rfl (by omega) (by omega) (by omega) std_F_lengthen_34 ?_
    have hq1 := (kNX.2 (by omega)).1
    refine g_lconst C (z := 0) std_F_lengthen_35 (by decide) ?_
    refine g_lcmp_ne (tgt := 41) C std_F_lengthen_36 std_F_lengthen_37 (by decide) ⟨by omega, by omega⟩ ⟨by omega, by omega⟩ (fun c5 => ?_) (fun c5 => ?_)
    · have hcnd : (0 ≤ (gbe ((fe1 a * 6) + b)) ∧ ¬ gwf (gbe ((fe1 a * 6) + b)) = 0) := ⟨by omega, by omega⟩
      have hq2 := (kNX.2 (by omega)).2
      have hq3 := kco ((sd * 6) + b) (by omega) (by omega)
      refine g_aload_n C 2 std_F_lengthen_41 rfl ?_
      refine g_get C (st_sub sti_F) 0 rfl rfl 0 (by decide) (List.mem_cons_of_mem _ kw_1_129) rfl rfl std_F_lengthen_42 ?_
      refine g_get C (st_sub sti_T) 7 rfl rfl 4 (by decide) (List.mem_cons_of_mem _ kw_1_39) rfl rfl std_F_lengthen_45 ?_
      refine g_iload_n C 4 std_F_lengthen_48 rfl ?_
      refine g_iload_n C 5 std_F_lengthen_49 rfl ?_
      refine g_SN_i (wc := []) (wr := [(f0, .inr (3, [.ref t0, .ref y0, .int (iI fo), .ref r1, .ref e1, .int (iI lf), .ref r2, .ref e2])), (r1, .inl (cJ, aL 20 fr1)), (e1, .inl (cI, aI 20 fe1)), (r2, .inl (cJ, aL 20 fr2)), (e2, .inl (cI, aI 20 fe2)), (yx, .inl (cJ, aL cap gwf)), (yd, .inl (cI, aI cap gcf)), (t0, .inr (1, [.int (iI steps), .int (iI choices), .int (iI bars), .ref hs, .ref hc, .ref hf, .ref hg, .ref hb, .ref he, .ref hm])), (hc, .inl (cI, aI 72 fco)), (y0, .inr (2, [.ref t0, .int (iI total), .ref ys, .ref yk, .ref yc, .ref yd, .ref yw, .ref yx, .ref yb, .ref yu])), (yb, .inl (cI, aI (6 * cap) gbe))]) (rest := [.ref hc]) C (c_placeOf l dC dI cI cJ cZ sd b ) (st_cSN C kw_1_235 (List.mem_of_getElem? (i := 7) rfl) kw_1_1 kw_1_234 sth_S_placeOf ⟨Nat.le_of_ble_eq_true rfl, Nat.le_of_ble_eq_true rfl⟩) rfl rfl (Nat.le_of_ble_eq_true rfl) std_F_lengthen_50 ⟨Nat.le_of_ble_eq_true rfl, Nat.le_of_ble_eq_true rfl⟩ [] [0, 1, 2, 3, 4, 5, 6, 7, 8, 9, 10] rfl rfl rfl rfl (by decide) (fun r6 u7 h8 => ?_)
      subst h8
      refine g_ws (ws' := [(f0, .inr (3, [.ref t0, .ref y0, .int (iI fo), .ref r1, .ref e1, .int (iI lf), .ref r2, .ref e2])), (r1, .inl (cJ, aL 20 fr1)), (e1, .inl (cI, aI 20 fe1)), (r2, .inl (cJ, aL 20 fr2)), (e2, .inl (cI, aI 20 fe2)), (yx, .inl (cJ, aL cap gwf)), (yd, .inl (cI, aI cap gcf)), (t0, .inr (1, [.int (iI steps), .int (iI choices), .int (iI bars), .ref hs, .ref hc, .ref hf, .ref hg, .ref hb, .ref he, .ref hm])), (hc, .inl (cI, aI 72 fco)), (y0, .inr (2, [.ref t0, .int (iI total), .ref ys, .ref yk, .ref yc, .ref yd, .ref yw, .ref yx, .ref yb, .ref yu])), (yb, .inl (cI, aI (6 * cap) gbe))]) rfl ?_
      refine g_iald C 8 0 rfl rfl (by omega) (by omega) (by omega) std_F_lengthen_53 ?_
      refine g_aload_n C 2 std_F_lengthen_54 rfl ?_
      refine g_get C (st_sub sti_F) 0 rfl rfl 1 (by decide) (List.mem_cons_of_mem _ kw_1_130) rfl rfl std_F_lengthen_55 ?_
      refine g_get C (st_sub sti_Y) 9 rfl rfl 5 (by decide) (List.mem_cons_of_mem _ kw_1_93) rfl rfl std_F_lengthen_58 ?_
      refine g_iload C 0 std_F_lengthen_61 rfl ?_
      refine g_iald C 6 0 rfl rfl (by omega) (by omega) (by omega) std_F_lengthen_63 ?_
      refine g_iadd C std_F_lengthen_64 ?_
      refine g_aload_n C 2 std_F_lengthen_65 rfl ?_
      refine g_get C (st_sub sti_F) 0 rfl rfl 1 (by decide) (List.mem_cons_of_mem _ kw_1_130) rfl rfl std_F_lengthen_66 ?_
      refine g_get C (st_sub sti_Y) 9 rfl rfl 5 (by decide) (List.mem_cons_of_mem _ kw_1_93) rfl rfl std_F_lengthen_69 ?_
      refine g_iload C 1 std_F_lengthen_72 rfl ?_
      refine g_iald C 6 0 rfl rfl (by omega) (by omega) (by omega) std_F_lengthen_74 ?_
      refine g_isub C std_F_lengthen_75 ?_
      refine g_istore C (lv' := [(6, .int (iI (((fco ((sd * 6) + b)) + (gcf (gbe (((fe1 a) * 6) + b)))) - (gcf (fe1 a))))), (5, .int (iI (gbe (((fe1 a) * 6) + b)))), (4, .int (iI (fe1 a))), (0, .ref f0), (1, .int (iI a)), (2, .int (iI sd)), (3, .int (iI b))]) std_F_lengthen_76 (by decide) rfl ?_
      refine g_aload_n C 3 std_F_lengthen_78 rfl ?_
      refine g_get C (st_sub sti_F) 0 rfl rfl 3 (by decide) (List.mem_cons_of_mem _ kw_1_133) rfl rfl std_F_lengthen_79 ?_
      refine g_iload_n C 4 std_F_lengthen_82 rfl ?_
      refine g_lald C 1 1 rfl rfl (by omega) (by omega) (by omega) std_F_lengthen_83 ?_
      refine g_iload C 0 std_F_lengthen_84 rfl ?_
      refine g_i2l C std_F_lengthen_86 ⟨by omega, by omega⟩ ?_
      refine g_bipush C std_F_lengthen_87 (by decide) ?_
      refine g_lshl C (z := ((((fco ((sd * 6) + b)) + (gcf (gbe (((fe1 a) * 6) + b)))) - (gcf (fe1 a))) * 68719476736)) std_F_lengthen_89 (lI_shl (by decide) (by decide) (by decide)) ?_
      refine g_ladd C std_F_lengthen_90 ?_
      refine g_iload_n C 6 std_F_lengthen_91 rfl ?_
      refine g_i2l C std_F_lengthen_92 ⟨by omega, by omega⟩ ?_
      refine g_iload_n C 5 std_F_lengthen_93 rfl ?_
      refine g_S_i (wc := []) (wr := [(f0, .inr (3, [.ref t0, .ref y0, .int (iI fo), .ref r1, .ref e1, .int (iI lf), .ref r2, .ref e2])), (r1, .inl (cJ, aL 20 fr1)), (e1, .inl (cI, aI 20 fe1)), (r2, .inl (cJ, aL 20 fr2)), (e2, .inl (cI, aI 20 fe2)), (yx, .inl (cJ, aL cap gwf)), (yd, .inl (cI, aI cap gcf)), (t0, .inr (1, [.int (iI steps), .int (iI choices), .int (iI bars), .ref hs, .ref hc, .ref hf, .ref hg, .ref hb, .ref he, .ref hm])), (hc, .inl (cI, aI 72 fco)), (y0, .inr (2, [.ref t0, .int (iI total), .ref ys, .ref yk, .ref yc, .ref yd, .ref yw, .ref yx, .ref yb, .ref yu])), (yb, .inl (cI, aI (6 * cap) gbe))]) (rest := [.long (lI b), .long (lI ((fr1 a) + ((((fco ((sd * 6) + b)) + (gcf (gbe (((fe1 a) * 6) + b)))) - (gcf (fe1 a))) * 68719476736)))]) C (c_bitsBehind l dC dI cI cJ cZ sd ) (st_cS C kw_2_138 kw_2_136 kw_1_4 kw_2_137 sth_F_bitsBehind ⟨Nat.le_of_ble_eq_true rfl, Nat.le_of_ble_eq_true rfl⟩) rfl rfl (Nat.le_of_ble_eq_true rfl) std_F_lengthen_94 ⟨Nat.le_of_ble_eq_true rfl, Nat.le_of_ble_eq_true rfl⟩ [] [0, 1, 2, 3, 4, 5, 6, 7, 8, 9, 10] rfl rfl rfl rfl (by decide) (fun r9 u10 h11 => ?_)
      subst h11
      refine g_ws (ws' := [(f0, .inr (3, [.ref t0, .ref y0, .int (iI fo), .ref r1, .ref e1, .int (iI lf), .ref r2, .ref e2])), (r1, .inl (cJ, aL 20 fr1)), (e1, .inl (cI, aI 20 fe1)), (r2, .inl (cJ, aL 20 fr2)), (e2, .inl (cI, aI 20 fe2)), (yx, .inl (cJ, aL cap gwf)), (yd, .inl (cI, aI cap gcf)), (t0, .inr (1, [.int (iI steps), .int (iI choices), .int (iI bars), .ref hs, .ref hc, .ref hf, .ref hg, .ref hb, .ref he, .ref hm])), (hc, .inl (cI, aI 72 fco)), (y0, .inr (2, [.ref t0, .int (iI total), .ref ys, .ref yk, .ref yc, .ref yd, .ref yw, .ref yx, .ref yb, .ref yu])), (yb, .inl (cI, aI (6 * cap) gbe))]) rfl ?_
      refine g_lshl C (z := (b * (2 ^ (3 * (11 - sd)).toNat))) std_F_lengthen_97 (lI_shl (by omega) (by omega) rfl) ?_
      refine g_ladd C std_F_lengthen_98 ?_
      refine g_lstore C (lv' := [(7, .long (lI (((fr1 a) + ((((fco ((sd * 6) + b)) + (gcf (gbe (((fe1 a) * 6) + b)))) - (gcf (fe1 a))) * 68719476736)) + (b * (2 ^ (3 * (11 - sd)).toNat))))), (6, .int (iI (((fco ((sd * 6) + b)) + (gcf (gbe (((fe1 a) * 6) + b)))) - (gcf (fe1 a))))), (5, .int (iI (gbe (((fe1 a) * 6) + b)))), (4, .int (iI (fe1 a))), (0, .ref f0), (1, .int (iI a)), (2, .int (iI sd)), (3, .int (iI b))]) std_F_lengthen_99 (by decide) rfl ?_
      refine g_aload_n C 4 std_F_lengthen_101 rfl ?_
      refine g_lload C 0 std_F_lengthen_102 rfl ?_
      refine g_iload C 2 std_F_lengthen_104 rfl ?_
      refine g_V_v (wc := [(f0, .inr (3, [.ref t0, .ref y0, .int (iI fo), .ref r1, .ref e1, .int (iI lf), .ref r2, .ref e2])), (r2, .inl (cJ, aL 20 fr2)), (e2, .inl (cI, aI 20 fe2))]) (wr := [(r1, .inl (cJ, aL 20 fr1)), (e1, .inl (cI, aI 20 fe1)), (yx, .inl (cJ, aL cap gwf)), (yd, .inl (cI, aI cap gcf)), (t0, .inr (1, [.int (iI steps), .int (iI choices), .int (iI bars), .ref hs, .ref hc, .ref hf, .ref hg, .ref hb, .ref he, .ref hm])), (hc, .inl (cI, aI 72 fco)), (y0, .inr (2, [.ref t0, .int (iI total), .ref ys, .ref yk, .ref yc, .ref yd, .ref yw, .ref yx, .ref yb, .ref yu])), (yb, .inl (cI, aI (6 * cap) gbe))]) (rest := []) C (c_keepIfAmongFirst l dC dI cI cJ cZ f0 r1 e1 r2 e2 fo lf t0 y0 fr2 fe2 Xs (((fr1 a) + ((((fco ((sd * 6) + b)) + (gcf (gbe (((fe1 a) * 6) + b)))) - (gcf (fe1 a))) * 68719476736)) + (b * (2 ^ (3 * (11 - sd)).toNat))) (gbe (((fe1 a) * 6) + b)) (kF) (kne hcnd) (kR) (kw hcnd)) (st_cV C kw_2_142 kw_2_139 kw_1_4 kw_2_141 kw_0_9 sth_F_keepIfAmongFirst ⟨Nat.le_of_ble_eq_true rfl, Nat.le_of_ble_eq_true rfl⟩) 0 rfl rfl rfl rfl (Nat.le_of_ble_eq_true rfl) std_F_lengthen_106 ⟨Nat.le_of_ble_eq_true rfl, Nat.le_of_ble_eq_true rfl⟩ [0, 3, 4] [1, 2, 5, 6, 7, 8, 9, 10] rfl rfl rfl rfl (by decide) (fun u13 h14 => ?_)
      obtain ⟨LR15, LE16, m17⟩ := u13
      dsimp only at h14
      refine g_ws (ws' := [(r1, .inl (cJ, aL 20 fr1)), (e1, .inl (cI, aI 20 fe1)), (yx, .inl (cJ, aL cap gwf)), (yd, .inl (cI, aI cap gcf)), (t0, .inr (1, [.int (iI steps), .int (iI choices), .int (iI bars), .ref hs, .ref hc, .ref hf, .ref hg, .ref hb, .ref he, .ref hm])), (hc, .inl (cI, aI 72 fco)), (y0, .inr (2, [.ref t0, .int (iI total), .ref ys, .ref yk, .ref yc, .ref yd, .ref yw, .ref yx, .ref yb, .ref yu])), (yb, .inl (cI, aI (6 * cap) gbe)), (f0, .inr (3, [.ref t0, .ref y0, .int (iI fo), .ref r1, .ref e1, .int (iI m17), .ref r2, .ref e2])), (r2, .inl (cJ, aL 20 LR15)), (e2, .inl (cI, aI 20 LE16))]) rfl ?_
      refine g_sub (ws' := [(f0, .inr (3, [.ref t0, .ref y0, .int (iI fo), .ref r1, .ref e1, .int (iI m17), .ref r2, .ref e2])), (r1, .inl (cJ, aL 20 fr1)), (e1, .inl (cI, aI 20 fe1)), (r2, .inl (cJ, aL 20 LR15)), (e2, .inl (cI, aI 20 LE16)), (y0, .inr (2, [.ref t0, .int (iI total), .ref ys, .ref yk, .ref yc, .ref yd, .ref yw, .ref yx, .ref yb, .ref yu])), (yb, .inl (cI, aI (6 * cap) gbe)), (yx, .inl (cJ, aL cap gwf)), (yd, .inl (cI, aI cap gcf)), (t0, .inr (1, [.int (iI steps), .int (iI choices), .int (iI bars), .ref hs, .ref hc, .ref hf, .ref hg, .ref hb, .ref he, .ref hm])), (hc, .inl (cI, aI 72 fco))]) [8, 0, 1, 9, 10, 6, 7, 2, 3, 4, 5] rfl rfl ?_
      refine g_wide (k := 0) (n := 0) (Nat.le_of_ble_eq_true rfl) (Nat.le_of_ble_eq_true rfl) ?_
      exact hret _ _ (LR15, LE16, m17) (fs_congr h14 (fun E v => ⟨fun q => q.elim Or.inl (fun z => Or.inr ⟨hcnd, z⟩), fun q => q.elim Or.inl (fun z => Or.inr z.2)⟩)) std_F_lengthen_109
    · refine g_sub (ws' := [(f0, .inr (3, [.ref t0, .ref y0, .int (iI fo), .ref r1, .ref e1, .int (iI lf), .ref r2, .ref e2])), (r1, .inl (cJ, aL 20 fr1)), (e1, .inl (cI, aI 20 fe1)), (r2, .inl (cJ, aL 20 fr2)), (e2, .inl (cI, aI 20 fe2)), (y0, .inr (2, [.ref t0, .int (iI total), .ref ys, .ref yk, .ref yc, .ref yd, .ref yw, .ref yx, .ref yb, .ref yu])), (yb, .inl (cI, aI (6 * cap) gbe)), (yx, .inl (cJ, aL cap gwf)), (yd, .inl (cI, aI cap gcf)), (t0, .inr (1, [.int (iI steps), .int (iI choices), .int (iI bars), .ref hs, .ref hc, .ref hf, .ref hg, .ref hb, .ref he, .ref hm])), (hc, .inl (cI, aI 72 fco))]) [0, 1, 2, 3, 4, 9, 10, 5, 6, 7, 8] rfl rfl ?_
      refine g_wide (k := 0) (n := 0) (Nat.le_of_ble_eq_true rfl) (Nat.le_of_ble_eq_true rfl) ?_
      exact hret _ _ (fr2, fe2, lf) (fs_skip (Ys := fun E v => (0 ≤ (gbe ((fe1 a * 6) + b)) ∧ ¬ gwf (gbe ((fe1 a * 6) + b)) = 0) ∧ E = (rowf fco gbe gcf fr1 fe1 sd a b) ∧ v = (gbe ((fe1 a * 6) + b))) kF (fun E v z => by have := z.1; omega)) std_F_lengthen_40

abbrev sty_F_lengthenAll : MethodName := ⟨"StateTables$FirstPlans", "lengthenAll", "(I)V"⟩
abbrev stc_F_lengthenAll : ByteArray := prog_2_method_6_code
theorem sth_F_lengthenAll : (sty_F_lengthenAll).cls ≠ "java/lang/invoke/MethodHandle" ∧ (sty_F_lengthenAll).cls ≠ "java/lang/invoke/VarHandle" ∧ (parseMethodDescriptor (sty_F_lengthenAll).desc).map (fun d => d.parameters.length) = some 1 := by decide +kernel
theorem std_F_lengthenAll_0 : decode stc_F_lengthenAll 0 = .ok (.aload_n 0, 1) := by decide +kernel
theorem std_F_lengthenAll_1 : decode stc_F_lengthenAll 1 = .ok (.iconst 0, 1) := by decide +kernel
theorem std_F_lengthenAll_2 : decode stc_F_lengthenAll 2 = .ok (.putfield 58, 3) := by decide +kernel
theorem std_F_lengthenAll_5 : decode stc_F_lengthenAll 5 = .ok (.iconst 0, 1) := by decide +kernel
theorem std_F_lengthenAll_6 : decode stc_F_lengthenAll 6 = .ok (.istore_n 2, 1) := by decide +kernel
theorem std_F_lengthenAll_7 : decode stc_F_lengthenAll 7 = .ok (.iload_n 2, 1) := by decide +kernel
theorem std_F_lengthenAll_8 : decode stc_F_lengthenAll 8 = .ok (.aload_n 0, 1) := by decide +kernel
theorem std_F_lengthenAll_9 : decode stc_F_lengthenAll 9 = .ok (.getfield 37, 3) := by decide +kernel
theorem kw_1_131 : Cond.fieldLink "StateTables$FirstPlans" 37 "StateTables$FirstPlans" "found" "I" ∈ stGW := st_t1 (List.mem_of_getElem? (i := 131) (by decide +kernel)) (by decide +kernel)
theorem std_F_lengthenAll_12 : decode stc_F_lengthenAll 12 = .ok (.if_icmp .ge 37, 3) := by decide +kernel
theorem std_F_lengthenAll_49 : decode stc_F_lengthenAll 49 = .ok (.aload_n 0, 1) := by decide +kernel
theorem std_F_lengthenAll_50 : decode stc_F_lengthenAll 50 = .ok (.getfield 11, 3) := by decide +kernel
theorem std_F_lengthenAll_53 : decode stc_F_lengthenAll 53 = .ok (.astore_n 2, 1) := by decide +kernel
theorem std_F_lengthenAll_54 : decode stc_F_lengthenAll 54 = .ok (.aload_n 0, 1) := by decide +kernel
theorem std_F_lengthenAll_55 : decode stc_F_lengthenAll 55 = .ok (.getfield 15, 3) := by decide +kernel
theorem std_F_lengthenAll_58 : decode stc_F_lengthenAll 58 = .ok (.astore_n 3, 1) := by decide +kernel
theorem std_F_lengthenAll_59 : decode stc_F_lengthenAll 59 = .ok (.aload_n 0, 1) := by decide +kernel
theorem std_F_lengthenAll_60 : decode stc_F_lengthenAll 60 = .ok (.aload_n 0, 1) := by decide +kernel
theorem std_F_lengthenAll_61 : decode stc_F_lengthenAll 61 = .ok (.getfield 19, 3) := by decide +kernel
theorem std_F_lengthenAll_64 : decode stc_F_lengthenAll 64 = .ok (.putfield 11, 3) := by decide +kernel
theorem std_F_lengthenAll_67 : decode stc_F_lengthenAll 67 = .ok (.aload_n 0, 1) := by decide +kernel
theorem std_F_lengthenAll_68 : decode stc_F_lengthenAll 68 = .ok (.aload_n 0, 1) := by decide +kernel
theorem std_F_lengthenAll_69 : decode stc_F_lengthenAll 69 = .ok (.getfield 22, 3) := by decide +kernel
theorem std_F_lengthenAll_72 : decode stc_F_lengthenAll 72 = .ok (.putfield 15, 3) := by decide +kernel
theorem std_F_lengthenAll_75 : decode stc_F_lengthenAll 75 = .ok (.aload_n 0, 1) := by decide +kernel
theorem std_F_lengthenAll_76 : decode stc_F_lengthenAll 76 = .ok (.aload_n 0, 1) := by decide +kernel
theorem std_F_lengthenAll_77 : decode stc_F_lengthenAll 77 = .ok (.getfield 58, 3) := by decide +kernel
theorem std_F_lengthenAll_80 : decode stc_F_lengthenAll 80 = .ok (.putfield 37, 3) := by decide +kernel
theorem std_F_lengthenAll_83 : decode stc_F_lengthenAll 83 = .ok (.aload_n 0, 1) := by decide +kernel
theorem std_F_lengthenAll_84 : decode stc_F_lengthenAll 84 = .ok (.aload_n 2, 1) := by decide +kernel
theorem std_F_lengthenAll_85 : decode stc_F_lengthenAll 85 = .ok (.putfield 19, 3) := by decide +kernel
theorem std_F_lengthenAll_88 : decode stc_F_lengthenAll 88 = .ok (.aload_n 0, 1) := by decide +kernel
theorem std_F_lengthenAll_89 : decode stc_F_lengthenAll 89 = .ok (.aload_n 3, 1) := by decide +kernel
theorem std_F_lengthenAll_90 : decode stc_F_lengthenAll 90 = .ok (.putfield 22, 3) := by decide +kernel
theorem std_F_lengthenAll_93 : decode stc_F_lengthenAll 93 = .ok (.return_, 1) := by decide +kernel
theorem std_F_lengthenAll_15 : decode stc_F_lengthenAll 15 = .ok (.iconst 0, 1) := by decide +kernel
theorem std_F_lengthenAll_16 : decode stc_F_lengthenAll 16 = .ok (.istore_n 3, 1) := by decide +kernel
theorem std_F_lengthenAll_17 : decode stc_F_lengthenAll 17 = .ok (.iload_n 3, 1) := by decide +kernel
theorem std_F_lengthenAll_18 : decode stc_F_lengthenAll 18 = .ok (.aload_n 0, 1) := by decide +kernel
theorem std_F_lengthenAll_19 : decode stc_F_lengthenAll 19 = .ok (.getfield 25, 3) := by decide +kernel
theorem std_F_lengthenAll_22 : decode stc_F_lengthenAll 22 = .ok (.getfield 61, 3) := by decide +kernel
theorem kw_1_35 : Cond.fieldLink "StateTables$FirstPlans" 61 "StateTables$Told" "sizes" "[I" ∈ stGW := st_t1 (List.mem_of_getElem? (i := 35) (by decide +kernel)) (by decide +kernel)
theorem std_F_lengthenAll_25 : decode stc_F_lengthenAll 25 = .ok (.iload_n 1, 1) := by decide +kernel
theorem std_F_lengthenAll_26 : decode stc_F_lengthenAll 26 = .ok (.iaload, 1) := by decide +kernel
theorem std_F_lengthenAll_27 : decode stc_F_lengthenAll 27 = .ok (.if_icmp .ge 16, 3) := by decide +kernel
theorem std_F_lengthenAll_43 : decode stc_F_lengthenAll 43 = .ok (.iinc 2 1, 3) := by decide +kernel
theorem std_F_lengthenAll_46 : decode stc_F_lengthenAll 46 = .ok (.goto (-39), 3) := by decide +kernel
theorem std_F_lengthenAll_30 : decode stc_F_lengthenAll 30 = .ok (.aload_n 0, 1) := by decide +kernel
theorem std_F_lengthenAll_31 : decode stc_F_lengthenAll 31 = .ok (.iload_n 2, 1) := by decide +kernel
theorem std_F_lengthenAll_32 : decode stc_F_lengthenAll 32 = .ok (.iload_n 1, 1) := by decide +kernel
theorem std_F_lengthenAll_33 : decode stc_F_lengthenAll 33 = .ok (.iload_n 3, 1) := by decide +kernel
theorem std_F_lengthenAll_34 : decode stc_F_lengthenAll 34 = .ok (.invokevirtual 64, 3) := by decide +kernel
theorem kw_2_133 : Cond.code sty_F_lengthen stc_F_lengthen 9 none ∈ stGW := st_t2 (List.mem_of_getElem? (i := 133) (by decide +kernel)) (by decide +kernel)
theorem kw_2_130 : Cond.methodLink "StateTables$FirstPlans" 64 (sty_F_lengthen) ∈ stGW := st_t2 (List.mem_of_getElem? (i := 130) (by decide +kernel)) (by decide +kernel)
theorem kw_2_132 : Cond.instanceMethod (sty_F_lengthen) ∈ stGW := st_t2 (List.mem_of_getElem? (i := 132) (by decide +kernel)) (by decide +kernel)
theorem kw_0_8 : Cond.selects "StateTables$FirstPlans" (sty_F_lengthen) (sty_F_lengthen) ∈ stGW := st_t0 (List.mem_of_getElem? (i := 8) (by decide +kernel)) (by decide +kernel)
theorem std_F_lengthenAll_37 : decode stc_F_lengthenAll 37 = .ok (.iinc 3 1, 3) := by decide +kernel
theorem std_F_lengthenAll_40 : decode stc_F_lengthenAll 40 = .ok (.goto (-23), 3) := by decide +kernel
set_option maxHeartbeats 4000000 in
set_option maxRecDepth 100000 in
theorem c_lengthenAll (l : Launch) (dC : Nat → ClassId) (dI : Nat → Nat → Nat) (cI cJ cZ : ClassId) (f0 : Nat) (r1 : Nat) (e1 : Nat) (r2 : Nat) (e2 : Nat) (fo : Int) (lf : Int) (y0 : Nat) (ys : Nat) (yk : Nat) (yc : Nat) (yd : Nat) (yw : Nat) (yx : Nat) (yb : Nat) (yu : Nat) (total : Int) (t0 : Nat) (hs : Nat) (hc : Nat) (hf : Nat) (hg : Nat) (hb : Nat) (he : Nat) (hm : Nat) (steps : Int) (choices : Int) (bars : Int) (cap : Nat) (n : Nat) (d : Nat) (fr1 : Int → Int) (fe1 : Int → Int) (fr2 : Int → Int) (fe2 : Int → Int) (gst : Int → Int) (gk : Int → Int) (gwt : Int → Int) (gct : Int → Int) (gbe : Int → Int) (gwf : Int → Int) (gcf : Int → Int) (fle : Int → Int) (fsz : Int → Int) (fco : Int → Int) (ffu : Int → Int) (fsu : Int → Int) (fbb : Int → Int) (fmo : Int → Int) (kcap : cap ≤ 4801) (kgst : ∀ j, 0 ≤ j → j < 14 → 0 ≤ gst j ∧ gst j ≤ cap) (kn : n ≤ 12) (kd : d < n) (kT : TB fsz fco ffu fsu fbb fmo) (kLS : LYS fsz fco ffu fsu fbb fmo n gst gk gwt gct gbe) (kB : ∀ d : Nat, d ≤ n → BK fsz fco ffu fsu fbb fmo fle n gk gwf gcf d (gst ((d : Nat) : Int)) (gst (((d : Nat) : Int) + 1))) (kF : FS (PC fsz fco ffu fsu fbb fmo fle n gst gk d) fo fr1 fe1) : ∀ sz, Met l sty_F_lengthenAll (Cond.code sty_F_lengthenAll stc_F_lengthenAll 4 none :: stGW) ({ frames := 2, cells := 0, slots := 0, locals := 52 } : Room) (va_Pc [.ref f0, .int (iI ((d : Nat) : Int))] (zPre (dC, dI) stCl [(cI, .int), (cJ, .long), (cZ, .boolean)] st_nw [(f0, .inr (3, [.ref t0, .ref y0, .int (iI fo), .ref r1, .ref e1, .int (iI lf), .ref r2, .ref e2])), (r1, .inl (cJ, aL 20 fr1)), (e1, .inl (cI, aI 20 fe1)), (r2, .inl (cJ, aL 20 fr2)), (e2, .inl (cI, aI 20 fe2)), (y0, .inr (2, [.ref t0, .int (iI total), .ref ys, .ref yk, .ref yc, .ref yd, .ref yw, .ref yx, .ref yb, .ref yu])), (yb, .inl (cI, aI (6 * cap) gbe)), (yx, .inl (cJ, aL cap gwf)), (yd, .inl (cI, aI cap gcf)), (t0, .inr (1, [.int (iI steps), .int (iI choices), .int (iI bars), .ref hs, .ref hc, .ref hf, .ref hg, .ref hb, .ref he, .ref hm])), (hc, .inl (cI, aI 72 fco)), (hs, .inl (cI, aI 12 fsz))] sz)) (va_Qv (fun (u : (Int → Int) × (Int → Int) × Int) => FS (PC fsz fco ffu fsu fbb fmo fle n gst gk (d + 1)) u.2.2 u.1 u.2.1) (zPost (dC, dI) stCl [(cI, .int), (cJ, .long), (cZ, .boolean)] [(f0, .inr (3, [.ref t0, .ref y0, .int (iI fo), .ref r1, .ref e1, .int (iI lf), .ref r2, .ref e2])), (r1, .inl (cJ, aL 20 fr1)), (e1, .inl (cI, aI 20 fe1)), (r2, .inl (cJ, aL 20 fr2)), (e2, .inl (cI, aI 20 fe2)), (y0, .inr (2, [.ref t0, .int (iI total), .ref ys, .ref yk, .ref yc, .ref yd, .ref yw, .ref yx, .ref yb, .ref yu])), (yb, .inl (cI, aI (6 * cap) gbe)), (yx, .inl (cJ, aL cap gwf)), (yd, .inl (cI, aI cap gcf)), (t0, .inr (1, [.int (iI steps), .int (iI choices), .int (iI bars), .ref hs, .ref hc, .ref hf, .ref hg, .ref hb, .ref he, .ref hm])), (hc, .inl (cI, aI 72 fco)), (hs, .inl (cI, aI 12 fsz))] sz (fun u : (Int → Int) × (Int → Int) × Int => [(f0, .inr (3, [.ref t0, .ref y0, .int (iI (u.2.2)), .ref r2, .ref e2, .int (iI (u.2.2)), .ref r1, .ref e1])), (r1, .inl (cJ, aL 20 fr1)), (e1, .inl (cI, aI 20 fe1)), (r2, .inl (cJ, aL 20 (u.1))), (e2, .inl (cI, aI 20 (u.2.1))), (y0, .inr (2, [.ref t0, .int (iI total), .ref ys, .ref yk, .ref yc, .ref yd, .ref yw, .ref yx, .ref yb, .ref yu])), (yb, .inl (cI, aI (6 * cap) gbe)), (yx, .inl (cJ, aL cap gwf)), (yd, .inl (cI, aI cap gcf)), (t0, .inr (1, [.int (iI steps), .int (iI choices), .int (iI bars), .ref hs, .ref hc, .ref hf, .ref hg, .ref hb, .ref he, .ref hm])), (hc, .inl (cI, aI 72 fco)), (hs, .inl (cI, aI 12 fsz))])) (va_A [(f0, .inr (3, [.ref t0, .ref y0, .int (iI fo), .ref r1, .ref e1, .int (iI lf), .ref r2, .ref e2])), (r1, .inl (cJ, aL 20 fr1)), (e1, .inl (cI, aI 20 fe1)), (r2, .inl (cJ, aL 20 fr2)), (e2, .inl (cI, aI 20 fe2)), (y0, .inr (2, [.ref t0, .int (iI total), .ref ys, .ref yk, .ref yc, .ref yd, .ref yw, .ref yx, .ref yb, .ref yu])), (yb, .inl (cI, aI (6 * cap) gbe)), (yx, .inl (cJ, aL cap gwf)), (yd, .inl (cI, aI cap gcf)), (t0, .inr (1, [.int (iI steps), .int (iI choices), .int (iI bars), .ref hs, .ref hc, .ref hf, .ref hg, .ref hb, .ref he, .ref hm])), (hc, .inl (cI, aI 72 fco)), (hs, .inl (cI, aI 12 fsz))] sz)) 0 0 (va_A [(f0, .inr (3, [.ref t0, .ref y0, .int (iI fo), .ref r1, .ref e1, .int (iI lf), .ref r2, .ref e2])), (r1, .inl (cJ, aL 20 fr1)), (e1, .inl (cI, aI 20 fe1)), (r2, .inl (cJ, aL 20 fr2)), (e2, .inl (cI, aI 20 fe2)), (y0, .inr (2, [.ref t0, .int (iI total), .ref ys, .ref yk, .ref yc, .ref yd, .ref yw, .ref yx, .ref yb, .ref yu])), (yb, .inl (cI, aI (6 * cap) gbe)), (yx, .inl (cJ, aL cap gwf)), (yd, .inl (cI, aI cap gcf)), (t0, .inr (1, [.int (iI steps), .int (iI choices), .int (iI bars), .ref hs, .ref hc, .ref hf, .ref hg, .ref hb, .ref he, .ref hm])), (hc, .inl (cI, aI 72 fco)), (hs, .inl (cI, aI 12 fsz))] sz) := by
  refine met_v (by decide) rfl (Nat.le_of_ble_eq_true rfl) ?_
  intro p e s m below meth c A Q C hmn hret
  have hq0 := kT.1 ((d : Nat) : Int) (by omega) (by omega)
  have hF1 := kF.1
  refine g_aload_n C 0 std_F_lengthenAll_0 rfl ?_
  refine g_iconst C std_F_lengthenAll_1 ?_
  refine g_put C (ws' := [(f0, .inr (3, [.ref t0, .ref y0, .int (iI fo), .ref r1, .ref e1, .int (iI 0), .ref r2, .ref e2])), (r1, .inl (cJ, aL 20 fr1)), (e1, .inl (cI, aI 20 fe1)), (r2, .inl (cJ, aL 20 fr2)), (e2, .inl (cI, aI 20 fe2)), (y0, .inr (2, [.ref t0, .int (iI total), .ref ys, .ref yk, .ref yc, .ref yd, .ref yw, .ref yx, .ref yb, .ref yu])), (yb, .inl (cI, aI (6 * cap) gbe)), (yx, .inl (cJ, aL cap gwf)), (yd, .inl (cI, aI cap gcf)), (t0, .inr (1, [.int (iI steps), .int (iI choices), .int (iI bars), .ref hs, .ref hc, .ref hf, .ref hg, .ref hb, .ref he, .ref hm])), (hc, .inl (cI, aI 72 fco)), (hs, .inl (cI, aI 12 fsz))]) (st_sub sti_F) stt_F sto_F stn_F 0 rfl rfl 5 (by decide) (List.mem_cons_of_mem _ kw_1_135) rfl rfl rfl rfl (Nat.le_of_ble_eq_true rfl) std_F_lengthenAll_2 rfl ?_
  refine g_iconst C std_F_lengthenAll_5 ?_
  refine g_istore_n C (lv' := [(2, .int (iI 0)), (0, .ref f0), (1, .int (iI ((d : Nat) : Int)))]) std_F_lengthenAll_6 (by decide) rfl ?_
  have L7 : ∀ (nn7 : Nat) (x : Int) (mm : Int) (LR : Int → Int) (LE : Int → Int), (0 ≤ x ∧ x ≤ fo) → FS (XR fco gbe gwf gcf fr1 fe1 ((d : Nat) : Int) (fsz ((d : Nat) : Int)) x 0) mm LR LE → (fo - x) < (nn7 : Int) → G p l e ({ frames := 2, cells := 0, slots := 0, locals := 52 } : Room) s m ([.ref f0, .int (iI ((d : Nat) : Int))] : List Value).toArray below meth c (dC, dI) stCl 4 A 0 0 Q [(f0, .inr (3, [.ref t0, .ref y0, .int (iI fo), .ref r1, .ref e1, .int (iI mm), .ref r2, .ref e2])), (r1, .inl (cJ, aL 20 fr1)), (e1, .inl (cI, aI 20 fe1)), (r2, .inl (cJ, aL 20 LR)), (e2, .inl (cI, aI 20 LE)), (y0, .inr (2, [.ref t0, .int (iI total), .ref ys, .ref yk, .ref yc, .ref yd, .ref yw, .ref yx, .ref yb, .ref yu])), (yb, .inl (cI, aI (6 * cap) gbe)), (yx, .inl (cJ, aL cap gwf)), (yd, .inl (cI, aI cap gcf)), (t0, .inr (1, [.int (iI steps), .int (iI choices), .int (iI bars), .ref hs, .ref hc, .ref hf, .ref hg, .ref hb, .ref he, .ref hm])), (hc, .inl (cI, aI 72 fco)), (hs, .inl (cI, aI 12 fsz))] 7 [(2, .int (iI x)), (0, .ref f0), (1, .int (iI ((d : Nat) : Int)))] [] := by
    intro nn7
    induction nn7 with
    | zero =>
      intro x mm LR LE kx kX hnn7
      exact absurd hnn7 (by omega)
    | succ nn7 ih7 =>
      intro x mm LR LE kx kX hnn7
      refine g_iload_n C 0 std_F_lengthenAll_7 rfl ?_
      refine g_aload_n C 1 std_F_lengthenAll_8 rfl ?_
      refine g_get C (st_sub sti_F) 0 rfl rfl 2 (by decide) (List.mem_cons_of_mem _ kw_1_131) rfl rfl std_F_lengthenAll_9 ?_
      refine g_icmp_ge (tgt := 49) C std_F_lengthenAll_12 (by decide) ⟨by omega, by omega⟩ ⟨by omega, by omega⟩ (fun c1 => ?_) (fun c1 => ?_)
      · refine g_aload_n C 1 std_F_lengthenAll_49 rfl ?_
        refine g_get C (st_sub sti_F) 0 rfl rfl 3 (by decide) (List.mem_cons_of_mem _ kw_1_133) rfl rfl std_F_lengthenAll_50 ?_
        refine g_astore_n C (lv' := [(2, .ref r1), (0, .ref f0), (1, .int (iI ((d : Nat) : Int)))]) std_F_lengthenAll_53 (by decide) rfl ?_
        refine g_aload_n C 1 std_F_lengthenAll_54 rfl ?_
        refine g_get C (st_sub sti_F) 0 rfl rfl 4 (by decide) (List.mem_cons_of_mem _ kw_1_134) rfl rfl std_F_lengthenAll_55 ?_
        refine g_astore_n C (lv' := [(3, .ref e1), (2, .ref r1), (0, .ref f0), (1, .int (iI ((d : Nat) : Int)))]) std_F_lengthenAll_58 (by decide) rfl ?_
        refine g_aload_n C 2 std_F_lengthenAll_59 rfl ?_
        refine g_aload_n C 2 std_F_lengthenAll_60 rfl ?_
        refine g_get C (st_sub sti_F) 0 rfl rfl 6 (by decide) (List.mem_cons_of_mem _ kw_1_136) rfl rfl std_F_lengthenAll_61 ?_
        refine g_put C (ws' := [(f0, .inr (3, [.ref t0, .ref y0, .int (iI fo), .ref r2, .ref e1, .int (iI mm), .ref r2, .ref e2])), (r1, .inl (cJ, aL 20 fr1)), (e1, .inl (cI, aI 20 fe1)), (r2, .inl (cJ, aL 20 LR)), (e2, .inl (cI, aI 20 LE)), (y0, .inr (2, [.ref t0, .int (iI total), .ref ys, .ref yk, .ref yc, .ref yd, .ref yw, .ref yx, .ref yb, .ref yu])), (yb, .inl (cI, aI (6 * cap) gbe)), (yx, .inl (cJ, aL cap gwf)), (yd, .inl (cI, aI cap gcf)), (t0, .inr (1, [.int (iI steps), .int (iI choices), .int (iI bars), .ref hs, .ref hc, .ref hf, .ref hg, .ref hb, .ref he, .ref hm])), (hc, .inl (cI, aI 72 fco)), (hs, .inl (cI, aI 12 fsz))]) (st_sub sti_F) stt_F sto_F stn_F 0 rfl rfl 3 (by decide) (List.mem_cons_of_mem _ kw_1_133) rfl rfl rfl rfl (Nat.le_of_ble_eq_true rfl) std_F_lengthenAll_64 rfl ?_
        refine g_aload_n C 2 std_F_lengthenAll_67 rfl ?_
        refine g_aload_n C 2 std_F_lengthenAll_68 rfl ?_
        refine g_get C (st_sub sti_F) 0 rfl rfl 7 (by decide) (List.mem_cons_of_mem _ kw_1_137) rfl rfl std_F_lengthenAll_69 ?_
        refine g_put C (ws' := [(f0, .inr (3, [.ref t0, .ref y0, .int (iI fo), .ref r2, .ref e2, .int (iI mm), .ref r2, .ref e2])), (r1, .inl (cJ, aL 20 fr1)), (e1, .inl (cI, aI 20 fe1)), (r2, .inl (cJ, aL 20 LR)), (e2, .inl (cI, aI 20 LE)), (y0, .inr (2, [.ref t0, .int (iI total), .ref ys, .ref yk, .ref yc, .ref yd, .ref yw, .ref yx, .ref yb, .ref yu])), (yb, .inl (cI, aI (6 * cap) gbe)), (yx, .inl (cJ, aL cap gwf)), (yd, .inl (cI, aI cap gcf)), (t0, .inr (1, [.int (iI steps), .int (iI choices), .int (iI bars), .ref hs, .ref hc, .ref hf, .ref hg, .ref hb, .ref he, .ref hm])), (hc, .inl (cI, aI 72 fco)), (hs, .inl (cI, aI 12 fsz))]) (st_sub sti_F) stt_F sto_F stn_F 0 rfl rfl 4 (by decide) (List.mem_cons_of_mem _ kw_1_134) rfl rfl rfl rfl (Nat.le_of_ble_eq_true rfl) std_F_lengthenAll_72 rfl ?_
        refine g_aload_n C 2 std_F_lengthenAll_75 rfl ?_
        refine g_aload_n C 2 std_F_lengthenAll_76 rfl ?_
        refine g_get C (st_sub sti_F) 0 rfl rfl 5 (by decide) (List.mem_cons_of_mem _ kw_1_135) rfl rfl std_F_lengthenAll_77 ?_
        refine g_put C (ws' := [(f0, .inr (3, [.ref t0, .ref y0, .int (iI mm), .ref r2, .ref e2, .int (iI mm), .ref r2, .ref e2])), (r1, .inl (cJ, aL 20 fr1)), (e1, .inl (cI, aI 20 fe1)), (r2, .inl (cJ, aL 20 LR)), (e2, .inl (cI, aI 20 LE)), (y0, .inr (2, [.ref t0, .int (iI total), .ref ys, .ref yk, .ref yc, .ref yd, .ref yw, .ref yx, .ref yb, .ref yu])), (yb, .inl (cI, aI (6 * cap) gbe)), (yx, .inl (cJ, aL cap gwf)), (yd, .inl (cI, aI cap gcf)), (t0, .inr (1, [.int (iI steps), .int (iI choices), .int (iI bars), .ref hs, .ref hc, .ref hf, .ref hg, .ref hb, .ref he, .ref hm])), (hc, .inl (cI, aI 72 fco)), (hs, .inl (cI, aI 12 fsz))]) (st_sub sti_F) stt_F sto_F stn_F 0 rfl rfl 2 (by decide) (List.mem_cons_of_mem _ kw_1_131) rfl rfl rfl rfl (Nat.le_of_ble_eq_true rfl) std_F_lengthenAll_80 rfl ?_
        refine g_aload_n C 2 std_F_lengthenAll_83 rfl ?_
        refine g_aload_n C 1 std_F_lengthenAll_84 rfl ?_
        refine g_put C (ws' := [(f0, .inr (3, [.ref t0, .ref y0, .int (iI mm), .ref r2, .ref e2, .int (iI mm), .ref r1, .ref e2])), (r1, .inl (cJ, aL 20 fr1)), (e1, .inl (cI, aI 20 fe1)), (r2, .inl (cJ, aL 20 LR)), (e2, .inl (cI, aI 20 LE)), (y0, .inr (2, [.ref t0, .int (iI total), .ref ys, .ref yk, .ref yc, .ref yd, .ref yw, .ref yx, .ref yb, .ref yu])), (yb, .inl (cI, aI (6 * cap) gbe)), (yx, .inl (cJ, aL cap gwf)), (yd, .inl (cI, aI cap gcf)), (t0, .inr (1, [.int (iI steps), .int (iI choices), .int (iI bars), .ref hs, .ref hc, .ref hf, .ref hg, .ref hb, .ref he, .ref hm])), (hc, .inl (cI, aI 72 fco)), (hs, .inl (cI, aI 12 fsz))]) (st_sub sti_F) stt_F sto_F stn_F 0 rfl rfl 6 (by decide) (List.mem_cons_of_mem _ kw_1_136) rfl rfl rfl rfl (Nat.le_of_ble_eq_true rfl) std_F_lengthenAll_85 rfl ?_
        refine g_aload_n C 2 std_F_lengthenAll_88 rfl ?_
        refine g_aload_n C 0 std_F_lengthenAll_89 rfl ?_
        refine g_put C (ws' := [(f0, .inr (3, [.ref t0, .ref y0, .int (iI mm), .ref r2, .ref e2, .int (iI mm), .ref r1, .ref e1])), (r1, .inl (cJ, aL 20 fr1)), (e1, .inl (cI, aI 20 fe1)), (r2, .inl (cJ, aL 20 LR)), (e2, .inl (cI, aI 20 LE)), (y0, .inr (2, [.ref t0, .int (iI total), .ref ys, .ref yk, .ref yc, .ref yd, .ref yw, .ref yx, .ref yb, .ref yu])), (yb, .inl (cI, aI (6 * cap) gbe)), (yx, .inl (cJ, aL cap gwf)), (yd, .inl (cI, aI cap gcf)), (t0, .inr (1, [.int (iI steps), .int (iI choices), .int (iI bars), .ref hs, .ref hc, .ref hf, .ref hg, .ref hb, .ref he, .ref hm])), (hc, .inl (cI, aI 72 fco)), (hs, .inl (cI, aI 12 fsz))]) (st_sub sti_F) stt_F sto_F stn_F 0 rfl rfl 7 (by decide) (List.mem_cons_of_mem _ kw_1_137) rfl rfl rfl rfl (Nat.le_of_ble_eq_true rfl) std_F_lengthenAll_90 rfl ?_
        exact hret _ _ (LR, LE, mm) (fs_next kT kn kd kLS kB kF (by rw [show fo = x by omega]; exact kX)) std_F_lengthenAll_93
      · obtain ⟨hr_, hk_, hg_, hp1_, hp2_, hp3_, hp4_⟩ := kF.2.1 x (by omega) (by omega)
        have hBx := kB d (by omega) (fe1 x) hp3_.1 hp3_.2
        have hLd := kLS.1 d (by omega)
        have hqe := kgst (((d : Nat) : Int) + 1) (by omega) (by omega)
        have hqs := kgst ((d : Nat) : Int) (by omega) (by omega)
        have hqt := kgst (((d : Nat) : Int) + 2) (by omega) (by omega)
        have hBn : BK fsz fco ffu fsu fbb fmo fle n gk gwf gcf (d + 1) (gst (((d : Nat) : Int) + 1)) (gst (((d : Nat) : Int) + 2)) := by have h9 := kB (d + 1) (by omega); rw [show (((d + 1 : Nat) : Int)) = (d : Int) + 1 by omega, show (d : Int) + 1 + 1 = (d : Int) + 2 by omega] at h9; exact h9
        refine g_iconst C std_F_lengthenAll_15 ?_
        refine g_istore_n C (lv' := [(3, .int (iI 0)), (2, .int (iI x)), (0, .ref f0), (1, .int (iI ((d : Nat) : Int)))]) std_F_lengthenAll_16 (by decide) rfl ?_
        have L17 : ∀ (nn17 : Nat) (y : Int) (mm : Int) (LR : Int → Int) (LE : Int → Int), (0 ≤ y ∧ y ≤ fsz ((d : Nat) : Int)) → FS (XR fco gbe gwf gcf fr1 fe1 ((d : Nat) : Int) (fsz ((d : Nat) : Int)) x y) mm LR LE → (fsz ((d : Nat) : Int) - y) < (nn17 : Int) → G p l e ({ frames := 2, cells := 0, slots := 0, locals := 52 } : Room) s m ([.ref f0, .int (iI ((d : Nat) : Int))] : List Value).toArray below meth c (dC, dI) stCl 4 A 0 0 Q [(f0, .inr (3, [.ref t0, .ref y0, .int (iI fo), .ref r1, .ref e1, .int (iI mm), .ref r2, .ref e2])), (r1, .inl (cJ, aL 20 fr1)), (e1, .inl (cI, aI 20 fe1)), (r2, .inl (cJ, aL 20 LR)), (e2, .inl (cI, aI 20 LE)), (y0, .inr (2, [.ref t0, .int (iI total), .ref ys, .ref yk, .ref yc, .ref yd, .ref yw, .ref yx, .ref yb, .ref yu])), (yb, .inl (cI, aI (6 * cap) gbe)), (yx, .inl (cJ, aL cap gwf)), (yd, .inl (cI, aI cap gcf)), (t0, .inr (1, [.int (iI steps), .int (iI choices), .int (iI bars), .ref hs, .ref hc, .ref hf, .ref hg, .ref hb, .ref he, .ref hm])), (hc, .inl (cI, aI 72 fco)), (hs, .inl (cI, aI 12 fsz))] 17 [(3, .int (iI y)), (2, .int (iI x)), (0, .ref f0), (1, .int (iI ((d : Nat) : Int)))] [] := by
          intro nn17
          induction nn17 with
          | zero =>
            intro y mm LR LE ky kY hnn17
            exact absurd hnn17 (by omega)
          | succ nn17 ih17 =>
            intro y mm LR LE ky kY hnn17
            refine g_iload_n C 0 std_F_lengthenAll_17 rfl ?_
            refine g_aload_n C 2 std_F_lengthenAll_18 rfl ?_
            refine g_get C (st_sub sti_F) 0 rfl rfl 0 (by decide) (List.mem_cons_of_mem _ kw_1_129) rfl rfl std_F_lengthenAll_19 ?_
            refine g_get C (st_sub sti_T) 9 rfl rfl 3 (by decide) (List.mem_cons_of_mem _ kw_1_35) rfl rfl std_F_lengthenAll_22 ?_
            refine g_iload_n C 3 std_F_lengthenAll_25 rfl ?_
            refine g_iald C 11 0 rfl rfl (by omega) (by omega) (by omega) std_F_lengthenAll_26 ?_
            refine g_icmp_ge (tgt := 43) C std_F_lengthenAll_27 (by decide) ⟨by omega, by omega⟩ ⟨by omega, by omega⟩ (fun c2 => ?_) (fun c2 => ?_)
            · refine g_iinc C (lv' := [(2, .int (iI (x + 1))), (3, .int (iI y)), (0, .ref f0), (1, .int (iI ((d : Nat) : Int)))]) 1 std_F_lengthenAll_43 rfl (by decide) rfl ?_
              refine g_goto (tgt := 7) C std_F_lengthenAll_46 (by decide) ?_
              refine g_lv (lv' := [(2, .int (iI (x + 1))), (0, .ref f0), (1, .int (iI ((d : Nat) : Int)))]) [0, 2, 3] rfl ?_
              exact ih7 (x + 1) mm LR LE (by omega) (fs_congr kY (xr_e (by omega) (by omega))) (by omega)
            · refine g_aload_n C 2 std_F_lengthenAll_30 rfl ?_
              refine g_iload_n C 1 std_F_lengthenAll_31 rfl ?_
              refine g_iload_n C 3 std_F_lengthenAll_32 rfl ?_
              refine g_iload_n C 0 std_F_lengthenAll_33 rfl ?_
              refine g_V_v (wc := [(f0, .inr (3, [.ref t0, .ref y0, .int (iI fo), .ref r1, .ref e1, .int (iI mm), .ref r2, .ref e2])), (r1, .inl (cJ, aL 20 fr1)), (e1, .inl (cI, aI 20 fe1)), (r2, .inl (cJ, aL 20 LR)), (e2, .inl (cI, aI 20 LE)), (y0, .inr (2, [.ref t0, .int (iI total), .ref ys, .ref yk, .ref yc, .ref yd, .ref yw, .ref yx, .ref yb, .ref yu])), (yb, .inl (cI, aI (6 * cap) gbe)), (yx, .inl (cJ, aL cap gwf)), (yd, .inl (cI, aI cap gcf)), (t0, .inr (1, [.int (iI steps), .int (iI choices), .int (iI bars), .ref hs, .ref hc, .ref hf, .ref hg, .ref hb, .ref he, .ref hm])), (hc, .inl (cI, aI 72 fco))]) (wr := [(hs, .inl (cI, aI 12 fsz))]) (rest := []) C (c_lengthen l dC dI cI cJ cZ f0 r1 e1 r2 e2 fo mm y0 ys yk yc yd yw yx yb yu total t0 hs hc hf hg hb he hm steps choices bars cap fr1 fe1 LR LE gbe gwf gcf fco (XR fco gbe gwf gcf fr1 fe1 ((d : Nat) : Int) (fsz ((d : Nat) : Int)) x y) x ((d : Nat) : Int) y (kcap) (by omega) (by omega) (by omega) (by omega) (bk_be kT (by omega) kn (kLS.2.1 d kd) hBn (by omega) (by omega) (by omega) hp3_.1 hp3_.2 y (by omega) (by omega)) (hBx.2.2) (kT.2.1) (kY) (fun hq => xr_ne kT kn kd kLS kB kF ⟨by omega, by omega⟩ ⟨by omega, by omega⟩ kY hq) (xr_rng kT kn kd kLS kB kF ⟨by omega, by omega⟩ (by omega) kY) (fun hq => pc_rng kT kn (by omega) (row_pc kT kn kd kLS kB kF ⟨by omega, by omega⟩ ⟨by omega, by omega⟩ hq))) (st_cV C kw_2_133 kw_2_130 kw_1_4 kw_2_132 kw_0_8 sth_F_lengthen ⟨Nat.le_of_ble_eq_true rfl, Nat.le_of_ble_eq_true rfl⟩) 0 rfl rfl rfl rfl (Nat.le_of_ble_eq_true rfl) std_F_lengthenAll_34 ⟨Nat.le_of_ble_eq_true rfl, Nat.le_of_ble_eq_true rfl⟩ [0, 1, 2, 3, 4, 5, 6, 7, 8, 9, 10] [11] rfl rfl rfl rfl (by decide) (fun u4 h5 => ?_)
              obtain ⟨LR6, LE7, m8⟩ := u4
              dsimp only at h5
              refine g_ws (ws' := [(hs, .inl (cI, aI 12 fsz)), (f0, .inr (3, [.ref t0, .ref y0, .int (iI fo), .ref r1, .ref e1, .int (iI m8), .ref r2, .ref e2])), (r1, .inl (cJ, aL 20 fr1)), (e1, .inl (cI, aI 20 fe1)), (r2, .inl (cJ, aL 20 LR6)), (e2, .inl (cI, aI 20 LE7)), (y0, .inr (2, [.ref t0, .int (iI total), .ref ys, .ref yk, .ref yc, .ref yd, .ref yw, .ref yx, .ref yb, .ref yu])), (yb, .inl (cI, aI (6 * cap) gbe)), (yx, .inl (cJ, aL cap gwf)), (yd, .inl (cI, aI cap gcf)), (t0, .inr (1, [.int (iI steps), .int (iI choices), .int (iI bars), .ref hs, .ref hc, .ref hf, .ref hg, .ref hb, .ref he, .ref hm])), (hc, .inl (cI, aI 72 fco))]) rfl ?_
              refine g_iinc C (lv' := [(3, .int (iI (y + 1))), (2, .int (iI x)), (0, .ref f0), (1, .int (iI ((d : Nat) : Int)))]) 0 std_F_lengthenAll_37 rfl (by decide) rfl ?_
              refine g_goto (tgt := 17) C std_F_lengthenAll_40 (by decide) ?_
              refine g_sub (ws' := [(f0, .inr (3, [.ref t0, .ref y0, .int (iI fo), .ref r1, .ref e1, .int (iI m8), .ref r2, .ref e2])), (r1, .inl (cJ, aL 20 fr1)), (e1, .inl (cI, aI 20 fe1)), (r2, .inl (cJ, aL 20 LR6)), (e2, .inl (cI, aI 20 LE7)), (y0, .inr (2, [.ref t0, .int (iI total), .ref ys, .ref yk, .ref yc, .ref yd, .ref yw, .ref yx, .ref yb, .ref yu])), (yb, .inl (cI, aI (6 * cap) gbe)), (yx, .inl (cJ, aL cap gwf)), (yd, .inl (cI, aI cap gcf)), (t0, .inr (1, [.int (iI steps), .int (iI choices), .int (iI bars), .ref hs, .ref hc, .ref hf, .ref hg, .ref hb, .ref he, .ref hm])), (hc, .inl (cI, aI 72 fco)), (hs, .inl (cI, aI 12 fsz))]) [1, 2, 3, 4, 5, 6, 7, 8, 9, 10, 11, 0] rfl rfl ?_
              refine g_wide (k := 0) (n := 0) (Nat.le_of_ble_eq_true rfl) (Nat.le_of_ble_eq_true rfl) ?_
              exact ih17 (y + 1) m8 LR6 LE7 (by omega) (fs_congr h5 (xr_s (by omega) (by omega))) (by omega)
        obtain ⟨nn0, hnn0⟩ : ∃ nn0 : Nat, (fsz ((d : Nat) : Int) - 0) < (nn0 : Int) := z_nat _
        exact L17 nn0 0 mm LR LE (by omega) (kX) hnn0
  obtain ⟨nn0, hnn0⟩ : ∃ nn0 : Nat, (fo - 0) < (nn0 : Int) := z_nat _
  exact L7 nn0 0 0 fr2 fe2 (by omega) (fs_0 xr_0) hnn0
end
section
/-! the first row, and none -/
theorem ls_root {fsz fco ffu fsu fbb fmo ST GK GW GC GB : Int → Int} {n : Nat} (h : LYS fsz fco ffu fsu fbb fmo n ST GK GW GC GB) : ST 0 = 0 ∧ 0 < ST 1 ∧ GK 0 = 0 := by
  have h0 := h.2.2
  have hL := h.1 0 (Nat.zero_le n)
  have hw : 0 < wt fsz ffu fsu fbb fmo 0 0 := by unfold wt; rw [if_pos rfl]; omega
  obtain ⟨i, i1, i2, i3⟩ := hL.2.1.2.2 0 hw
  have e0 : ST (((0 : Nat) : Int)) = 0 := h0
  have e1 : (((0 : Nat) : Int) + 1) = 1 := rfl
  rw [e0] at i1
  rw [e1] at i2
  have hz := hL.2.1.1 0 (by rw [e0]; omega) (by rw [e1]; omega)
  have hk : 0 < wt fsz ffu fsu fbb fmo 0 (GK 0) := by rw [← hz.2.1]; exact hz.2.2.1
  unfold wt at hk
  refine ⟨h0, by omega, ?_⟩
  by_cases r : GK 0 = 0
  · exact r
  · rw [if_neg r] at hk; omega
theorem pr_none {fsz fco ffu fsu fbb fmo fle : Int → Int} {n : Nat} (h : wf fsz ffu fsu fbb fmo fle n 0 0 = 0) : ∀ (d : Nat) (r k g : Int), ¬ PR fsz fco ffu fsu fbb fmo fle n d r k g
  | 0, r, k, g, q => by have := q.2.2.2; omega
  | d + 1, r, k, g, q => by
    obtain ⟨c, k0, g0, r0, h1, -⟩ := q
    exact pr_none h d r0 k0 g0 h1
theorem fs_none {fsz fco ffu fsu fbb fmo fle gst gk R V : Int → Int} {n d : Nat} (h : wf fsz ffu fsu fbb fmo fle n 0 0 = 0) : FS (PC fsz fco ffu fsu fbb fmo fle n gst gk d) 0 R V := fs_0 (fun E v q => by
  obtain ⟨r, k, g, h1, -⟩ := q
  exact pr_none h d r k g h1)
theorem fs_first {fsz fco ffu fsu fbb fmo fle gst gk R V : Int → Int} {n : Nat} {w : Int} (hg : gst 0 = 0 ∧ 0 < gst 1 ∧ gk 0 = 0) (h : 0 < wf fsz ffu fsu fbb fmo fle n 0 0) (hw : w = (cf fsz fco ffu fsu fbb fmo fle n 0 0 + 12000) * 68719476736) : FS (PC fsz fco ffu fsu fbb fmo fle n gst gk 0) 1 (uZ R 0 w) (uZ V 0 0) := by
  have e : cod fsz fco ffu fsu fbb fmo fle n 0 0 0 0 = w := by
    unfold cod
    rw [hw, Nat.sub_zero]
    omega
  refine ⟨by omega, fun i i1 i2 => ?_, fun i j i1 i2 i3 => by omega, fun E v q => ?_⟩
  · have : i = 0 := by omega
    subst this
    rw [uZ_s, uZ_s]
    refine ⟨0, 0, 0, ⟨rfl, rfl, rfl, h⟩, e.symm, ?_, hg.2.2⟩
    show gst 0 ≤ 0 ∧ 0 < gst (0 + 1)
    rw [hg.1]
    exact ⟨Int.le_refl 0, hg.2.1⟩
  · obtain ⟨r, k, g, h1, h2, -⟩ := q
    refine Or.inl ⟨0, by omega, ?_⟩
    rw [uZ_s, h2, h1.1, h1.2.1, h1.2.2.1, e]
end
section
/-! FirstPlans.find -/
abbrev sty_F_find : MethodName := ⟨"StateTables$FirstPlans", "find", "()V"⟩
abbrev stc_F_find : ByteArray := prog_2_method_5_code
theorem sth_F_find : (sty_F_find).cls ≠ "java/lang/invoke/MethodHandle" ∧ (sty_F_find).cls ≠ "java/lang/invoke/VarHandle" ∧ (parseMethodDescriptor (sty_F_find).desc).map (fun d => d.parameters.length) = some 0 := by decide +kernel
theorem std_F_find_0 : decode stc_F_find 0 = .ok (.aload_n 0, 1) := by decide +kernel
theorem std_F_find_1 : decode stc_F_find 1 = .ok (.iconst 0, 1) := by decide +kernel
theorem std_F_find_2 : decode stc_F_find 2 = .ok (.putfield 37, 3) := by decide +kernel
theorem std_F_find_5 : decode stc_F_find 5 = .ok (.aload_n 0, 1) := by decide +kernel
theorem std_F_find_6 : decode stc_F_find 6 = .ok (.getfield 29, 3) := by decide +kernel
theorem std_F_find_9 : decode stc_F_find 9 = .ok (.getfield 41, 3) := by decide +kernel
theorem std_F_find_12 : decode stc_F_find 12 = .ok (.iconst 0, 1) := by decide +kernel
theorem std_F_find_13 : decode stc_F_find 13 = .ok (.laload, 1) := by decide +kernel
theorem std_F_find_14 : decode stc_F_find 14 = .ok (.lconst 0, 1) := by decide +kernel
theorem std_F_find_15 : decode stc_F_find 15 = .ok (.lcmp, 1) := by decide +kernel
theorem std_F_find_16 : decode stc_F_find 16 = .ok (.ifCond .ne 4, 3) := by decide +kernel
theorem std_F_find_20 : decode stc_F_find 20 = .ok (.aload_n 0, 1) := by decide +kernel
theorem std_F_find_21 : decode stc_F_find 21 = .ok (.getfield 11, 3) := by decide +kernel
theorem std_F_find_24 : decode stc_F_find 24 = .ok (.iconst 0, 1) := by decide +kernel
theorem std_F_find_25 : decode stc_F_find 25 = .ok (.aload_n 0, 1) := by decide +kernel
theorem std_F_find_26 : decode stc_F_find 26 = .ok (.getfield 29, 3) := by decide +kernel
theorem std_F_find_29 : decode stc_F_find 29 = .ok (.getfield 46, 3) := by decide +kernel
theorem std_F_find_32 : decode stc_F_find 32 = .ok (.iconst 0, 1) := by decide +kernel
theorem std_F_find_33 : decode stc_F_find 33 = .ok (.iaload, 1) := by decide +kernel
theorem std_F_find_34 : decode stc_F_find 34 = .ok (.sipush 12000, 3) := by decide +kernel
theorem std_F_find_37 : decode stc_F_find 37 = .ok (.iadd, 1) := by decide +kernel
theorem std_F_find_38 : decode stc_F_find 38 = .ok (.i2l, 1) := by decide +kernel
theorem std_F_find_39 : decode stc_F_find 39 = .ok (.bipush 36, 2) := by decide +kernel
theorem std_F_find_41 : decode stc_F_find 41 = .ok (.lshl, 1) := by decide +kernel
theorem std_F_find_42 : decode stc_F_find 42 = .ok (.lastore, 1) := by decide +kernel
theorem std_F_find_43 : decode stc_F_find 43 = .ok (.aload_n 0, 1) := by decide +kernel
theorem std_F_find_44 : decode stc_F_find 44 = .ok (.getfield 15, 3) := by decide +kernel
theorem std_F_find_47 : decode stc_F_find 47 = .ok (.iconst 0, 1) := by decide +kernel
theorem std_F_find_48 : decode stc_F_find 48 = .ok (.iconst 0, 1) := by decide +kernel
theorem std_F_find_49 : decode stc_F_find 49 = .ok (.iastore, 1) := by decide +kernel
theorem std_F_find_50 : decode stc_F_find 50 = .ok (.aload_n 0, 1) := by decide +kernel
theorem std_F_find_51 : decode stc_F_find 51 = .ok (.iconst 1, 1) := by decide +kernel
theorem std_F_find_52 : decode stc_F_find 52 = .ok (.putfield 37, 3) := by decide +kernel
theorem std_F_find_55 : decode stc_F_find 55 = .ok (.iconst 0, 1) := by decide +kernel
theorem std_F_find_56 : decode stc_F_find 56 = .ok (.istore_n 1, 1) := by decide +kernel
theorem std_F_find_57 : decode stc_F_find 57 = .ok (.iload_n 1, 1) := by decide +kernel
theorem std_F_find_58 : decode stc_F_find 58 = .ok (.aload_n 0, 1) := by decide +kernel
theorem std_F_find_59 : decode stc_F_find 59 = .ok (.getfield 25, 3) := by decide +kernel
theorem std_F_find_62 : decode stc_F_find 62 = .ok (.getfield 49, 3) := by decide +kernel
theorem kw_1_27 : Cond.fieldLink "StateTables$FirstPlans" 49 "StateTables$Told" "steps" "I" ∈ stGW := st_t1 (List.mem_of_getElem? (i := 27) (by decide +kernel)) (by decide +kernel)
theorem std_F_find_65 : decode stc_F_find 65 = .ok (.if_icmp .ge 14, 3) := by decide +kernel
theorem std_F_find_79 : decode stc_F_find 79 = .ok (.return_, 1) := by decide +kernel
theorem std_F_find_68 : decode stc_F_find 68 = .ok (.aload_n 0, 1) := by decide +kernel
theorem std_F_find_69 : decode stc_F_find 69 = .ok (.iload_n 1, 1) := by decide +kernel
theorem std_F_find_70 : decode stc_F_find 70 = .ok (.invokevirtual 54, 3) := by decide +kernel
theorem kw_2_129 : Cond.code sty_F_lengthenAll stc_F_lengthenAll 4 none ∈ stGW := st_t2 (List.mem_of_getElem? (i := 129) (by decide +kernel)) (by decide +kernel)
theorem kw_2_126 : Cond.methodLink "StateTables$FirstPlans" 54 (sty_F_lengthenAll) ∈ stGW := st_t2 (List.mem_of_getElem? (i := 126) (by decide +kernel)) (by decide +kernel)
theorem kw_2_128 : Cond.instanceMethod (sty_F_lengthenAll) ∈ stGW := st_t2 (List.mem_of_getElem? (i := 128) (by decide +kernel)) (by decide +kernel)
theorem kw_0_7 : Cond.selects "StateTables$FirstPlans" (sty_F_lengthenAll) (sty_F_lengthenAll) ∈ stGW := st_t0 (List.mem_of_getElem? (i := 7) (by decide +kernel)) (by decide +kernel)
theorem std_F_find_73 : decode stc_F_find 73 = .ok (.iinc 1 1, 3) := by decide +kernel
theorem std_F_find_76 : decode stc_F_find 76 = .ok (.goto (-19), 3) := by decide +kernel
theorem std_F_find_19 : decode stc_F_find 19 = .ok (.return_, 1) := by decide +kernel
set_option maxHeartbeats 4000000 in
set_option maxRecDepth 100000 in
theorem c_find (l : Launch) (dC : Nat → ClassId) (dI : Nat → Nat → Nat) (cI cJ cZ : ClassId) (f0 : Nat) (r1 : Nat) (e1 : Nat) (r2 : Nat) (e2 : Nat) (fo : Int) (lf : Int) (y0 : Nat) (ys : Nat) (yk : Nat) (yc : Nat) (yd : Nat) (yw : Nat) (yx : Nat) (yb : Nat) (yu : Nat) (total : Int) (t0 : Nat) (hs : Nat) (hc : Nat) (hf : Nat) (hg : Nat) (hb : Nat) (he : Nat) (hm : Nat) (choices : Int) (bars : Int) (cap : Nat) (n : Nat) (fr1 : Int → Int) (fe1 : Int → Int) (fr2 : Int → Int) (fe2 : Int → Int) (gst : Int → Int) (gk : Int → Int) (gwt : Int → Int) (gct : Int → Int) (gbe : Int → Int) (gwf : Int → Int) (gcf : Int → Int) (fle : Int → Int) (fsz : Int → Int) (fco : Int → Int) (ffu : Int → Int) (fsu : Int → Int) (fbb : Int → Int) (fmo : Int → Int) (kcap : cap ≤ 4801) (kgst : ∀ j, 0 ≤ j → j < 14 → 0 ≤ gst j ∧ gst j ≤ cap) (kn : n ≤ 12) (kc0 : 1 ≤ cap) (kT : TB fsz fco ffu fsu fbb fmo) (kLS : LYS fsz fco ffu fsu fbb fmo n gst gk gwt gct gbe) (kB : ∀ d : Nat, d ≤ n → BK fsz fco ffu fsu fbb fmo fle n gk gwf gcf d (gst ((d : Nat) : Int)) (gst (((d : Nat) : Int) + 1))) : ∀ sz, Met l sty_F_find (Cond.code sty_F_find stc_F_find 2 none :: stGW) ({ frames := 3, cells := 0, slots := 0, locals := 75 } : Room) (va_Pc [.ref f0] (zPre (dC, dI) stCl [(cI, .int), (cJ, .long), (cZ, .boolean)] st_nw [(f0, .inr (3, [.ref t0, .ref y0, .int (iI fo), .ref r1, .ref e1, .int (iI lf), .ref r2, .ref e2])), (r1, .inl (cJ, aL 20 fr1)), (e1, .inl (cI, aI 20 fe1)), (r2, .inl (cJ, aL 20 fr2)), (e2, .inl (cI, aI 20 fe2)), (y0, .inr (2, [.ref t0, .int (iI total), .ref ys, .ref yk, .ref yc, .ref yd, .ref yw, .ref yx, .ref yb, .ref yu])), (yb, .inl (cI, aI (6 * cap) gbe)), (yx, .inl (cJ, aL cap gwf)), (yd, .inl (cI, aI cap gcf)), (t0, .inr (1, [.int (iI ((n : Nat) : Int)), .int (iI choices), .int (iI bars), .ref hs, .ref hc, .ref hf, .ref hg, .ref hb, .ref he, .ref hm])), (hc, .inl (cI, aI 72 fco)), (hs, .inl (cI, aI 12 fsz))] sz)) (va_Qv (fun (u : Nat × Nat × Nat × Nat × (Int → Int) × (Int → Int) × (Int → Int) × (Int → Int) × Int × Int) => FS (PC fsz fco ffu fsu fbb fmo fle n gst gk n) u.2.2.2.2.2.2.2.2.1 u.2.2.2.2.1 u.2.2.2.2.2.1) (zPost (dC, dI) stCl [(cI, .int), (cJ, .long), (cZ, .boolean)] [(f0, .inr (3, [.ref t0, .ref y0, .int (iI fo), .ref r1, .ref e1, .int (iI lf), .ref r2, .ref e2])), (r1, .inl (cJ, aL 20 fr1)), (e1, .inl (cI, aI 20 fe1)), (r2, .inl (cJ, aL 20 fr2)), (e2, .inl (cI, aI 20 fe2)), (y0, .inr (2, [.ref t0, .int (iI total), .ref ys, .ref yk, .ref yc, .ref yd, .ref yw, .ref yx, .ref yb, .ref yu])), (yb, .inl (cI, aI (6 * cap) gbe)), (yx, .inl (cJ, aL cap gwf)), (yd, .inl (cI, aI cap gcf)), (t0, .inr (1, [.int (iI ((n : Nat) : Int)), .int (iI choices), .int (iI bars), .ref hs, .ref hc, .ref hf, .ref hg, .ref hb, .ref he, .ref hm])), (hc, .inl (cI, aI 72 fco)), (hs, .inl (cI, aI 12 fsz))] sz (fun u : Nat × Nat × Nat × Nat × (Int → Int) × (Int → Int) × (Int → Int) × (Int → Int) × Int × Int => [(f0, .inr (3, [.ref t0, .ref y0, .int (iI (u.2.2.2.2.2.2.2.2.1)), .ref u.1, .ref u.2.1, .int (iI (u.2.2.2.2.2.2.2.2.2)), .ref u.2.2.1, .ref u.2.2.2.1])), (u.1, .inl (cJ, aL 20 (u.2.2.2.2.1))), (u.2.1, .inl (cI, aI 20 (u.2.2.2.2.2.1))), (u.2.2.1, .inl (cJ, aL 20 (u.2.2.2.2.2.2.1))), (u.2.2.2.1, .inl (cI, aI 20 (u.2.2.2.2.2.2.2.1))), (y0, .inr (2, [.ref t0, .int (iI total), .ref ys, .ref yk, .ref yc, .ref yd, .ref yw, .ref yx, .ref yb, .ref yu])), (yb, .inl (cI, aI (6 * cap) gbe)), (yx, .inl (cJ, aL cap gwf)), (yd, .inl (cI, aI cap gcf)), (t0, .inr (1, [.int (iI ((n : Nat) : Int)), .int (iI choices), .int (iI bars), .ref hs, .ref hc, .ref hf, .ref hg, .ref hb, .ref he, .ref hm])), (hc, .inl (cI, aI 72 fco)), (hs, .inl (cI, aI 12 fsz))])) (va_A [(f0, .inr (3, [.ref t0, .ref y0, .int (iI fo), .ref r1, .ref e1, .int (iI lf), .ref r2, .ref e2])), (r1, .inl (cJ, aL 20 fr1)), (e1, .inl (cI, aI 20 fe1)), (r2, .inl (cJ, aL 20 fr2)), (e2, .inl (cI, aI 20 fe2)), (y0, .inr (2, [.ref t0, .int (iI total), .ref ys, .ref yk, .ref yc, .ref yd, .ref yw, .ref yx, .ref yb, .ref yu])), (yb, .inl (cI, aI (6 * cap) gbe)), (yx, .inl (cJ, aL cap gwf)), (yd, .inl (cI, aI cap gcf)), (t0, .inr (1, [.int (iI ((n : Nat) : Int)), .int (iI choices), .int (iI bars), .ref hs, .ref hc, .ref hf, .ref hg, .ref hb, .ref he, .ref hm])), (hc, .inl (cI, aI 72 fco)), (hs, .inl (cI, aI 12 fsz))] sz)) 0 0 (va_A [(f0, .inr (3, [.ref t0, .ref y0, .int (iI fo), .ref r1, .ref e1, .int (iI lf), .ref r2, .ref e2])), (r1, .inl (cJ, aL 20 fr1)), (e1, .inl (cI, aI 20 fe1)), (r2, .inl (cJ, aL 20 fr2)), (e2, .inl (cI, aI 20 fe2)), (y0, .inr (2, [.ref t0, .int (iI total), .ref ys, .ref yk, .ref yc, .ref yd, .ref yw, .ref yx, .ref yb, .ref yu])), (yb, .inl (cI, aI (6 * cap) gbe)), (yx, .inl (cJ, aL cap gwf)), (yd, .inl (cI, aI cap gcf)), (t0, .inr (1, [.int (iI ((n : Nat) : Int)), .int (iI choices), .int (iI bars), .ref hs, .ref hc, .ref hf, .ref hg, .ref hb, .ref he, .ref hm])), (hc, .inl (cI, aI 72 fco)), (hs, .inl (cI, aI 12 fsz))] sz) := by
  refine met_v (by decide) rfl (Nat.le_of_ble_eq_true rfl) ?_
  intro p e s m below meth c A Q C hmn hret
  have hroot := ls_root kLS
  have hB0 := kB 0 (Nat.zero_le n) 0 (by show gst 0 ≤ 0; omega) (by show 0 < gst (0 + 1); exact hroot.2.1)
  rw [hroot.2.2, Nat.sub_zero] at hB0
  have hwn := wf_nn (fsz := fsz) (ffu := ffu) (fsu := fsu) (fbb := fbb) (fmo := fmo) (fle := fle) n 0 0
  have hwb := wf_big (fle := fle) kT (j := n) (d := 0) (k := 0) (by omega)
  refine g_aload_n C 0 std_F_find_0 rfl ?_
  refine g_iconst C std_F_find_1 ?_
  refine g_put C (ws' := [(f0, .inr (3, [.ref t0, .ref y0, .int (iI 0), .ref r1, .ref e1, .int (iI lf), .ref r2, .ref e2])), (r1, .inl (cJ, aL 20 fr1)), (e1, .inl (cI, aI 20 fe1)), (r2, .inl (cJ, aL 20 fr2)), (e2, .inl (cI, aI 20 fe2)), (y0, .inr (2, [.ref t0, .int (iI total), .ref ys, .ref yk, .ref yc, .ref yd, .ref yw, .ref yx, .ref yb, .ref yu])), (yb, .inl (cI, aI (6 * cap) gbe)), (yx, .inl (cJ, aL cap gwf)), (yd, .inl (cI, aI cap gcf)), (t0, .inr (1, [.int (iI ((n : Nat) : Int)), .int (iI choices), .int (iI bars), .ref hs, .ref hc, .ref hf, .ref hg, .ref hb, .ref he, .ref hm])), (hc, .inl (cI, aI 72 fco)), (hs, .inl (cI, aI 12 fsz))]) (st_sub sti_F) stt_F sto_F stn_F 0 rfl rfl 2 (by decide) (List.mem_cons_of_mem _ kw_1_131) rfl rfl rfl rfl (Nat.le_of_ble_eq_true rfl) std_F_find_2 rfl ?_
  refine g_aload_n C 0 std_F_find_5 rfl ?_
  refine g_get C (st_sub sti_F) 0 rfl rfl 1 (by decide) (List.mem_cons_of_mem _ kw_1_130) rfl rfl std_F_find_6 ?_
  refine g_get C (st_sub sti_Y) 5 rfl rfl 7 (by decide) (List.mem_cons_of_mem _ kw_1_97) rfl rfl std_F_find_9 ?_
  refine g_iconst C std_F_find_12 ?_
  refine g_lald C 7 1 rfl rfl (by omega) (by omega) (by omega) std_F_find_13 ?_
  refine g_lconst C (z := 0) std_F_find_14 (by decide) ?_
  refine g_lcmp_ne (tgt := 20) C std_F_find_15 std_F_find_16 (by decide) ⟨by omega, by omega⟩ ⟨by omega, by omega⟩ (fun c1 => ?_) (fun c1 => ?_)
  · have hc0 := hB0.2.1 (by omega)
    refine g_aload_n C 0 std_F_find_20 rfl ?_
    refine g_get C (st_sub sti_F) 0 rfl rfl 3 (by decide) (List.mem_cons_of_mem _ kw_1_133) rfl rfl std_F_find_21 ?_
    refine g_iconst C std_F_find_24 ?_
    refine g_aload_n C 0 std_F_find_25 rfl ?_
    refine g_get C (st_sub sti_F) 0 rfl rfl 1 (by decide) (List.mem_cons_of_mem _ kw_1_130) rfl rfl std_F_find_26 ?_
    refine g_get C (st_sub sti_Y) 5 rfl rfl 5 (by decide) (List.mem_cons_of_mem _ kw_1_93) rfl rfl std_F_find_29 ?_
    refine g_iconst C std_F_find_32 ?_
    refine g_iald C 8 0 rfl rfl (by omega) (by omega) (by omega) std_F_find_33 ?_
    refine g_sipush C std_F_find_34 (by decide) ?_
    refine g_iadd C std_F_find_37 ?_
    refine g_i2l C std_F_find_38 ⟨by omega, by omega⟩ ?_
    refine g_bipush C std_F_find_39 (by decide) ?_
    refine g_lshl C (z := (((gcf 0) + 12000) * 68719476736)) std_F_find_41 (lI_shl (by decide) (by decide) (by decide)) ?_
    refine g_last C (ws' := [(f0, .inr (3, [.ref t0, .ref y0, .int (iI 0), .ref r1, .ref e1, .int (iI lf), .ref r2, .ref e2])), (r1, .inl (cJ, aL 20 (uZ fr1 0 (((gcf 0) + 12000) * 68719476736)))), (e1, .inl (cI, aI 20 fe1)), (r2, .inl (cJ, aL 20 fr2)), (e2, .inl (cI, aI 20 fe2)), (y0, .inr (2, [.ref t0, .int (iI total), .ref ys, .ref yk, .ref yc, .ref yd, .ref yw, .ref yx, .ref yb, .ref yu])), (yb, .inl (cI, aI (6 * cap) gbe)), (yx, .inl (cJ, aL cap gwf)), (yd, .inl (cI, aI cap gcf)), (t0, .inr (1, [.int (iI ((n : Nat) : Int)), .int (iI choices), .int (iI bars), .ref hs, .ref hc, .ref hf, .ref hg, .ref hb, .ref he, .ref hm])), (hc, .inl (cI, aI 72 fco)), (hs, .inl (cI, aI 12 fsz))]) 1 1 rfl rfl (by omega) (by omega) (by omega) std_F_find_42 rfl ?_
    refine g_aload_n C 0 std_F_find_43 rfl ?_
    refine g_get C (st_sub sti_F) 0 rfl rfl 4 (by decide) (List.mem_cons_of_mem _ kw_1_134) rfl rfl std_F_find_44 ?_
    refine g_iconst C std_F_find_47 ?_
    refine g_iconst C std_F_find_48 ?_
    refine g_iast C (ws' := [(f0, .inr (3, [.ref t0, .ref y0, .int (iI 0), .ref r1, .ref e1, .int (iI lf), .ref r2, .ref e2])), (r1, .inl (cJ, aL 20 (uZ fr1 0 (((gcf 0) + 12000) * 68719476736)))), (e1, .inl (cI, aI 20 (uZ fe1 0 0))), (r2, .inl (cJ, aL 20 fr2)), (e2, .inl (cI, aI 20 fe2)), (y0, .inr (2, [.ref t0, .int (iI total), .ref ys, .ref yk, .ref yc, .ref yd, .ref yw, .ref yx, .ref yb, .ref yu])), (yb, .inl (cI, aI (6 * cap) gbe)), (yx, .inl (cJ, aL cap gwf)), (yd, .inl (cI, aI cap gcf)), (t0, .inr (1, [.int (iI ((n : Nat) : Int)), .int (iI choices), .int (iI bars), .ref hs, .ref hc, .ref hf, .ref hg, .ref hb, .ref he, .ref hm])), (hc, .inl (cI, aI 72 fco)), (hs, .inl (cI, aI 12 fsz))]) 2 0 rfl rfl (by omega) (by omega) (by omega) std_F_find_49 rfl ?_
    refine g_aload_n C 0 std_F_find_50 rfl ?_
    refine g_iconst C std_F_find_51 ?_
    refine g_put C (ws' := [(f0, .inr (3, [.ref t0, .ref y0, .int (iI 1), .ref r1, .ref e1, .int (iI lf), .ref r2, .ref e2])), (r1, .inl (cJ, aL 20 (uZ fr1 0 (((gcf 0) + 12000) * 68719476736)))), (e1, .inl (cI, aI 20 (uZ fe1 0 0))), (r2, .inl (cJ, aL 20 fr2)), (e2, .inl (cI, aI 20 fe2)), (y0, .inr (2, [.ref t0, .int (iI total), .ref ys, .ref yk, .ref yc, .ref yd, .ref yw, .ref yx, .ref yb, .ref yu])), (yb, .inl (cI, aI (6 * cap) gbe)), (yx, .inl (cJ, aL cap gwf)), (yd, .inl (cI, aI cap gcf)), (t0, .inr (1, [.int (iI ((n : Nat) : Int)), .int (iI choices), .int (iI bars), .ref hs, .ref hc, .ref hf, .ref hg, .ref hb, .ref he, .ref hm])), (hc, .inl (cI, aI 72 fco)), (hs, .inl (cI, aI 12 fsz))]) (st_sub sti_F) stt_F sto_F stn_F 0 rfl rfl 2 (by decide) (List.mem_cons_of_mem _ kw_1_131) rfl rfl rfl rfl (Nat.le_of_ble_eq_true rfl) std_F_find_52 rfl ?_
    refine g_iconst C std_F_find_55 ?_
    refine g_istore_n C (lv' := [(1, .int (iI 0)), (0, .ref f0)]) std_F_find_56 (by decide) rfl ?_
    have L57 : ∀ (nn57 : Nat) (d : Nat) (a1 : Nat) (b1 : Nat) (a2 : Nat) (b2 : Nat) (FR : Int → Int) (FE : Int → Int) (GR : Int → Int) (GE : Int → Int) (mm : Int) (ml : Int), d ≤ n → FS (PC fsz fco ffu fsu fbb fmo fle n gst gk d) mm FR FE → ((n : Int) - (d : Int)) < (nn57 : Int) → G p l e ({ frames := 3, cells := 0, slots := 0, locals := 75 } : Room) s m ([.ref f0] : List Value).toArray below meth c (dC, dI) stCl 2 A 0 0 Q [(f0, .inr (3, [.ref t0, .ref y0, .int (iI mm), .ref a1, .ref b1, .int (iI ml), .ref a2, .ref b2])), (a1, .inl (cJ, aL 20 FR)), (b1, .inl (cI, aI 20 FE)), (a2, .inl (cJ, aL 20 GR)), (b2, .inl (cI, aI 20 GE)), (y0, .inr (2, [.ref t0, .int (iI total), .ref ys, .ref yk, .ref yc, .ref yd, .ref yw, .ref yx, .ref yb, .ref yu])), (yb, .inl (cI, aI (6 * cap) gbe)), (yx, .inl (cJ, aL cap gwf)), (yd, .inl (cI, aI cap gcf)), (t0, .inr (1, [.int (iI ((n : Nat) : Int)), .int (iI choices), .int (iI bars), .ref hs, .ref hc, .ref hf, .ref hg, .ref hb, .ref he, .ref hm])), (hc, .inl (cI, aI 72 fco)), (hs, .inl (cI, aI 12 fsz))] 57 [(1, .int (iI ((d : Nat) : Int))), (0, .ref f0)] [] := by
      intro nn57
      induction nn57 with
      | zero =>
        intro d a1 b1 a2 b2 FR FE GR GE mm ml kd kF hnn57
        exact absurd hnn57 (by omega)
      | succ nn57 ih57 =>
        intro d a1 b1 a2 b2 FR FE GR GE mm ml kd kF hnn57
        refine g_iload_n C 0 std_F_find_57 rfl ?_
        refine g_aload_n C 1 std_F_find_58 rfl ?_
        refine g_get C (st_sub sti_F) 0 rfl rfl 0 (by decide) (List.mem_cons_of_mem _ kw_1_129) rfl rfl std_F_find_59 ?_
        refine g_get C (st_sub sti_T) 9 rfl rfl 0 (by decide) (List.mem_cons_of_mem _ kw_1_27) rfl rfl std_F_find_62 ?_
        refine g_icmp_ge (tgt := 79) C std_F_find_65 (by decide) ⟨by omega, by omega⟩ ⟨by omega, by omega⟩ (fun c2 => ?_) (fun c2 => ?_)
        · exact hret _ _ (a1, b1, a2, b2, FR, FE, GR, GE, mm, ml) ((show d = n by omega) ▸ kF) std_F_find_79
        · refine g_aload_n C 1 std_F_find_68 rfl ?_
          refine g_iload_n C 0 std_F_find_69 rfl ?_
          refine g_V_v (wc := [(f0, .inr (3, [.ref t0, .ref y0, .int (iI mm), .ref a1, .ref b1, .int (iI ml), .ref a2, .ref b2])), (a1, .inl (cJ, aL 20 FR)), (b1, .inl (cI, aI 20 FE)), (a2, .inl (cJ, aL 20 GR)), (b2, .inl (cI, aI 20 GE)), (y0, .inr (2, [.ref t0, .int (iI total), .ref ys, .ref yk, .ref yc, .ref yd, .ref yw, .ref yx, .ref yb, .ref yu])), (yb, .inl (cI, aI (6 * cap) gbe)), (yx, .inl (cJ, aL cap gwf)), (yd, .inl (cI, aI cap gcf)), (t0, .inr (1, [.int (iI ((n : Nat) : Int)), .int (iI choices), .int (iI bars), .ref hs, .ref hc, .ref hf, .ref hg, .ref hb, .ref he, .ref hm])), (hc, .inl (cI, aI 72 fco)), (hs, .inl (cI, aI 12 fsz))]) (wr := []) (rest := []) C (c_lengthenAll l dC dI cI cJ cZ f0 a1 b1 a2 b2 mm ml y0 ys yk yc yd yw yx yb yu total t0 hs hc hf hg hb he hm ((n : Nat) : Int) choices bars cap n d FR FE GR GE gst gk gwt gct gbe gwf gcf fle fsz fco ffu fsu fbb fmo (kcap) (kgst) (kn) (by omega) (kT) (kLS) (kB) (kF)) (st_cV C kw_2_129 kw_2_126 kw_1_4 kw_2_128 kw_0_7 sth_F_lengthenAll ⟨Nat.le_of_ble_eq_true rfl, Nat.le_of_ble_eq_true rfl⟩) 0 rfl rfl rfl rfl (Nat.le_of_ble_eq_true rfl) std_F_find_70 ⟨Nat.le_of_ble_eq_true rfl, Nat.le_of_ble_eq_true rfl⟩ [0, 1, 2, 3, 4, 5, 6, 7, 8, 9, 10, 11] [] rfl rfl rfl rfl (by decide) (fun u4 h5 => ?_)
          obtain ⟨LR6, LE7, m8⟩ := u4
          dsimp only at h5
          refine g_ws (ws' := [(f0, .inr (3, [.ref t0, .ref y0, .int (iI m8), .ref a2, .ref b2, .int (iI m8), .ref a1, .ref b1])), (a1, .inl (cJ, aL 20 FR)), (b1, .inl (cI, aI 20 FE)), (a2, .inl (cJ, aL 20 LR6)), (b2, .inl (cI, aI 20 LE7)), (y0, .inr (2, [.ref t0, .int (iI total), .ref ys, .ref yk, .ref yc, .ref yd, .ref yw, .ref yx, .ref yb, .ref yu])), (yb, .inl (cI, aI (6 * cap) gbe)), (yx, .inl (cJ, aL cap gwf)), (yd, .inl (cI, aI cap gcf)), (t0, .inr (1, [.int (iI ((n : Nat) : Int)), .int (iI choices), .int (iI bars), .ref hs, .ref hc, .ref hf, .ref hg, .ref hb, .ref he, .ref hm])), (hc, .inl (cI, aI 72 fco)), (hs, .inl (cI, aI 12 fsz))]) rfl ?_
          refine g_iinc C (lv' := [(1, .int (iI (((d : Nat) : Int) + 1))), (0, .ref f0)]) 0 std_F_find_73 rfl (by decide) rfl ?_
          refine g_goto (tgt := 57) C std_F_find_76 (by decide) ?_
          refine g_sub (ws' := [(f0, .inr (3, [.ref t0, .ref y0, .int (iI m8), .ref a2, .ref b2, .int (iI m8), .ref a1, .ref b1])), (a2, .inl (cJ, aL 20 LR6)), (b2, .inl (cI, aI 20 LE7)), (a1, .inl (cJ, aL 20 FR)), (b1, .inl (cI, aI 20 FE)), (y0, .inr (2, [.ref t0, .int (iI total), .ref ys, .ref yk, .ref yc, .ref yd, .ref yw, .ref yx, .ref yb, .ref yu])), (yb, .inl (cI, aI (6 * cap) gbe)), (yx, .inl (cJ, aL cap gwf)), (yd, .inl (cI, aI cap gcf)), (t0, .inr (1, [.int (iI ((n : Nat) : Int)), .int (iI choices), .int (iI bars), .ref hs, .ref hc, .ref hf, .ref hg, .ref hb, .ref he, .ref hm])), (hc, .inl (cI, aI 72 fco)), (hs, .inl (cI, aI 12 fsz))]) [0, 3, 4, 1, 2, 5, 6, 7, 8, 9, 10, 11] rfl rfl ?_
          refine g_wide (k := 0) (n := 0) (Nat.le_of_ble_eq_true rfl) (Nat.le_of_ble_eq_true rfl) ?_
          exact ih57 (d + 1) a2 b2 a1 b1 LR6 LE7 FR FE m8 m8 (by omega) (h5) (by omega)
    obtain ⟨nn0, hnn0⟩ : ∃ nn0 : Nat, ((n : Int) - (0 : Int)) < (nn0 : Int) := z_nat _
    exact L57 nn0 0 r1 e1 r2 e2 (uZ fr1 0 (((gcf 0) + 12000) * 68719476736)) (uZ fe1 0 0) fr2 fe2 1 lf (by omega) (fs_first hroot (by omega) (by rw [hc0])) hnn0
  · exact hret _ _ (r1, e1, r2, e2, fr1, fe1, fr2, fe2, 0, lf) (fs_none (by omega)) std_F_find_19
end
section
/-! for the class's own methods -/
noncomputable def sel (P : Prop) (a b : Int) : Int := @ite Int P (Classical.propDecidable P) a b
theorem sel_t {P : Prop} {a b : Int} (h : P) : sel P a b = a := by unfold sel; exact if_pos h
theorem sel_f {P : Prop} {a b : Int} (h : ¬ P) : sel P a b = b := by unfold sel; exact if_neg h
theorem z_bfit (P : Prop) : fits .boolean (.int (iI (bI P))) = true := by
  rcases bI_c P with h | h <;> rw [h] <;> decide
theorem cn_nn {fsz ffu fsu fbb fmo : Int → Int} (d : Nat) : 0 ≤ cn fsz ffu fsu fbb fmo d := sumR_nn (fun k => by
  show 0 ≤ (if 0 < wt fsz ffu fsu fbb fmo d k then (1 : Int) else 0)
  split <;> omega) _
theorem cn_0 {fsz ffu fsu fbb fmo : Int → Int} : cn fsz ffu fsu fbb fmo 0 = 1 := by
  have h := (ls_0 (fsz := fsz) (fco := fun _ => 0) (ffu := ffu) (fsu := fsu) (fbb := fbb) (fmo := fmo) (ST := fun j => j) (GK := fun _ => 0) (GW := fun _ => 1) (GC := fun _ => 0) (GB := fun _ => 0) rfl rfl rfl rfl rfl).1 0 (Nat.le_refl 0)
  have := lo_cn h.1.2.1 h.2.1
  rw [← this]
  rfl
theorem tot_b {fsz ffu fsu fbb fmo : Int → Int} : ∀ d : Nat, (∀ i : Nat, i ≤ d → cn fsz ffu fsu fbb fmo i ≤ 400) → 0 ≤ tot fsz ffu fsu fbb fmo d ∧ tot fsz ffu fsu fbb fmo d ≤ 1 + 400 * (d : Int)
  | 0, _ => by
    show 0 ≤ cn fsz ffu fsu fbb fmo 0 ∧ cn fsz ffu fsu fbb fmo 0 ≤ _
    rw [cn_0]; omega
  | d + 1, h => by
    have i1 := tot_b d (fun i hi => h i (by omega))
    have i2 := h (d + 1) (Nat.le_refl _)
    have i3 := cn_nn (fsz := fsz) (ffu := ffu) (fsu := fsu) (fbb := fbb) (fmo := fmo) (d + 1)
    show 0 ≤ tot fsz ffu fsu fbb fmo d + cn fsz ffu fsu fbb fmo (d + 1) ∧ tot fsz ffu fsu fbb fmo d + cn fsz ffu fsu fbb fmo (d + 1) ≤ _
    omega
theorem need_b {fsz fco ffu fsu fbb fmo : Int → Int} (hT : TB fsz fco ffu fsu fbb fmo) {d : Nat} (hd : d < 12) (h : ∀ i : Nat, i ≤ d → cn fsz ffu fsu fbb fmo i ≤ 400) : 0 ≤ need fsz ffu fsu fbb fmo d ∧ need fsz ffu fsu fbb fmo d ≤ 4801 := by
  have h1 := tot_b d h
  have hsz := hT.1 (d : Int) (by omega) (by omega)
  have h2 : 0 ≤ cn fsz ffu fsu fbb fmo d * fsz (d : Int) := Int.mul_nonneg (cn_nn d) (by omega)
  unfold need
  omega
theorem layC_b {fsz fco ffu fsu fbb fmo : Int → Int} (hT : TB fsz fco ffu fsu fbb fmo) : ∀ (k d c : Nat), d + k ≤ 12 → (∀ i : Nat, i ≤ d → cn fsz ffu fsu fbb fmo i ≤ 400) → 1 ≤ c ∧ c ≤ 4801 → 1 ≤ layC fsz ffu fsu fbb fmo k d c ∧ layC fsz ffu fsu fbb fmo k d c ≤ 4801
  | 0, d, c, _, _, hc => hc
  | k + 1, d, c, hd, h, hc => by
    have hn := need_b hT (by omega) h
    have hg := gN_b hn.1 hn.2 hc
    rw [layC_s]
    by_cases q : cn fsz ffu fsu fbb fmo (d + 1) ≤ 400
    · rw [if_pos q]
      exact layC_b hT k (d + 1) _ (by omega) (fun i hi => by
        by_cases r : i = d + 1
        · subst r; exact q
        · exact h i (by omega)) hg
    · rw [if_neg q]; exact hg
section SW
variable {p : Program} {l : Launch} {e : Env} {R : Room} {s : State} {m : MethodId} {args : Array Value} {below : List Frame} {meth : Method} {c : Code} {D : va_G} {cl : List vw_C} {tys : List (ClassId × FieldType)} {nw : List Cond} {cc : ByteArray} {nL : Nat} {Ts : List Cond} {own : String} {A : Nat → Prop} {cells slots : Nat} {Q : State → Prop} {ws ws' : va_W} {pc : Nat} {lv lv' : List (Nat × Value)} {st : List Value}
theorem g_tin (C : CX p s m args meth c D cl tys nw cc nL Ts own A) {dflt lo hi off x : Int} {offs : Array Int} {len tgt : Nat} (hd : decode cc pc = .ok (.tableswitch dflt lo hi offs, len)) (hx : rI x) (h1 : lo ≤ x) (h2 : x ≤ hi) (ho : offs[(x - lo).toNat]? = some off) (ht : (pc : Int) + off = (tgt : Int)) (k : G p l e R s m args below meth c D cl nL A cells slots Q ws tgt lv st) : G p l e R s m args below meth c D cl nL A cells slots Q ws pc lv (.int (iI x) :: st) :=
  fun H locs ls hP hD hS hl => lv_tableIn C.1 C.2.1 hd (by rw [iI_toInt hx]; omega) (by rw [iI_toInt hx]; omega) (by rw [iI_toInt hx]; exact ho) ht (k H locs ls hP hD hS hl)
theorem g_tout (C : CX p s m args meth c D cl tys nw cc nL Ts own A) {dflt lo hi x : Int} {offs : Array Int} {len tgt : Nat} (hd : decode cc pc = .ok (.tableswitch dflt lo hi offs, len)) (hx : rI x) (h : x < lo ∨ hi < x) (ht : (pc : Int) + dflt = (tgt : Int)) (k : G p l e R s m args below meth c D cl nL A cells slots Q ws tgt lv st) : G p l e R s m args below meth c D cl nL A cells slots Q ws pc lv (.int (iI x) :: st) :=
  fun H locs ls hP hD hS hl => lv_tableOut C.1 C.2.1 hd (by rw [iI_toInt hx]; exact h) ht (k H locs ls hP hD hS hl)
end SW
end
section
/-! StateTables.run -/
abbrev sty_S_run : MethodName := ⟨"StateTables", "run", "()I"⟩
abbrev stc_S_run : ByteArray := prog_1_method_7_code
theorem sth_S_run : (sty_S_run).cls ≠ "java/lang/invoke/MethodHandle" ∧ (sty_S_run).cls ≠ "java/lang/invoke/VarHandle" ∧ (parseMethodDescriptor (sty_S_run).desc).map (fun d => d.parameters.length) = some 0 := by decide +kernel
theorem std_S_run_0 : decode stc_S_run 0 = .ok (.aload_n 0, 1) := by decide +kernel
theorem std_S_run_1 : decode stc_S_run 1 = .ok (.aload_n 0, 1) := by decide +kernel
theorem std_S_run_2 : decode stc_S_run 2 = .ok (.getfield 21, 3) := by decide +kernel
theorem kw_1_190 : Cond.fieldLink "StateTables" 21 "StateTables" "layers" "LStateTables$Layers;" ∈ stGW := st_t1 (List.mem_of_getElem? (i := 190) (by decide +kernel)) (by decide +kernel)
theorem std_S_run_5 : decode stc_S_run 5 = .ok (.invokevirtual 88, 3) := by decide +kernel
theorem kw_2_32 : Cond.code sty_Y_lay stc_Y_lay 2 (some .boolean) ∈ stGW := st_t2 (List.mem_of_getElem? (i := 32) (by decide +kernel)) (by decide +kernel)
theorem kw_2_29 : Cond.methodLink "StateTables" 88 (sty_Y_lay) ∈ stGW := st_t2 (List.mem_of_getElem? (i := 29) (by decide +kernel)) (by decide +kernel)
theorem kw_2_30 : Cond.instanceMethod (sty_Y_lay) ∈ stGW := st_t2 (List.mem_of_getElem? (i := 30) (by decide +kernel)) (by decide +kernel)
theorem kw_2_31 : Cond.selects "StateTables$Layers" (sty_Y_lay) (sty_Y_lay) ∈ stGW := st_t2 (List.mem_of_getElem? (i := 31) (by decide +kernel)) (by decide +kernel)
theorem std_S_run_8 : decode stc_S_run 8 = .ok (.putfield 41, 3) := by decide +kernel
theorem kw_1_193 : Cond.fieldLink "StateTables" 41 "StateTables" "holds" "Z" ∈ stGW := st_t1 (List.mem_of_getElem? (i := 193) (by decide +kernel)) (by decide +kernel)
theorem std_S_run_11 : decode stc_S_run 11 = .ok (.aload_n 0, 1) := by decide +kernel
theorem std_S_run_12 : decode stc_S_run 12 = .ok (.getfield 41, 3) := by decide +kernel
theorem std_S_run_15 : decode stc_S_run 15 = .ok (.ifCond .ne 6, 3) := by decide +kernel
theorem std_S_run_21 : decode stc_S_run 21 = .ok (.aload_n 0, 1) := by decide +kernel
theorem std_S_run_22 : decode stc_S_run 22 = .ok (.getfield 21, 3) := by decide +kernel
theorem std_S_run_25 : decode stc_S_run 25 = .ok (.invokevirtual 92, 3) := by decide +kernel
theorem kw_2_113 : Cond.code sty_Y_lookBack stc_Y_lookBack 3 none ∈ stGW := st_t2 (List.mem_of_getElem? (i := 113) (by decide +kernel)) (by decide +kernel)
theorem kw_2_110 : Cond.methodLink "StateTables" 92 (sty_Y_lookBack) ∈ stGW := st_t2 (List.mem_of_getElem? (i := 110) (by decide +kernel)) (by decide +kernel)
theorem kw_2_111 : Cond.instanceMethod (sty_Y_lookBack) ∈ stGW := st_t2 (List.mem_of_getElem? (i := 111) (by decide +kernel)) (by decide +kernel)
theorem kw_2_112 : Cond.selects "StateTables$Layers" (sty_Y_lookBack) (sty_Y_lookBack) ∈ stGW := st_t2 (List.mem_of_getElem? (i := 112) (by decide +kernel)) (by decide +kernel)
theorem std_S_run_28 : decode stc_S_run 28 = .ok (.aload_n 0, 1) := by decide +kernel
theorem std_S_run_29 : decode stc_S_run 29 = .ok (.getfield 30, 3) := by decide +kernel
theorem kw_1_191 : Cond.fieldLink "StateTables" 30 "StateTables" "firstPlans" "LStateTables$FirstPlans;" ∈ stGW := st_t1 (List.mem_of_getElem? (i := 191) (by decide +kernel)) (by decide +kernel)
theorem std_S_run_32 : decode stc_S_run 32 = .ok (.invokevirtual 95, 3) := by decide +kernel
theorem kw_2_125 : Cond.code sty_F_find stc_F_find 2 none ∈ stGW := st_t2 (List.mem_of_getElem? (i := 125) (by decide +kernel)) (by decide +kernel)
theorem kw_2_122 : Cond.methodLink "StateTables" 95 (sty_F_find) ∈ stGW := st_t2 (List.mem_of_getElem? (i := 122) (by decide +kernel)) (by decide +kernel)
theorem kw_2_123 : Cond.instanceMethod (sty_F_find) ∈ stGW := st_t2 (List.mem_of_getElem? (i := 123) (by decide +kernel)) (by decide +kernel)
theorem kw_2_124 : Cond.selects "StateTables$FirstPlans" (sty_F_find) (sty_F_find) ∈ stGW := st_t2 (List.mem_of_getElem? (i := 124) (by decide +kernel)) (by decide +kernel)
theorem std_S_run_35 : decode stc_S_run 35 = .ok (.aload_n 0, 1) := by decide +kernel
theorem std_S_run_36 : decode stc_S_run 36 = .ok (.getfield 21, 3) := by decide +kernel
theorem std_S_run_39 : decode stc_S_run 39 = .ok (.getfield 98, 3) := by decide +kernel
theorem kw_1_84 : Cond.fieldLink "StateTables" 98 "StateTables$Layers" "total" "I" ∈ stGW := st_t1 (List.mem_of_getElem? (i := 84) (by decide +kernel)) (by decide +kernel)
theorem std_S_run_42 : decode stc_S_run 42 = .ok (.ireturn, 1) := by decide +kernel
theorem std_S_run_18 : decode stc_S_run 18 = .ok (.ldc 49, 2) := by decide +kernel
theorem kw_1_209 : Cond.constant "StateTables" 49 (-3000000) ∈ stGW := st_t1 (List.mem_of_getElem? (i := 209) (by decide +kernel)) (by decide +kernel)
theorem std_S_run_20 : decode stc_S_run 20 = .ok (.ireturn, 1) := by decide +kernel
set_option maxHeartbeats 4000000 in
set_option maxRecDepth 100000 in
theorem c_run (l : Launch) (dC : Nat → ClassId) (dI : Nat → Nat → Nat) (cI cJ cZ : ClassId) (s0 : Nat) (n0 : Nat) (H : Prop) (y0 : Nat) (ys : Nat) (yk : Nat) (yc : Nat) (yd : Nat) (yw : Nat) (yx : Nat) (yb : Nat) (yu : Nat) (total : Int) (t0 : Nat) (hs : Nat) (hc : Nat) (hf : Nat) (hg : Nat) (hb : Nat) (he : Nat) (hm : Nat) (choices : Int) (bars : Int) (f0 : Nat) (r1 : Nat) (e1 : Nat) (r2 : Nat) (e2 : Nat) (fo : Int) (lf : Int) (cap : Nat) (N : Nat) (q : Nat) (n : Nat) (gst : Int → Int) (gk : Int → Int) (gct : Int → Int) (gcf : Int → Int) (gwt : Int → Int) (gwf : Int → Int) (gbe : Int → Int) (gcu : Int → Int) (fr1 : Int → Int) (fe1 : Int → Int) (fr2 : Int → Int) (fe2 : Int → Int) (fle : Int → Int) (fsz : Int → Int) (fco : Int → Int) (ffu : Int → Int) (fsu : Int → Int) (fbb : Int → Int) (fmo : Int → Int) (kcap : cap ≤ 4801) (kgst : ∀ j, 0 ≤ j → j < 14 → 0 ≤ gst j ∧ gst j ≤ cap) (kn : n ≤ 12) (kc0 : 1 ≤ cap) (kT : TB fsz fco ffu fsu fbb fmo) (kle : ∀ j, 0 ≤ j → j < 2 → 0 ≤ fle j ∧ fle j ≤ 40) (kN : N = layC fsz ffu fsu fbb fmo n 0 cap) (kq : q = layS fsz ffu fsu fbb fmo n 0 cap) : ∀ sz, Met l sty_S_run (Cond.code sty_S_run stc_S_run 1 (some .int) :: stGW) ({ frames := 5, cells := 72, slots := q, locals := 128 } : Room) (va_Pc [.ref s0] (zPre (dC, dI) stCl [(cI, .int), (cJ, .long), (cZ, .boolean)] st_nw [(s0, .inr (0, [.ref t0, .ref y0, .ref f0, .ref n0, .int (iI (bI H))])), (y0, .inr (2, [.ref t0, .int (iI total), .ref ys, .ref yk, .ref yc, .ref yd, .ref yw, .ref yx, .ref yb, .ref yu])), (ys, .inl (cI, aI 14 gst)), (yk, .inl (cI, aI cap gk)), (yc, .inl (cI, aI cap gct)), (yd, .inl (cI, aI cap gcf)), (yw, .inl (cJ, aL cap gwt)), (yx, .inl (cJ, aL cap gwf)), (yb, .inl (cI, aI (6 * cap) gbe)), (yu, .inl (cI, aI 6 gcu)), (t0, .inr (1, [.int (iI ((n : Nat) : Int)), .int (iI choices), .int (iI bars), .ref hs, .ref hc, .ref hf, .ref hg, .ref hb, .ref he, .ref hm])), (hs, .inl (cI, aI 12 fsz)), (hc, .inl (cI, aI 72 fco)), (hf, .inl (cI, aI 72 ffu)), (hg, .inl (cI, aI 72 fsu)), (hb, .inl (cI, aI 72 fbb)), (he, .inl (cI, aI 2 fle)), (hm, .inl (cI, aI 2 fmo)), (f0, .inr (3, [.ref t0, .ref y0, .int (iI fo), .ref r1, .ref e1, .int (iI lf), .ref r2, .ref e2])), (r1, .inl (cJ, aL 20 fr1)), (e1, .inl (cI, aI 20 fe1)), (r2, .inl (cJ, aL 20 fr2)), (e2, .inl (cI, aI 20 fe2))] sz)) (va_Qi (fun (r : Int32) (u : Nat × Nat × Nat × Nat × Nat × Nat × (Int → Int) × (Int → Int) × (Int → Int) × (Int → Int) × (Int → Int) × (Int → Int) × (Int → Int) × (Int → Int) × Int × Nat × Nat × Nat × Nat × (Int → Int) × (Int → Int) × (Int → Int) × (Int → Int) × Int × Int) => ((∀ i : Nat, i ≤ n → cn fsz ffu fsu fbb fmo i ≤ 400) → r = iI u.2.2.2.2.2.2.2.2.2.2.2.2.2.2.1 ∧ LYS fsz fco ffu fsu fbb fmo n u.2.2.2.2.2.2.1 u.2.2.2.2.2.2.2.1 u.2.2.2.2.2.2.2.2.2.2.1 u.2.2.2.2.2.2.2.2.1 u.2.2.2.2.2.2.2.2.2.2.2.2.1 ∧ u.2.2.2.2.2.2.2.2.2.2.2.2.2.2.1 = u.2.2.2.2.2.2.1 (((n : Nat) : Int) + 1) ∧ (∀ d : Nat, d ≤ n → BK fsz fco ffu fsu fbb fmo fle n u.2.2.2.2.2.2.2.1 u.2.2.2.2.2.2.2.2.2.2.2.1 u.2.2.2.2.2.2.2.2.2.1 d (u.2.2.2.2.2.2.1 ((d : Nat) : Int)) (u.2.2.2.2.2.2.1 (((d : Nat) : Int) + 1))) ∧ FS (PC fsz fco ffu fsu fbb fmo fle n u.2.2.2.2.2.2.1 u.2.2.2.2.2.2.2.1 n) u.2.2.2.2.2.2.2.2.2.2.2.2.2.2.2.2.2.2.2.2.2.2.2.1 u.2.2.2.2.2.2.2.2.2.2.2.2.2.2.2.2.2.2.2.1 u.2.2.2.2.2.2.2.2.2.2.2.2.2.2.2.2.2.2.2.2.1) ∧ (¬ (∀ i : Nat, i ≤ n → cn fsz ffu fsu fbb fmo i ≤ 400) → r = iI (-3000000)) ∧ (∀ j, 0 ≤ j → j < 14 → 0 ≤ u.2.2.2.2.2.2.1 j ∧ u.2.2.2.2.2.2.1 j ≤ (N : Int))) (zPost (dC, dI) stCl [(cI, .int), (cJ, .long), (cZ, .boolean)] [(s0, .inr (0, [.ref t0, .ref y0, .ref f0, .ref n0, .int (iI (bI H))])), (y0, .inr (2, [.ref t0, .int (iI total), .ref ys, .ref yk, .ref yc, .ref yd, .ref yw, .ref yx, .ref yb, .ref yu])), (ys, .inl (cI, aI 14 gst)), (yk, .inl (cI, aI cap gk)), (yc, .inl (cI, aI cap gct)), (yd, .inl (cI, aI cap gcf)), (yw, .inl (cJ, aL cap gwt)), (yx, .inl (cJ, aL cap gwf)), (yb, .inl (cI, aI (6 * cap) gbe)), (yu, .inl (cI, aI 6 gcu)), (t0, .inr (1, [.int (iI ((n : Nat) : Int)), .int (iI choices), .int (iI bars), .ref hs, .ref hc, .ref hf, .ref hg, .ref hb, .ref he, .ref hm])), (hs, .inl (cI, aI 12 fsz)), (hc, .inl (cI, aI 72 fco)), (hf, .inl (cI, aI 72 ffu)), (hg, .inl (cI, aI 72 fsu)), (hb, .inl (cI, aI 72 fbb)), (he, .inl (cI, aI 2 fle)), (hm, .inl (cI, aI 2 fmo)), (f0, .inr (3, [.ref t0, .ref y0, .int (iI fo), .ref r1, .ref e1, .int (iI lf), .ref r2, .ref e2])), (r1, .inl (cJ, aL 20 fr1)), (e1, .inl (cI, aI 20 fe1)), (r2, .inl (cJ, aL 20 fr2)), (e2, .inl (cI, aI 20 fe2))] sz (fun u : Nat × Nat × Nat × Nat × Nat × Nat × (Int → Int) × (Int → Int) × (Int → Int) × (Int → Int) × (Int → Int) × (Int → Int) × (Int → Int) × (Int → Int) × Int × Nat × Nat × Nat × Nat × (Int → Int) × (Int → Int) × (Int → Int) × (Int → Int) × Int × Int => [(s0, .inr (0, [.ref t0, .ref y0, .ref f0, .ref n0, .int (iI (bI (∀ i : Nat, i ≤ n → cn fsz ffu fsu fbb fmo i ≤ 400)))])), (y0, .inr (2, [.ref t0, .int (iI (u.2.2.2.2.2.2.2.2.2.2.2.2.2.2.1)), .ref ys, .ref u.1, .ref u.2.1, .ref u.2.2.1, .ref u.2.2.2.1, .ref u.2.2.2.2.1, .ref u.2.2.2.2.2.1, .ref yu])), (ys, .inl (cI, aI 14 (u.2.2.2.2.2.2.1))), (u.1, .inl (cI, aI N (u.2.2.2.2.2.2.2.1))), (u.2.1, .inl (cI, aI N (u.2.2.2.2.2.2.2.2.1))), (u.2.2.1, .inl (cI, aI N (u.2.2.2.2.2.2.2.2.2.1))), (u.2.2.2.1, .inl (cJ, aL N (u.2.2.2.2.2.2.2.2.2.2.1))), (u.2.2.2.2.1, .inl (cJ, aL N (u.2.2.2.2.2.2.2.2.2.2.2.1))), (u.2.2.2.2.2.1, .inl (cI, aI (6 * N) (u.2.2.2.2.2.2.2.2.2.2.2.2.1))), (yu, .inl (cI, aI 6 (u.2.2.2.2.2.2.2.2.2.2.2.2.2.1))), (t0, .inr (1, [.int (iI ((n : Nat) : Int)), .int (iI choices), .int (iI bars), .ref hs, .ref hc, .ref hf, .ref hg, .ref hb, .ref he, .ref hm])), (hs, .inl (cI, aI 12 fsz)), (hc, .inl (cI, aI 72 fco)), (hf, .inl (cI, aI 72 ffu)), (hg, .inl (cI, aI 72 fsu)), (hb, .inl (cI, aI 72 fbb)), (he, .inl (cI, aI 2 fle)), (hm, .inl (cI, aI 2 fmo)), (f0, .inr (3, [.ref t0, .ref y0, .int (iI (u.2.2.2.2.2.2.2.2.2.2.2.2.2.2.2.2.2.2.2.2.2.2.2.1)), .ref u.2.2.2.2.2.2.2.2.2.2.2.2.2.2.2.1, .ref u.2.2.2.2.2.2.2.2.2.2.2.2.2.2.2.2.1, .int (iI (u.2.2.2.2.2.2.2.2.2.2.2.2.2.2.2.2.2.2.2.2.2.2.2.2)), .ref u.2.2.2.2.2.2.2.2.2.2.2.2.2.2.2.2.2.1, .ref u.2.2.2.2.2.2.2.2.2.2.2.2.2.2.2.2.2.2.1])), (u.2.2.2.2.2.2.2.2.2.2.2.2.2.2.2.1, .inl (cJ, aL 20 (u.2.2.2.2.2.2.2.2.2.2.2.2.2.2.2.2.2.2.2.1))), (u.2.2.2.2.2.2.2.2.2.2.2.2.2.2.2.2.1, .inl (cI, aI 20 (u.2.2.2.2.2.2.2.2.2.2.2.2.2.2.2.2.2.2.2.2.1))), (u.2.2.2.2.2.2.2.2.2.2.2.2.2.2.2.2.2.1, .inl (cJ, aL 20 (u.2.2.2.2.2.2.2.2.2.2.2.2.2.2.2.2.2.2.2.2.2.1))), (u.2.2.2.2.2.2.2.2.2.2.2.2.2.2.2.2.2.2.1, .inl (cI, aI 20 (u.2.2.2.2.2.2.2.2.2.2.2.2.2.2.2.2.2.2.2.2.2.2.1)))])) (va_A [(s0, .inr (0, [.ref t0, .ref y0, .ref f0, .ref n0, .int (iI (bI H))])), (y0, .inr (2, [.ref t0, .int (iI total), .ref ys, .ref yk, .ref yc, .ref yd, .ref yw, .ref yx, .ref yb, .ref yu])), (ys, .inl (cI, aI 14 gst)), (yk, .inl (cI, aI cap gk)), (yc, .inl (cI, aI cap gct)), (yd, .inl (cI, aI cap gcf)), (yw, .inl (cJ, aL cap gwt)), (yx, .inl (cJ, aL cap gwf)), (yb, .inl (cI, aI (6 * cap) gbe)), (yu, .inl (cI, aI 6 gcu)), (t0, .inr (1, [.int (iI ((n : Nat) : Int)), .int (iI choices), .int (iI bars), .ref hs, .ref hc, .ref hf, .ref hg, .ref hb, .ref he, .ref hm])), (hs, .inl (cI, aI 12 fsz)), (hc, .inl (cI, aI 72 fco)), (hf, .inl (cI, aI 72 ffu)), (hg, .inl (cI, aI 72 fsu)), (hb, .inl (cI, aI 72 fbb)), (he, .inl (cI, aI 2 fle)), (hm, .inl (cI, aI 2 fmo)), (f0, .inr (3, [.ref t0, .ref y0, .int (iI fo), .ref r1, .ref e1, .int (iI lf), .ref r2, .ref e2])), (r1, .inl (cJ, aL 20 fr1)), (e1, .inl (cI, aI 20 fe1)), (r2, .inl (cJ, aL 20 fr2)), (e2, .inl (cI, aI 20 fe2))] sz)) 72 q (va_A [(s0, .inr (0, [.ref t0, .ref y0, .ref f0, .ref n0, .int (iI (bI H))])), (y0, .inr (2, [.ref t0, .int (iI total), .ref ys, .ref yk, .ref yc, .ref yd, .ref yw, .ref yx, .ref yb, .ref yu])), (ys, .inl (cI, aI 14 gst)), (yk, .inl (cI, aI cap gk)), (yc, .inl (cI, aI cap gct)), (yd, .inl (cI, aI cap gcf)), (yw, .inl (cJ, aL cap gwt)), (yx, .inl (cJ, aL cap gwf)), (yb, .inl (cI, aI (6 * cap) gbe)), (yu, .inl (cI, aI 6 gcu)), (t0, .inr (1, [.int (iI ((n : Nat) : Int)), .int (iI choices), .int (iI bars), .ref hs, .ref hc, .ref hf, .ref hg, .ref hb, .ref he, .ref hm])), (hs, .inl (cI, aI 12 fsz)), (hc, .inl (cI, aI 72 fco)), (hf, .inl (cI, aI 72 ffu)), (hg, .inl (cI, aI 72 fsu)), (hb, .inl (cI, aI 72 fbb)), (he, .inl (cI, aI 2 fle)), (hm, .inl (cI, aI 2 fmo)), (f0, .inr (3, [.ref t0, .ref y0, .int (iI fo), .ref r1, .ref e1, .int (iI lf), .ref r2, .ref e2])), (r1, .inl (cJ, aL 20 fr1)), (e1, .inl (cI, aI 20 fe1)), (r2, .inl (cJ, aL 20 fr2)), (e2, .inl (cI, aI 20 fe2))] sz) := by
  refine met_i (by decide) rfl (Nat.le_of_ble_eq_true rfl) ?_
  intro p e s m below meth c A Q C hmn hret
  have hNb := layC_b kT n 0 cap (by omega) (fun i hi => by rw [show i = 0 by omega, cn_0]; omega) ⟨kc0, kcap⟩
  rw [← kN] at hNb
  refine g_aload_n C 0 std_S_run_0 rfl ?_
  refine g_aload_n C 0 std_S_run_1 rfl ?_
  refine g_get C (st_sub sti_S) 0 rfl rfl 1 (by decide) (List.mem_cons_of_mem _ kw_1_190) rfl rfl std_S_run_2 ?_
  refine g_V_i (wc := [(y0, .inr (2, [.ref t0, .int (iI total), .ref ys, .ref yk, .ref yc, .ref yd, .ref yw, .ref yx, .ref yb, .ref yu])), (ys, .inl (cI, aI 14 gst)), (yk, .inl (cI, aI cap gk)), (yc, .inl (cI, aI cap gct)), (yd, .inl (cI, aI cap gcf)), (yw, .inl (cJ, aL cap gwt)), (yx, .inl (cJ, aL cap gwf)), (yb, .inl (cI, aI (6 * cap) gbe)), (yu, .inl (cI, aI 6 gcu)), (t0, .inr (1, [.int (iI ((n : Nat) : Int)), .int (iI choices), .int (iI bars), .ref hs, .ref hc, .ref hf, .ref hg, .ref hb, .ref he, .ref hm])), (hs, .inl (cI, aI 12 fsz)), (hc, .inl (cI, aI 72 fco)), (hf, .inl (cI, aI 72 ffu)), (hg, .inl (cI, aI 72 fsu)), (hb, .inl (cI, aI 72 fbb)), (hm, .inl (cI, aI 2 fmo))]) (wr := [(s0, .inr (0, [.ref t0, .ref y0, .ref f0, .ref n0, .int (iI (bI H))])), (he, .inl (cI, aI 2 fle)), (f0, .inr (3, [.ref t0, .ref y0, .int (iI fo), .ref r1, .ref e1, .int (iI lf), .ref r2, .ref e2])), (r1, .inl (cJ, aL 20 fr1)), (e1, .inl (cI, aI 20 fe1)), (r2, .inl (cJ, aL 20 fr2)), (e2, .inl (cI, aI 20 fe2))]) (rest := [.ref s0]) C (c_lay l dC dI cI cJ cZ y0 ys yk yc yd yw yx yb yu total t0 hs hc hf hg hb he hm ((n : Nat) : Int) choices bars cap N q n gst gk gct gcf gwt gwf gbe gcu fsz fco ffu fsu fbb fmo (kcap) (kgst) (⟨rfl, kn⟩) (kT) (kc0) (kN) (kq)) (st_cV C kw_2_32 kw_2_29 kw_1_3 kw_2_30 kw_2_31 sth_Y_lay ⟨Nat.le_of_ble_eq_true rfl, Nat.le_of_ble_eq_true rfl⟩) 0 rfl rfl rfl rfl (Nat.le_of_ble_eq_true rfl) std_S_run_5 ⟨by show _ ≤ 72; omega, by show _ ≤ q; omega⟩ [1, 2, 3, 4, 5, 6, 7, 8, 9, 10, 11, 12, 13, 14, 15, 17] [0, 16, 18, 19, 20, 21, 22] rfl rfl rfl rfl (by decide) (fun r1 u2 h3 => ?_)
  obtain ⟨q4, q5, q6, q7, q8, q9, ST10, GK11, GC12, GD13, GW14, GX15, GB16, CU17, T18⟩ := u2
  dsimp only at h3
  obtain ⟨h3r, h3p⟩ := h3
  subst h3r
  refine g_ws (ws' := [(s0, .inr (0, [.ref t0, .ref y0, .ref f0, .ref n0, .int (iI (bI H))])), (he, .inl (cI, aI 2 fle)), (f0, .inr (3, [.ref t0, .ref y0, .int (iI fo), .ref r1, .ref e1, .int (iI lf), .ref r2, .ref e2])), (r1, .inl (cJ, aL 20 fr1)), (e1, .inl (cI, aI 20 fe1)), (r2, .inl (cJ, aL 20 fr2)), (e2, .inl (cI, aI 20 fe2)), (y0, .inr (2, [.ref t0, .int (iI T18), .ref ys, .ref q4, .ref q5, .ref q6, .ref q7, .ref q8, .ref q9, .ref yu])), (ys, .inl (cI, aI 14 ST10)), (q4, .inl (cI, aI N GK11)), (q5, .inl (cI, aI N GC12)), (q6, .inl (cI, aI N GD13)), (q7, .inl (cJ, aL N GW14)), (q8, .inl (cJ, aL N GX15)), (q9, .inl (cI, aI (6 * N) GB16)), (yu, .inl (cI, aI 6 CU17)), (t0, .inr (1, [.int (iI ((n : Nat) : Int)), .int (iI choices), .int (iI bars), .ref hs, .ref hc, .ref hf, .ref hg, .ref hb, .ref he, .ref hm])), (hs, .inl (cI, aI 12 fsz)), (hc, .inl (cI, aI 72 fco)), (hf, .inl (cI, aI 72 ffu)), (hg, .inl (cI, aI 72 fsu)), (hb, .inl (cI, aI 72 fbb)), (hm, .inl (cI, aI 2 fmo))]) rfl ?_
  refine g_put C (ws' := [(s0, .inr (0, [.ref t0, .ref y0, .ref f0, .ref n0, .int (iI (bI (∀ i : Nat, i ≤ n → cn fsz ffu fsu fbb fmo i ≤ 400)))])), (he, .inl (cI, aI 2 fle)), (f0, .inr (3, [.ref t0, .ref y0, .int (iI fo), .ref r1, .ref e1, .int (iI lf), .ref r2, .ref e2])), (r1, .inl (cJ, aL 20 fr1)), (e1, .inl (cI, aI 20 fe1)), (r2, .inl (cJ, aL 20 fr2)), (e2, .inl (cI, aI 20 fe2)), (y0, .inr (2, [.ref t0, .int (iI T18), .ref ys, .ref q4, .ref q5, .ref q6, .ref q7, .ref q8, .ref q9, .ref yu])), (ys, .inl (cI, aI 14 ST10)), (q4, .inl (cI, aI N GK11)), (q5, .inl (cI, aI N GC12)), (q6, .inl (cI, aI N GD13)), (q7, .inl (cJ, aL N GW14)), (q8, .inl (cJ, aL N GX15)), (q9, .inl (cI, aI (6 * N) GB16)), (yu, .inl (cI, aI 6 CU17)), (t0, .inr (1, [.int (iI ((n : Nat) : Int)), .int (iI choices), .int (iI bars), .ref hs, .ref hc, .ref hf, .ref hg, .ref hb, .ref he, .ref hm])), (hs, .inl (cI, aI 12 fsz)), (hc, .inl (cI, aI 72 fco)), (hf, .inl (cI, aI 72 ffu)), (hg, .inl (cI, aI 72 fsu)), (hb, .inl (cI, aI 72 fbb)), (hm, .inl (cI, aI 2 fmo))]) (st_sub sti_S) stt_S sto_S stn_S 0 rfl rfl 4 (by decide) (List.mem_cons_of_mem _ kw_1_193) rfl rfl (z_bI _) (z_bfit _) (Nat.le_of_ble_eq_true rfl) std_S_run_8 rfl ?_
  refine g_aload_n C 0 std_S_run_11 rfl ?_
  refine g_get C (st_sub sti_S) 0 rfl rfl 4 (by decide) (List.mem_cons_of_mem _ kw_1_193) rfl rfl std_S_run_12 ?_
  refine g_ifne_b (tgt := 21) C std_S_run_15 (by decide) (fun c19 => ?_) (fun c19 => ?_)
  · have hok := c19
    refine g_aload_n C 0 std_S_run_21 rfl ?_
    refine g_get C (st_sub sti_S) 0 rfl rfl 1 (by decide) (List.mem_cons_of_mem _ kw_1_190) rfl rfl std_S_run_22 ?_
    refine g_V_v (wc := [(y0, .inr (2, [.ref t0, .int (iI T18), .ref ys, .ref q4, .ref q5, .ref q6, .ref q7, .ref q8, .ref q9, .ref yu])), (ys, .inl (cI, aI 14 ST10)), (q4, .inl (cI, aI N GK11)), (q6, .inl (cI, aI N GD13)), (q8, .inl (cJ, aL N GX15)), (q9, .inl (cI, aI (6 * N) GB16)), (t0, .inr (1, [.int (iI ((n : Nat) : Int)), .int (iI choices), .int (iI bars), .ref hs, .ref hc, .ref hf, .ref hg, .ref hb, .ref he, .ref hm])), (hs, .inl (cI, aI 12 fsz)), (hc, .inl (cI, aI 72 fco)), (he, .inl (cI, aI 2 fle))]) (wr := [(s0, .inr (0, [.ref t0, .ref y0, .ref f0, .ref n0, .int (iI (bI (∀ i : Nat, i ≤ n → cn fsz ffu fsu fbb fmo i ≤ 400)))])), (f0, .inr (3, [.ref t0, .ref y0, .int (iI fo), .ref r1, .ref e1, .int (iI lf), .ref r2, .ref e2])), (r1, .inl (cJ, aL 20 fr1)), (e1, .inl (cI, aI 20 fe1)), (r2, .inl (cJ, aL 20 fr2)), (e2, .inl (cI, aI 20 fe2)), (q5, .inl (cI, aI N GC12)), (q7, .inl (cJ, aL N GW14)), (yu, .inl (cI, aI 6 CU17)), (hf, .inl (cI, aI 72 ffu)), (hg, .inl (cI, aI 72 fsu)), (hb, .inl (cI, aI 72 fbb)), (hm, .inl (cI, aI 2 fmo))]) (rest := []) C (c_lookBack l dC dI cI cJ cZ y0 ys q4 q5 q6 q7 q8 q9 yu T18 t0 hs hc hf hg hb he hm choices bars N n ST10 GK11 GC12 GD13 GW14 GX15 GB16 fle fsz fco ffu fsu fbb fmo (hNb.2) (h3p.1) (kn) (kT) (kle) ((h3p.2 hok).1) ((h3p.2 hok).2)) (st_cV C kw_2_113 kw_2_110 kw_1_3 kw_2_111 kw_2_112 sth_Y_lookBack ⟨Nat.le_of_ble_eq_true rfl, Nat.le_of_ble_eq_true rfl⟩) 0 rfl rfl rfl rfl (Nat.le_of_ble_eq_true rfl) std_S_run_25 ⟨by show _ ≤ 72; omega, by show _ ≤ q; omega⟩ [7, 8, 9, 11, 13, 14, 16, 17, 18, 1] [0, 2, 3, 4, 5, 6, 10, 12, 15, 19, 20, 21, 22] rfl rfl rfl rfl (by decide) (fun u21 h22 => ?_)
    obtain ⟨GX23, GD24⟩ := u21
    dsimp only at h22
    refine g_ws (ws' := [(s0, .inr (0, [.ref t0, .ref y0, .ref f0, .ref n0, .int (iI (bI (∀ i : Nat, i ≤ n → cn fsz ffu fsu fbb fmo i ≤ 400)))])), (f0, .inr (3, [.ref t0, .ref y0, .int (iI fo), .ref r1, .ref e1, .int (iI lf), .ref r2, .ref e2])), (r1, .inl (cJ, aL 20 fr1)), (e1, .inl (cI, aI 20 fe1)), (r2, .inl (cJ, aL 20 fr2)), (e2, .inl (cI, aI 20 fe2)), (q5, .inl (cI, aI N GC12)), (q7, .inl (cJ, aL N GW14)), (yu, .inl (cI, aI 6 CU17)), (hf, .inl (cI, aI 72 ffu)), (hg, .inl (cI, aI 72 fsu)), (hb, .inl (cI, aI 72 fbb)), (hm, .inl (cI, aI 2 fmo)), (y0, .inr (2, [.ref t0, .int (iI T18), .ref ys, .ref q4, .ref q5, .ref q6, .ref q7, .ref q8, .ref q9, .ref yu])), (ys, .inl (cI, aI 14 ST10)), (q4, .inl (cI, aI N GK11)), (q6, .inl (cI, aI N GD24)), (q8, .inl (cJ, aL N GX23)), (q9, .inl (cI, aI (6 * N) GB16)), (t0, .inr (1, [.int (iI ((n : Nat) : Int)), .int (iI choices), .int (iI bars), .ref hs, .ref hc, .ref hf, .ref hg, .ref hb, .ref he, .ref hm])), (hs, .inl (cI, aI 12 fsz)), (hc, .inl (cI, aI 72 fco)), (he, .inl (cI, aI 2 fle))]) rfl ?_
    refine g_aload_n C 0 std_S_run_28 rfl ?_
    refine g_get C (st_sub sti_S) 0 rfl rfl 2 (by decide) (List.mem_cons_of_mem _ kw_1_191) rfl rfl std_S_run_29 ?_
    refine g_V_v (wc := [(f0, .inr (3, [.ref t0, .ref y0, .int (iI fo), .ref r1, .ref e1, .int (iI lf), .ref r2, .ref e2])), (r1, .inl (cJ, aL 20 fr1)), (e1, .inl (cI, aI 20 fe1)), (r2, .inl (cJ, aL 20 fr2)), (e2, .inl (cI, aI 20 fe2)), (y0, .inr (2, [.ref t0, .int (iI T18), .ref ys, .ref q4, .ref q5, .ref q6, .ref q7, .ref q8, .ref q9, .ref yu])), (q9, .inl (cI, aI (6 * N) GB16)), (q8, .inl (cJ, aL N GX23)), (q6, .inl (cI, aI N GD24)), (t0, .inr (1, [.int (iI ((n : Nat) : Int)), .int (iI choices), .int (iI bars), .ref hs, .ref hc, .ref hf, .ref hg, .ref hb, .ref he, .ref hm])), (hc, .inl (cI, aI 72 fco)), (hs, .inl (cI, aI 12 fsz))]) (wr := [(s0, .inr (0, [.ref t0, .ref y0, .ref f0, .ref n0, .int (iI (bI (∀ i : Nat, i ≤ n → cn fsz ffu fsu fbb fmo i ≤ 400)))])), (q5, .inl (cI, aI N GC12)), (q7, .inl (cJ, aL N GW14)), (yu, .inl (cI, aI 6 CU17)), (hf, .inl (cI, aI 72 ffu)), (hg, .inl (cI, aI 72 fsu)), (hb, .inl (cI, aI 72 fbb)), (hm, .inl (cI, aI 2 fmo)), (ys, .inl (cI, aI 14 ST10)), (q4, .inl (cI, aI N GK11)), (he, .inl (cI, aI 2 fle))]) (rest := []) C (c_find l dC dI cI cJ cZ f0 r1 e1 r2 e2 fo lf y0 ys q4 q5 q6 q7 q8 q9 yu T18 t0 hs hc hf hg hb he hm choices bars N n fr1 fe1 fr2 fe2 ST10 GK11 GW14 GC12 GB16 GX23 GD24 fle fsz fco ffu fsu fbb fmo (hNb.2) (h3p.1) (kn) (hNb.1) (kT) ((h3p.2 hok).1) (h22)) (st_cV C kw_2_125 kw_2_122 kw_1_4 kw_2_123 kw_2_124 sth_F_find ⟨Nat.le_of_ble_eq_true rfl, Nat.le_of_ble_eq_true rfl⟩) 0 rfl rfl rfl rfl (Nat.le_of_ble_eq_true rfl) std_S_run_32 ⟨by show _ ≤ 72; omega, by show _ ≤ q; omega⟩ [1, 2, 3, 4, 5, 13, 18, 17, 16, 19, 21, 20] [0, 6, 7, 8, 9, 10, 11, 12, 14, 15, 22] rfl rfl rfl rfl (by decide) (fun u26 h27 => ?_)
    obtain ⟨q28, q29, q30, q31, FR32, FE33, GR34, GE35, m36, m37⟩ := u26
    dsimp only at h27
    refine g_ws (ws' := [(s0, .inr (0, [.ref t0, .ref y0, .ref f0, .ref n0, .int (iI (bI (∀ i : Nat, i ≤ n → cn fsz ffu fsu fbb fmo i ≤ 400)))])), (q5, .inl (cI, aI N GC12)), (q7, .inl (cJ, aL N GW14)), (yu, .inl (cI, aI 6 CU17)), (hf, .inl (cI, aI 72 ffu)), (hg, .inl (cI, aI 72 fsu)), (hb, .inl (cI, aI 72 fbb)), (hm, .inl (cI, aI 2 fmo)), (ys, .inl (cI, aI 14 ST10)), (q4, .inl (cI, aI N GK11)), (he, .inl (cI, aI 2 fle)), (f0, .inr (3, [.ref t0, .ref y0, .int (iI m36), .ref q28, .ref q29, .int (iI m37), .ref q30, .ref q31])), (q28, .inl (cJ, aL 20 FR32)), (q29, .inl (cI, aI 20 FE33)), (q30, .inl (cJ, aL 20 GR34)), (q31, .inl (cI, aI 20 GE35)), (y0, .inr (2, [.ref t0, .int (iI T18), .ref ys, .ref q4, .ref q5, .ref q6, .ref q7, .ref q8, .ref q9, .ref yu])), (q9, .inl (cI, aI (6 * N) GB16)), (q8, .inl (cJ, aL N GX23)), (q6, .inl (cI, aI N GD24)), (t0, .inr (1, [.int (iI ((n : Nat) : Int)), .int (iI choices), .int (iI bars), .ref hs, .ref hc, .ref hf, .ref hg, .ref hb, .ref he, .ref hm])), (hc, .inl (cI, aI 72 fco)), (hs, .inl (cI, aI 12 fsz))]) rfl ?_
    refine g_aload_n C 0 std_S_run_35 rfl ?_
    refine g_get C (st_sub sti_S) 0 rfl rfl 1 (by decide) (List.mem_cons_of_mem _ kw_1_190) rfl rfl std_S_run_36 ?_
    refine g_get C (st_sub sti_Y) 16 rfl rfl 1 (by decide) (List.mem_cons_of_mem _ kw_1_84) rfl rfl std_S_run_39 ?_
    refine g_sub (ws' := [(s0, .inr (0, [.ref t0, .ref y0, .ref f0, .ref n0, .int (iI (bI (∀ i : Nat, i ≤ n → cn fsz ffu fsu fbb fmo i ≤ 400)))])), (y0, .inr (2, [.ref t0, .int (iI T18), .ref ys, .ref q4, .ref q5, .ref q6, .ref q7, .ref q8, .ref q9, .ref yu])), (ys, .inl (cI, aI 14 ST10)), (q4, .inl (cI, aI N GK11)), (q5, .inl (cI, aI N GC12)), (q6, .inl (cI, aI N GD24)), (q7, .inl (cJ, aL N GW14)), (q8, .inl (cJ, aL N GX23)), (q9, .inl (cI, aI (6 * N) GB16)), (yu, .inl (cI, aI 6 CU17)), (t0, .inr (1, [.int (iI ((n : Nat) : Int)), .int (iI choices), .int (iI bars), .ref hs, .ref hc, .ref hf, .ref hg, .ref hb, .ref he, .ref hm])), (hs, .inl (cI, aI 12 fsz)), (hc, .inl (cI, aI 72 fco)), (hf, .inl (cI, aI 72 ffu)), (hg, .inl (cI, aI 72 fsu)), (hb, .inl (cI, aI 72 fbb)), (he, .inl (cI, aI 2 fle)), (hm, .inl (cI, aI 2 fmo)), (f0, .inr (3, [.ref t0, .ref y0, .int (iI m36), .ref q28, .ref q29, .int (iI m37), .ref q30, .ref q31])), (q28, .inl (cJ, aL 20 FR32)), (q29, .inl (cI, aI 20 FE33)), (q30, .inl (cJ, aL 20 GR34)), (q31, .inl (cI, aI 20 GE35))]) [0, 16, 8, 9, 1, 19, 2, 18, 17, 3, 20, 22, 21, 4, 5, 6, 10, 7, 11, 12, 13, 14, 15] rfl rfl ?_
    refine g_wide (k := 72) (n := q) (by omega) (by omega) ?_
    exact hret _ _ _ (q4, q5, q6, q7, q8, q9, ST10, GK11, GC12, GD24, GW14, GX23, GB16, CU17, T18, q28, q29, q30, q31, FR32, FE33, GR34, GE35, m36, m37) (⟨fun _ => ⟨rfl, (h3p.2 hok).1, (h3p.2 hok).2, h22, h27⟩, fun q => absurd hok q, h3p.1⟩) std_S_run_42
  · have hok := c19
    refine g_ldc C (z := (-3000000)) (List.mem_cons_of_mem _ kw_1_209) (by decide) std_S_run_18 ?_
    refine g_sub (ws' := [(s0, .inr (0, [.ref t0, .ref y0, .ref f0, .ref n0, .int (iI (bI (∀ i : Nat, i ≤ n → cn fsz ffu fsu fbb fmo i ≤ 400)))])), (y0, .inr (2, [.ref t0, .int (iI T18), .ref ys, .ref q4, .ref q5, .ref q6, .ref q7, .ref q8, .ref q9, .ref yu])), (ys, .inl (cI, aI 14 ST10)), (q4, .inl (cI, aI N GK11)), (q5, .inl (cI, aI N GC12)), (q6, .inl (cI, aI N GD13)), (q7, .inl (cJ, aL N GW14)), (q8, .inl (cJ, aL N GX15)), (q9, .inl (cI, aI (6 * N) GB16)), (yu, .inl (cI, aI 6 CU17)), (t0, .inr (1, [.int (iI ((n : Nat) : Int)), .int (iI choices), .int (iI bars), .ref hs, .ref hc, .ref hf, .ref hg, .ref hb, .ref he, .ref hm])), (hs, .inl (cI, aI 12 fsz)), (hc, .inl (cI, aI 72 fco)), (hf, .inl (cI, aI 72 ffu)), (hg, .inl (cI, aI 72 fsu)), (hb, .inl (cI, aI 72 fbb)), (he, .inl (cI, aI 2 fle)), (hm, .inl (cI, aI 2 fmo)), (f0, .inr (3, [.ref t0, .ref y0, .int (iI fo), .ref r1, .ref e1, .int (iI lf), .ref r2, .ref e2])), (r1, .inl (cJ, aL 20 fr1)), (e1, .inl (cI, aI 20 fe1)), (r2, .inl (cJ, aL 20 fr2)), (e2, .inl (cI, aI 20 fe2))]) [0, 7, 8, 9, 10, 11, 12, 13, 14, 15, 16, 17, 18, 19, 20, 21, 1, 22, 2, 3, 4, 5, 6] rfl rfl ?_
    refine g_wide (k := 72) (n := q) (by omega) (by omega) ?_
    exact hret _ _ _ (q4, q5, q6, q7, q8, q9, ST10, GK11, GC12, GD13, GW14, GX15, GB16, CU17, T18, r1, e1, r2, e2, fr1, fe1, fr2, fe2, fo, lf) (⟨fun q => absurd q hok, fun _ => rfl, h3p.1⟩) std_S_run_20
end
