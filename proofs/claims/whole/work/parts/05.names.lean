/-! NAMES: classes, fields, the nest words -/
def stF_S : u_T := fun k => match k with
  | 0 => ("StateTables", "told", "LStateTables$Told;", true)
  | 1 => ("StateTables", "layers", "LStateTables$Layers;", true)
  | 2 => ("StateTables", "firstPlans", "LStateTables$FirstPlans;", true)
  | 3 => ("StateTables", "narrowLayers", "LStateTables$NarrowLayers;", true)
  | _ => ("StateTables", "holds", "Z", false)
def stt_S : Nat → FieldType := fun k => match k with
  | 0 => .object "StateTables$Told"
  | 1 => .object "StateTables$Layers"
  | 2 => .object "StateTables$FirstPlans"
  | 3 => .object "StateTables$NarrowLayers"
  | _ => .boolean
theorem stn_S : ∀ a, a < 5 → ∀ b, b < 5 → a ≠ b → (stF_S a).2.1 ≠ (stF_S b).2.1 := by decide +kernel
theorem sto_S : ∀ k, k < 5 → parseFieldDescriptor (stF_S k).2.2.1 = some (stt_S k) := by decide +kernel
theorem sti_S : ∀ w ∈ u_ws "StateTables" stF_S 5, w ∈ stGW := st_all (by decide +kernel)
def stF_T : u_T := fun k => match k with
  | 0 => ("StateTables$Told", "steps", "I", false)
  | 1 => ("StateTables$Told", "choices", "I", false)
  | 2 => ("StateTables$Told", "bars", "I", false)
  | 3 => ("StateTables$Told", "sizes", "[I", true)
  | 4 => ("StateTables$Told", "costs", "[I", true)
  | 5 => ("StateTables$Told", "firstUses", "[I", true)
  | 6 => ("StateTables$Told", "secondUses", "[I", true)
  | 7 => ("StateTables$Told", "barredBehind", "[I", true)
  | 8 => ("StateTables$Told", "least", "[I", true)
  | _ => ("StateTables$Told", "most", "[I", true)
def stt_T : Nat → FieldType := fun k => match k with
  | 0 => .int
  | 1 => .int
  | 2 => .int
  | 3 => .array .int
  | 4 => .array .int
  | 5 => .array .int
  | 6 => .array .int
  | 7 => .array .int
  | 8 => .array .int
  | _ => .array .int
theorem stn_T : ∀ a, a < 10 → ∀ b, b < 10 → a ≠ b → (stF_T a).2.1 ≠ (stF_T b).2.1 := by decide +kernel
theorem sto_T : ∀ k, k < 10 → parseFieldDescriptor (stF_T k).2.2.1 = some (stt_T k) := by decide +kernel
theorem sti_T : ∀ w ∈ u_ws "StateTables$Told" stF_T 10, w ∈ stGW := st_all (by decide +kernel)
def stF_Y : u_T := fun k => match k with
  | 0 => ("StateTables$Layers", "told", "LStateTables$Told;", true)
  | 1 => ("StateTables$Layers", "total", "I", false)
  | 2 => ("StateTables$Layers", "start", "[I", true)
  | 3 => ("StateTables$Layers", "keys", "[I", false)
  | 4 => ("StateTables$Layers", "costTo", "[I", false)
  | 5 => ("StateTables$Layers", "costFrom", "[I", false)
  | 6 => ("StateTables$Layers", "waysTo", "[J", false)
  | 7 => ("StateTables$Layers", "waysFrom", "[J", false)
  | 8 => ("StateTables$Layers", "behind", "[I", false)
  | _ => ("StateTables$Layers", "cursors", "[I", true)
def stt_Y : Nat → FieldType := fun k => match k with
  | 0 => .object "StateTables$Told"
  | 1 => .int
  | 2 => .array .int
  | 3 => .array .int
  | 4 => .array .int
  | 5 => .array .int
  | 6 => .array .long
  | 7 => .array .long
  | 8 => .array .int
  | _ => .array .int
theorem stn_Y : ∀ a, a < 10 → ∀ b, b < 10 → a ≠ b → (stF_Y a).2.1 ≠ (stF_Y b).2.1 := by decide +kernel
theorem sto_Y : ∀ k, k < 10 → parseFieldDescriptor (stF_Y k).2.2.1 = some (stt_Y k) := by decide +kernel
theorem sti_Y : ∀ w ∈ u_ws "StateTables$Layers" stF_Y 10, w ∈ stGW := st_all (by decide +kernel)
def stF_F : u_T := fun k => match k with
  | 0 => ("StateTables$FirstPlans", "told", "LStateTables$Told;", true)
  | 1 => ("StateTables$FirstPlans", "layers", "LStateTables$Layers;", true)
  | 2 => ("StateTables$FirstPlans", "found", "I", false)
  | 3 => ("StateTables$FirstPlans", "rows", "[J", false)
  | 4 => ("StateTables$FirstPlans", "ends", "[I", false)
  | 5 => ("StateTables$FirstPlans", "longerFound", "I", false)
  | 6 => ("StateTables$FirstPlans", "longerRows", "[J", false)
  | _ => ("StateTables$FirstPlans", "longerEnds", "[I", false)
def stt_F : Nat → FieldType := fun k => match k with
  | 0 => .object "StateTables$Told"
  | 1 => .object "StateTables$Layers"
  | 2 => .int
  | 3 => .array .long
  | 4 => .array .int
  | 5 => .int
  | 6 => .array .long
  | _ => .array .int
theorem stn_F : ∀ a, a < 8 → ∀ b, b < 8 → a ≠ b → (stF_F a).2.1 ≠ (stF_F b).2.1 := by decide +kernel
theorem sto_F : ∀ k, k < 8 → parseFieldDescriptor (stF_F k).2.2.1 = some (stt_F k) := by decide +kernel
theorem sti_F : ∀ w ∈ u_ws "StateTables$FirstPlans" stF_F 8, w ∈ stGW := st_all (by decide +kernel)
def stF_N : u_T := fun k => match k with
  | 0 => ("StateTables$NarrowLayers", "told", "LStateTables$Told;", true)
  | 1 => ("StateTables$NarrowLayers", "lost", "I", false)
  | 2 => ("StateTables$NarrowLayers", "widest", "I", false)
  | 3 => ("StateTables$NarrowLayers", "cuts", "I", false)
  | 4 => ("StateTables$NarrowLayers", "size", "I", false)
  | 5 => ("StateTables$NarrowLayers", "nodes", "[J", false)
  | 6 => ("StateTables$NarrowLayers", "nextSize", "I", false)
  | _ => ("StateTables$NarrowLayers", "nextNodes", "[J", false)
def stt_N : Nat → FieldType := fun k => match k with
  | 0 => .object "StateTables$Told"
  | 1 => .int
  | 2 => .int
  | 3 => .int
  | 4 => .int
  | 5 => .array .long
  | 6 => .int
  | _ => .array .long
theorem stn_N : ∀ a, a < 8 → ∀ b, b < 8 → a ≠ b → (stF_N a).2.1 ≠ (stF_N b).2.1 := by decide +kernel
theorem sto_N : ∀ k, k < 8 → parseFieldDescriptor (stF_N k).2.2.1 = some (stt_N k) := by decide +kernel
theorem sti_N : ∀ w ∈ u_ws "StateTables$NarrowLayers" stF_N 8, w ∈ stGW := st_all (by decide +kernel)
def stF_M : u_T := fun k => match k with
  | 0 => ("StateTablesModel", "thrown", "I", false)
  | 1 => ("StateTablesModel", "steps", "I", false)
  | 2 => ("StateTablesModel", "choices", "[I", true)
  | 3 => ("StateTablesModel", "cost", "[I", true)
  | 4 => ("StateTablesModel", "useA", "[I", true)
  | 5 => ("StateTablesModel", "useB", "[I", true)
  | 6 => ("StateTablesModel", "isBarred", "[Z", true)
  | 7 => ("StateTablesModel", "leastA", "I", false)
  | 8 => ("StateTablesModel", "leastB", "I", false)
  | 9 => ("StateTablesModel", "mostA", "I", false)
  | 10 => ("StateTablesModel", "mostB", "I", false)
  | 11 => ("StateTablesModel", "isLaid", "Z", false)
  | 12 => ("StateTablesModel", "rowsTo", "[J", true)
  | 13 => ("StateTablesModel", "rowsFrom", "[J", true)
  | 14 => ("StateTablesModel", "costTo", "[I", true)
  | 15 => ("StateTablesModel", "costFrom", "[I", true)
  | 16 => ("StateTablesModel", "nodes", "[I", true)
  | 17 => ("StateTablesModel", "nodeAt", "[I", true)
  | 18 => ("StateTablesModel", "numberOf", "[I", true)
  | 19 => ("StateTablesModel", "beginAt", "[I", true)
  | 20 => ("StateTablesModel", "beginCost", "[I", true)
  | 21 => ("StateTablesModel", "beginRow", "[J", true)
  | 22 => ("StateTablesModel", "begun", "I", false)
  | 23 => ("StateTablesModel", "plans", "I", false)
  | 24 => ("StateTablesModel", "planCost", "[I", true)
  | 25 => ("StateTablesModel", "planRow", "[J", true)
  | 26 => ("StateTablesModel", "lowA", "[I", true)
  | 27 => ("StateTablesModel", "lowB", "[I", true)
  | 28 => ("StateTablesModel", "highA", "[I", true)
  | 29 => ("StateTablesModel", "highB", "[I", true)
  | 30 => ("StateTablesModel", "lasts", "[I", true)
  | 31 => ("StateTablesModel", "wideCost", "[I", true)
  | 32 => ("StateTablesModel", "wide", "I", false)
  | 33 => ("StateTablesModel", "merged", "I", false)
  | 34 => ("StateTablesModel", "widest", "I", false)
  | _ => ("StateTablesModel", "wideLayers", "I", false)
def stt_M : Nat → FieldType := fun k => match k with
  | 0 => .int
  | 1 => .int
  | 2 => .array .int
  | 3 => .array .int
  | 4 => .array .int
  | 5 => .array .int
  | 6 => .array .boolean
  | 7 => .int
  | 8 => .int
  | 9 => .int
  | 10 => .int
  | 11 => .boolean
  | 12 => .array .long
  | 13 => .array .long
  | 14 => .array .int
  | 15 => .array .int
  | 16 => .array .int
  | 17 => .array .int
  | 18 => .array .int
  | 19 => .array .int
  | 20 => .array .int
  | 21 => .array .long
  | 22 => .int
  | 23 => .int
  | 24 => .array .int
  | 25 => .array .long
  | 26 => .array .int
  | 27 => .array .int
  | 28 => .array .int
  | 29 => .array .int
  | 30 => .array .int
  | 31 => .array .int
  | 32 => .int
  | 33 => .int
  | 34 => .int
  | _ => .int
theorem stn_M : ∀ a, a < 36 → ∀ b, b < 36 → a ≠ b → (stF_M a).2.1 ≠ (stF_M b).2.1 := by decide +kernel
theorem sto_M : ∀ k, k < 36 → parseFieldDescriptor (stF_M k).2.2.1 = some (stt_M k) := by decide +kernel
theorem sti_M : ∀ w ∈ u_ws "StateTablesModel" stF_M 36, w ∈ stGW := st_all (by decide +kernel)
abbrev stCl : List vw_C := [("StateTables", stF_S, 5), ("StateTables$Told", stF_T, 10), ("StateTables$Layers", stF_Y, 10), ("StateTables$FirstPlans", stF_F, 8), ("StateTables$NarrowLayers", stF_N, 8), ("StateTablesModel", stF_M, 36)]
abbrev st_nw : List Cond := [.methodLinkNest "StateTables" 11 ⟨"StateTables$Told", "<init>", "()V"⟩ "StateTables",
  .methodLinkNest "StateTables$Told" 41 ⟨"StateTables", "placeOf", "(II)I"⟩ "StateTables",
  .methodLinkNest "StateTables$Layers" 56 ⟨"StateTables", "keyOf", "(III)I"⟩ "StateTables",
  .methodLinkNest "StateTables$Layers" 104 ⟨"StateTables", "placeOf", "(II)I"⟩ "StateTables",
  .methodLinkNest "StateTables$Layers" 107 ⟨"StateTables", "lastChoice", "(I)I"⟩ "StateTables",
  .methodLinkNest "StateTables$Layers" 110 ⟨"StateTables", "usedOfFirst", "(I)I"⟩ "StateTables",
  .methodLinkNest "StateTables$Layers" 116 ⟨"StateTables", "usedOfSecond", "(I)I"⟩ "StateTables",
  .methodLinkNest "StateTables$FirstPlans" 75 ⟨"StateTables", "placeOf", "(II)I"⟩ "StateTables",
  .methodLinkNest "StateTables$NarrowLayers" 80 ⟨"StateTables", "placeOf", "(II)I"⟩ "StateTables"]
theorem st_nwok : NWok st_nw := NWok.consM (NWok.consM (NWok.consM (NWok.consM (NWok.consM (NWok.consM (NWok.consM (NWok.consM (NWok.consM (NWok.nil)))))))))
