/-! printed by wip/whole/gen.py out of the Statement: classes, words, methods -/
def TX_0 : u_T := fun k => match k with
  | 0 => ("MoleculeRegistry$Graph", "codes", "[I", true)
  | 1 => ("MoleculeRegistry$Graph", "kinds", "[I", true)
  | 2 => ("MoleculeRegistry$Graph", "near", "[I", true)
  | 3 => ("MoleculeRegistry$Graph", "size", "I", false)
  | _ => ("MoleculeRegistry$Graph", "bondCount", "I", false)
def ty_0 : Nat → FieldType := fun k => match k with
  | 0 => .array .int
  | 1 => .array .int
  | 2 => .array .int
  | 3 => .int
  | _ => .int
theorem nm_0 : ∀ a, a < 5 → ∀ b, b < 5 → a ≠ b → (TX_0 a).2.1 ≠ (TX_0 b).2.1 := by decide +kernel
theorem tk_0 : ∀ k, k < 5 → parseFieldDescriptor (TX_0 k).2.2.1 = some (ty_0 k) := by decide +kernel
def TX_1 : u_T := fun k => match k with
  | 0 => ("MoleculeRegistry$Log", "marked", "Z", false)
  | 1 => ("MoleculeRegistry$Log", "removing", "Z", false)
  | 2 => ("MoleculeRegistry$Log", "id", "I", false)
  | _ => ("MoleculeRegistry$Log", "molecule", "LMoleculeRegistry$Graph;", true)
def ty_1 : Nat → FieldType := fun k => match k with
  | 0 => .boolean
  | 1 => .boolean
  | 2 => .int
  | _ => .object "MoleculeRegistry$Graph"
theorem nm_1 : ∀ a, a < 4 → ∀ b, b < 4 → a ≠ b → (TX_1 a).2.1 ≠ (TX_1 b).2.1 := by decide +kernel
theorem tk_1 : ∀ k, k < 4 → parseFieldDescriptor (TX_1 k).2.2.1 = some (ty_1 k) := by decide +kernel
def TX_2 : u_T := fun k => match k with
  | 0 => ("MoleculeRegistry$Matcher", "choices", "[I", true)
  | _ => ("MoleculeRegistry$Matcher", "places", "[I", true)
def ty_2 : Nat → FieldType := fun k => match k with
  | 0 => .array .int
  | _ => .array .int
theorem nm_2 : ∀ a, a < 2 → ∀ b, b < 2 → a ≠ b → (TX_2 a).2.1 ≠ (TX_2 b).2.1 := by decide +kernel
theorem tk_2 : ∀ k, k < 2 → parseFieldDescriptor (TX_2 k).2.2.1 = some (ty_2 k) := by decide +kernel
def TX_3 : u_T := fun k => match k with
  | 0 => ("MoleculeRegistry$Reader", "text", "[C", true)
  | 1 => ("MoleculeRegistry$Reader", "length", "I", false)
  | 2 => ("MoleculeRegistry$Reader", "position", "I", false)
  | 3 => ("MoleculeRegistry$Reader", "asPattern", "Z", false)
  | 4 => ("MoleculeRegistry$Reader", "codes", "[I", true)
  | 5 => ("MoleculeRegistry$Reader", "written", "[I", true)
  | 6 => ("MoleculeRegistry$Reader", "size", "I", false)
  | 7 => ("MoleculeRegistry$Reader", "bondFirst", "[I", true)
  | 8 => ("MoleculeRegistry$Reader", "bondSecond", "[I", true)
  | 9 => ("MoleculeRegistry$Reader", "bondKind", "[I", true)
  | 10 => ("MoleculeRegistry$Reader", "bondCount", "I", false)
  | 11 => ("MoleculeRegistry$Reader", "openAtom", "[I", true)
  | 12 => ("MoleculeRegistry$Reader", "openLink", "[I", true)
  | 13 => ("MoleculeRegistry$Reader", "branches", "[I", true)
  | _ => ("MoleculeRegistry$Reader", "depth", "I", false)
def ty_3 : Nat → FieldType := fun k => match k with
  | 0 => .array .char
  | 1 => .int
  | 2 => .int
  | 3 => .boolean
  | 4 => .array .int
  | 5 => .array .int
  | 6 => .int
  | 7 => .array .int
  | 8 => .array .int
  | 9 => .array .int
  | 10 => .int
  | 11 => .array .int
  | 12 => .array .int
  | 13 => .array .int
  | _ => .int
theorem nm_3 : ∀ a, a < 15 → ∀ b, b < 15 → a ≠ b → (TX_3 a).2.1 ≠ (TX_3 b).2.1 := by decide +kernel
theorem tk_3 : ∀ k, k < 15 → parseFieldDescriptor (TX_3 k).2.2.1 = some (ty_3 k) := by decide +kernel
def TX_4 : u_T := fun k => match k with
  | 0 => ("MoleculeRegistry$Shelf", "molecules", "[LMoleculeRegistry$Graph;", true)
  | 1 => ("MoleculeRegistry$Shelf", "ids", "[I", true)
  | 2 => ("MoleculeRegistry$Shelf", "size", "I", false)
  | _ => ("MoleculeRegistry$Shelf", "lastId", "I", false)
def ty_4 : Nat → FieldType := fun k => match k with
  | 0 => .array (.object "MoleculeRegistry$Graph")
  | 1 => .array .int
  | 2 => .int
  | _ => .int
theorem nm_4 : ∀ a, a < 4 → ∀ b, b < 4 → a ≠ b → (TX_4 a).2.1 ≠ (TX_4 b).2.1 := by decide +kernel
theorem tk_4 : ∀ k, k < 4 → parseFieldDescriptor (TX_4 k).2.2.1 = some (ty_4 k) := by decide +kernel
def TX_5 : u_T := fun k => match k with
  | 0 => ("MoleculeRegistry", "buffer", "[C", true)
  | 1 => ("MoleculeRegistry", "typed", "I", false)
  | 2 => ("MoleculeRegistry", "reader", "LMoleculeRegistry$Reader;", true)
  | 3 => ("MoleculeRegistry", "read", "LMoleculeRegistry$Graph;", true)
  | 4 => ("MoleculeRegistry", "matcher", "LMoleculeRegistry$Matcher;", true)
  | 5 => ("MoleculeRegistry", "shelf", "LMoleculeRegistry$Shelf;", true)
  | 6 => ("MoleculeRegistry", "log", "LMoleculeRegistry$Log;", true)
  | 7 => ("MoleculeRegistry", "hits", "[I", true)
  | 8 => ("MoleculeRegistry", "hitCount", "I", false)
  | 9 => ("MoleculeRegistry", "toldFailure", "I", false)
  | _ => ("MoleculeRegistry", "down", "Z", false)
def ty_5 : Nat → FieldType := fun k => match k with
  | 0 => .array .char
  | 1 => .int
  | 2 => .object "MoleculeRegistry$Reader"
  | 3 => .object "MoleculeRegistry$Graph"
  | 4 => .object "MoleculeRegistry$Matcher"
  | 5 => .object "MoleculeRegistry$Shelf"
  | 6 => .object "MoleculeRegistry$Log"
  | 7 => .array .int
  | 8 => .int
  | 9 => .int
  | _ => .boolean
theorem nm_5 : ∀ a, a < 11 → ∀ b, b < 11 → a ≠ b → (TX_5 a).2.1 ≠ (TX_5 b).2.1 := by decide +kernel
theorem tk_5 : ∀ k, k < 11 → parseFieldDescriptor (TX_5 k).2.2.1 = some (ty_5 k) := by decide +kernel
def TX_6 : u_T := fun k => match k with
  | 0 => ("MoleculeRegistryModel", "thrown", "I", false)
  | 1 => ("MoleculeRegistryModel", "size", "I", false)
  | 2 => ("MoleculeRegistryModel", "buf", "[I", true)
  | 3 => ("MoleculeRegistryModel", "at", "I", false)
  | 4 => ("MoleculeRegistryModel", "many", "I", false)
  | 5 => ("MoleculeRegistryModel", "element", "[I", true)
  | 6 => ("MoleculeRegistryModel", "aromatic", "[Z", true)
  | 7 => ("MoleculeRegistryModel", "hydrogens", "[I", true)
  | 8 => ("MoleculeRegistryModel", "charge", "[I", true)
  | 9 => ("MoleculeRegistryModel", "bracket", "[Z", true)
  | 10 => ("MoleculeRegistryModel", "list", "[I", true)
  | 11 => ("MoleculeRegistryModel", "bonds", "[I", true)
  | 12 => ("MoleculeRegistryModel", "back", "[I", true)
  | 13 => ("MoleculeRegistryModel", "opener", "[I", true)
  | 14 => ("MoleculeRegistryModel", "openLink", "[I", true)
  | 15 => ("MoleculeRegistryModel", "good", "Z", false)
  | 16 => ("MoleculeRegistryModel", "count", "I", false)
  | 17 => ("MoleculeRegistryModel", "lastId", "I", false)
  | 18 => ("MoleculeRegistryModel", "ids", "[I", true)
  | 19 => ("MoleculeRegistryModel", "sizes", "[I", true)
  | 20 => ("MoleculeRegistryModel", "elements", "[I", true)
  | 21 => ("MoleculeRegistryModel", "aromatics", "[Z", true)
  | 22 => ("MoleculeRegistryModel", "hydrogenCounts", "[I", true)
  | 23 => ("MoleculeRegistryModel", "charges", "[I", true)
  | 24 => ("MoleculeRegistryModel", "allBonds", "[I", true)
  | 25 => ("MoleculeRegistryModel", "put", "[I", true)
  | 26 => ("MoleculeRegistryModel", "taken", "[Z", true)
  | 27 => ("MoleculeRegistryModel", "failure", "I", false)
  | 28 => ("MoleculeRegistryModel", "down", "Z", false)
  | 29 => ("MoleculeRegistryModel", "logged", "I", false)
  | 30 => ("MoleculeRegistryModel", "loggedId", "I", false)
  | 31 => ("MoleculeRegistryModel", "done", "Z", false)
  | 32 => ("MoleculeRegistryModel", "storeSize", "I", false)
  | 33 => ("MoleculeRegistryModel", "storeElement", "[I", true)
  | 34 => ("MoleculeRegistryModel", "storeAromatic", "[Z", true)
  | 35 => ("MoleculeRegistryModel", "storeHydrogens", "[I", true)
  | 36 => ("MoleculeRegistryModel", "storeCharge", "[I", true)
  | 37 => ("MoleculeRegistryModel", "storeBonds", "[I", true)
  | 38 => ("MoleculeRegistryModel", "finds", "I", false)
  | _ => ("MoleculeRegistryModel", "foundIds", "[I", true)
def ty_6 : Nat → FieldType := fun k => match k with
  | 0 => .int
  | 1 => .int
  | 2 => .array .int
  | 3 => .int
  | 4 => .int
  | 5 => .array .int
  | 6 => .array .boolean
  | 7 => .array .int
  | 8 => .array .int
  | 9 => .array .boolean
  | 10 => .array .int
  | 11 => .array .int
  | 12 => .array .int
  | 13 => .array .int
  | 14 => .array .int
  | 15 => .boolean
  | 16 => .int
  | 17 => .int
  | 18 => .array .int
  | 19 => .array .int
  | 20 => .array .int
  | 21 => .array .boolean
  | 22 => .array .int
  | 23 => .array .int
  | 24 => .array .int
  | 25 => .array .int
  | 26 => .array .boolean
  | 27 => .int
  | 28 => .boolean
  | 29 => .int
  | 30 => .int
  | 31 => .boolean
  | 32 => .int
  | 33 => .array .int
  | 34 => .array .boolean
  | 35 => .array .int
  | 36 => .array .int
  | 37 => .array .int
  | 38 => .int
  | _ => .array .int
theorem nm_6 : ∀ a, a < 40 → ∀ b, b < 40 → a ≠ b → (TX_6 a).2.1 ≠ (TX_6 b).2.1 := by decide +kernel
theorem tk_6 : ∀ k, k < 40 → parseFieldDescriptor (TX_6 k).2.2.1 = some (ty_6 k) := by decide +kernel
def TX_7 : u_T := fun k => match k with
  | _ => ("", "", "", false)
def ty_7 : Nat → FieldType := fun k => match k with
  | _ => .int
theorem nm_7 : ∀ a, a < 0 → ∀ b, b < 0 → a ≠ b → (TX_7 a).2.1 ≠ (TX_7 b).2.1 := by decide +kernel
theorem tk_7 : ∀ k, k < 0 → parseFieldDescriptor (TX_7 k).2.2.1 = some (ty_7 k) := by decide +kernel
def TX_8 : u_T := fun k => match k with
  | _ => ("", "", "", false)
def ty_8 : Nat → FieldType := fun k => match k with
  | _ => .int
theorem nm_8 : ∀ a, a < 0 → ∀ b, b < 0 → a ≠ b → (TX_8 a).2.1 ≠ (TX_8 b).2.1 := by decide +kernel
theorem tk_8 : ∀ k, k < 0 → parseFieldDescriptor (TX_8 k).2.2.1 = some (ty_8 k) := by decide +kernel
def TX_9 : u_T := fun k => match k with
  | _ => ("", "", "", false)
def ty_9 : Nat → FieldType := fun k => match k with
  | _ => .int
theorem nm_9 : ∀ a, a < 0 → ∀ b, b < 0 → a ≠ b → (TX_9 a).2.1 ≠ (TX_9 b).2.1 := by decide +kernel
theorem tk_9 : ∀ k, k < 0 → parseFieldDescriptor (TX_9 k).2.2.1 = some (ty_9 k) := by decide +kernel
def TX_10 : u_T := fun k => match k with
  | _ => ("", "", "", false)
def ty_10 : Nat → FieldType := fun k => match k with
  | _ => .int
theorem nm_10 : ∀ a, a < 0 → ∀ b, b < 0 → a ≠ b → (TX_10 a).2.1 ≠ (TX_10 b).2.1 := by decide +kernel
theorem tk_10 : ∀ k, k < 0 → parseFieldDescriptor (TX_10 k).2.2.1 = some (ty_10 k) := by decide +kernel
def TX_11 : u_T := fun k => match k with
  | _ => ("", "", "", false)
def ty_11 : Nat → FieldType := fun k => match k with
  | _ => .int
theorem nm_11 : ∀ a, a < 0 → ∀ b, b < 0 → a ≠ b → (TX_11 a).2.1 ≠ (TX_11 b).2.1 := by decide +kernel
theorem tk_11 : ∀ k, k < 0 → parseFieldDescriptor (TX_11 k).2.2.1 = some (ty_11 k) := by decide +kernel
def jx_cls : List vw_C := [("MoleculeRegistry$Graph", TX_0, 5), ("MoleculeRegistry$Log", TX_1, 4), ("MoleculeRegistry$Matcher", TX_2, 2), ("MoleculeRegistry$Reader", TX_3, 15), ("MoleculeRegistry$Shelf", TX_4, 4), ("MoleculeRegistry", TX_5, 11), ("MoleculeRegistryModel", TX_6, 40), ("java/lang/IllegalStateException", TX_7, 0), ("java/lang/IllegalArgumentException", TX_8, 0), ("java/lang/UnsupportedOperationException", TX_9, 0), ("java/lang/ArithmeticException", TX_10, 0), ("java/lang/IndexOutOfBoundsException", TX_11, 0)]
def V_0 : List Cond := [.classLink "MoleculeRegistryLaw" 8 "MoleculeRegistry",
  .instantiable "MoleculeRegistry" 11,
  .initialized "MoleculeRegistry",
  .methodLink "MoleculeRegistryLaw" 33 ⟨"MoleculeRegistry", "<init>", "()V"⟩,
  .code ⟨"MoleculeRegistry", "<init>", "()V"⟩ prog_1_method_1_code 1 none,
  .instanceMethod ⟨"MoleculeRegistry", "<init>", "()V"⟩,
  .classLink "MoleculeRegistryLaw" 34 "MoleculeRegistryModel",
  .instantiable "MoleculeRegistryModel" 40,
  .initialized "MoleculeRegistryModel",
  .methodLink "MoleculeRegistryLaw" 36 ⟨"MoleculeRegistryModel", "<init>", "()V"⟩,
  .code ⟨"MoleculeRegistryModel", "<init>", "()V"⟩ prog_9_method_1_code 1 none,
  .instanceMethod ⟨"MoleculeRegistryModel", "<init>", "()V"⟩,
  .arrayClass .long,
  .constantLong "MoleculeRegistryLaw" 37 4294967295,
  .methodLink "MoleculeRegistryLaw" 39 ⟨"MoleculeRegistry", "type", "(J)Z"⟩,
  .instanceMethod ⟨"MoleculeRegistry", "type", "(J)Z"⟩,
  .selects "MoleculeRegistry" ⟨"MoleculeRegistry", "type", "(J)Z"⟩ ⟨"MoleculeRegistry", "type", "(J)Z"⟩,
  .methodLink "MoleculeRegistryLaw" 43 ⟨"MoleculeRegistryModel", "type", "(J)Z"⟩,
  .instanceMethod ⟨"MoleculeRegistryModel", "type", "(J)Z"⟩,
  .selects "MoleculeRegistryModel" ⟨"MoleculeRegistryModel", "type", "(J)Z"⟩ ⟨"MoleculeRegistryModel", "type", "(J)Z"⟩,
  .methodLink "MoleculeRegistryLaw" 44 ⟨"MoleculeRegistry", "wipe", "()V"⟩,
  .instanceMethod ⟨"MoleculeRegistry", "wipe", "()V"⟩,
  .selects "MoleculeRegistry" ⟨"MoleculeRegistry", "wipe", "()V"⟩ ⟨"MoleculeRegistry", "wipe", "()V"⟩,
  .methodLink "MoleculeRegistryLaw" 47 ⟨"MoleculeRegistryModel", "wipe", "()V"⟩,
  .instanceMethod ⟨"MoleculeRegistryModel", "wipe", "()V"⟩,
  .selects "MoleculeRegistryModel" ⟨"MoleculeRegistryModel", "wipe", "()V"⟩ ⟨"MoleculeRegistryModel", "wipe", "()V"⟩,
  .methodLink "MoleculeRegistryLaw" 48 ⟨"MoleculeRegistryLaw", "register", "(LMoleculeRegistry;[J)I"⟩,
  .static ⟨"MoleculeRegistryLaw", "register", "(LMoleculeRegistry;[J)I"⟩,
  .initialized "MoleculeRegistryLaw",
  .methodLink "MoleculeRegistryLaw" 53 ⟨"MoleculeRegistryModel", "register", "()I"⟩,
  .instanceMethod ⟨"MoleculeRegistryModel", "register", "()I"⟩,
  .selects "MoleculeRegistryModel" ⟨"MoleculeRegistryModel", "register", "()I"⟩ ⟨"MoleculeRegistryModel", "register", "()I"⟩,
  .methodLink "MoleculeRegistryLaw" 54 ⟨"MoleculeRegistryModel", "thrown", "()I"⟩,
  .instanceMethod ⟨"MoleculeRegistryModel", "thrown", "()I"⟩,
  .selects "MoleculeRegistryModel" ⟨"MoleculeRegistryModel", "thrown", "()I"⟩ ⟨"MoleculeRegistryModel", "thrown", "()I"⟩,
  .methodLink "MoleculeRegistryLaw" 57 ⟨"MoleculeRegistryLaw", "lookup", "(LMoleculeRegistry;[J)I"⟩,
  .static ⟨"MoleculeRegistryLaw", "lookup", "(LMoleculeRegistry;[J)I"⟩,
  .methodLink "MoleculeRegistryLaw" 59 ⟨"MoleculeRegistryModel", "lookup", "()I"⟩,
  .instanceMethod ⟨"MoleculeRegistryModel", "lookup", "()I"⟩,
  .selects "MoleculeRegistryModel" ⟨"MoleculeRegistryModel", "lookup", "()I"⟩ ⟨"MoleculeRegistryModel", "lookup", "()I"⟩]
def V_1 : List Cond := [.methodLink "MoleculeRegistryLaw" 60 ⟨"MoleculeRegistryLaw", "search", "(LMoleculeRegistry;[J)I"⟩,
  .static ⟨"MoleculeRegistryLaw", "search", "(LMoleculeRegistry;[J)I"⟩,
  .methodLink "MoleculeRegistryLaw" 62 ⟨"MoleculeRegistryModel", "search", "()I"⟩,
  .instanceMethod ⟨"MoleculeRegistryModel", "search", "()I"⟩,
  .selects "MoleculeRegistryModel" ⟨"MoleculeRegistryModel", "search", "()I"⟩ ⟨"MoleculeRegistryModel", "search", "()I"⟩,
  .methodLink "MoleculeRegistryLaw" 63 ⟨"MoleculeRegistry", "found", "(I)I"⟩,
  .instanceMethod ⟨"MoleculeRegistry", "found", "(I)I"⟩,
  .selects "MoleculeRegistry" ⟨"MoleculeRegistry", "found", "(I)I"⟩ ⟨"MoleculeRegistry", "found", "(I)I"⟩,
  .methodLink "MoleculeRegistryLaw" 66 ⟨"MoleculeRegistryModel", "found", "(I)I"⟩,
  .instanceMethod ⟨"MoleculeRegistryModel", "found", "(I)I"⟩,
  .selects "MoleculeRegistryModel" ⟨"MoleculeRegistryModel", "found", "(I)I"⟩ ⟨"MoleculeRegistryModel", "found", "(I)I"⟩,
  .methodLink "MoleculeRegistryLaw" 67 ⟨"MoleculeRegistryLaw", "remove", "(LMoleculeRegistry;I[J)I"⟩,
  .static ⟨"MoleculeRegistryLaw", "remove", "(LMoleculeRegistry;I[J)I"⟩,
  .methodLink "MoleculeRegistryLaw" 70 ⟨"MoleculeRegistryModel", "remove", "(I)I"⟩,
  .instanceMethod ⟨"MoleculeRegistryModel", "remove", "(I)I"⟩,
  .selects "MoleculeRegistryModel" ⟨"MoleculeRegistryModel", "remove", "(I)I"⟩ ⟨"MoleculeRegistryModel", "remove", "(I)I"⟩,
  .methodLink "MoleculeRegistryLaw" 71 ⟨"MoleculeRegistry", "fail", "(I)Z"⟩,
  .instanceMethod ⟨"MoleculeRegistry", "fail", "(I)Z"⟩,
  .selects "MoleculeRegistry" ⟨"MoleculeRegistry", "fail", "(I)Z"⟩ ⟨"MoleculeRegistry", "fail", "(I)Z"⟩,
  .methodLink "MoleculeRegistryLaw" 75 ⟨"MoleculeRegistryModel", "fail", "(I)Z"⟩,
  .instanceMethod ⟨"MoleculeRegistryModel", "fail", "(I)Z"⟩,
  .selects "MoleculeRegistryModel" ⟨"MoleculeRegistryModel", "fail", "(I)Z"⟩ ⟨"MoleculeRegistryModel", "fail", "(I)Z"⟩,
  .methodLink "MoleculeRegistryLaw" 76 ⟨"MoleculeRegistry", "recover", "()I"⟩,
  .instanceMethod ⟨"MoleculeRegistry", "recover", "()I"⟩,
  .selects "MoleculeRegistry" ⟨"MoleculeRegistry", "recover", "()I"⟩ ⟨"MoleculeRegistry", "recover", "()I"⟩,
  .methodLink "MoleculeRegistryLaw" 79 ⟨"MoleculeRegistryModel", "recover", "()I"⟩,
  .instanceMethod ⟨"MoleculeRegistryModel", "recover", "()I"⟩,
  .selects "MoleculeRegistryModel" ⟨"MoleculeRegistryModel", "recover", "()I"⟩ ⟨"MoleculeRegistryModel", "recover", "()I"⟩,
  .methodLink "MoleculeRegistryLaw" 80 ⟨"MoleculeRegistry", "count", "()I"⟩,
  .instanceMethod ⟨"MoleculeRegistry", "count", "()I"⟩,
  .selects "MoleculeRegistry" ⟨"MoleculeRegistry", "count", "()I"⟩ ⟨"MoleculeRegistry", "count", "()I"⟩,
  .methodLink "MoleculeRegistryLaw" 83 ⟨"MoleculeRegistryModel", "count", "()I"⟩,
  .instanceMethod ⟨"MoleculeRegistryModel", "count", "()I"⟩,
  .selects "MoleculeRegistryModel" ⟨"MoleculeRegistryModel", "count", "()I"⟩ ⟨"MoleculeRegistryModel", "count", "()I"⟩,
  .methodLink "MoleculeRegistryLaw" 84 ⟨"MoleculeRegistry", "atoms", "(I)I"⟩,
  .instanceMethod ⟨"MoleculeRegistry", "atoms", "(I)I"⟩,
  .selects "MoleculeRegistry" ⟨"MoleculeRegistry", "atoms", "(I)I"⟩ ⟨"MoleculeRegistry", "atoms", "(I)I"⟩,
  .methodLink "MoleculeRegistryLaw" 87 ⟨"MoleculeRegistryModel", "atoms", "(I)I"⟩,
  .instanceMethod ⟨"MoleculeRegistryModel", "atoms", "(I)I"⟩,
  .selects "MoleculeRegistryModel" ⟨"MoleculeRegistryModel", "atoms", "(I)I"⟩ ⟨"MoleculeRegistryModel", "atoms", "(I)I"⟩]
def V_2 : List Cond := [.methodLink "MoleculeRegistryLaw" 88 ⟨"MoleculeRegistry", "atom", "(II)I"⟩,
  .instanceMethod ⟨"MoleculeRegistry", "atom", "(II)I"⟩,
  .selects "MoleculeRegistry" ⟨"MoleculeRegistry", "atom", "(II)I"⟩ ⟨"MoleculeRegistry", "atom", "(II)I"⟩,
  .methodLink "MoleculeRegistryLaw" 92 ⟨"MoleculeRegistryModel", "atom", "(II)I"⟩,
  .instanceMethod ⟨"MoleculeRegistryModel", "atom", "(II)I"⟩,
  .selects "MoleculeRegistryModel" ⟨"MoleculeRegistryModel", "atom", "(II)I"⟩ ⟨"MoleculeRegistryModel", "atom", "(II)I"⟩,
  .methodLink "MoleculeRegistryLaw" 93 ⟨"MoleculeRegistry", "bond", "(III)I"⟩,
  .instanceMethod ⟨"MoleculeRegistry", "bond", "(III)I"⟩,
  .selects "MoleculeRegistry" ⟨"MoleculeRegistry", "bond", "(III)I"⟩ ⟨"MoleculeRegistry", "bond", "(III)I"⟩,
  .methodLink "MoleculeRegistryLaw" 97 ⟨"MoleculeRegistryModel", "bond", "(III)I"⟩,
  .instanceMethod ⟨"MoleculeRegistryModel", "bond", "(III)I"⟩,
  .selects "MoleculeRegistryModel" ⟨"MoleculeRegistryModel", "bond", "(III)I"⟩ ⟨"MoleculeRegistryModel", "bond", "(III)I"⟩,
  .methodLink "MoleculeRegistry$Graph" 3 ⟨"java/lang/Object", "<init>", "()V"⟩,
  .instanceMethod ⟨"java/lang/Object", "<init>", "()V"⟩,
  .code ⟨"java/lang/Object", "<init>", "()V"⟩ object_method_1_code 1 none,
  .arrayClass .int,
  .fieldLink "MoleculeRegistry$Graph" 9 "MoleculeRegistry$Graph" "codes" "[I",
  .fieldLink "MoleculeRegistry$Graph" 15 "MoleculeRegistry$Graph" "kinds" "[I",
  .fieldLink "MoleculeRegistry$Graph" 18 "MoleculeRegistry$Graph" "near" "[I",
  .methodLink "MoleculeRegistry$Graph" 34 ⟨"java/lang/System", "arraycopy", "(Ljava/lang/Object;ILjava/lang/Object;II)V"⟩,
  .native ⟨"java/lang/System", "arraycopy", "(Ljava/lang/Object;ILjava/lang/Object;II)V"⟩,
  .static ⟨"java/lang/System", "arraycopy", "(Ljava/lang/Object;ILjava/lang/Object;II)V"⟩,
  .initialized "java/lang/System",
  .fieldLink "MoleculeRegistry$Graph" 27 "MoleculeRegistry$Graph" "size" "I",
  .fieldLink "MoleculeRegistry$Graph" 31 "MoleculeRegistry$Graph" "bondCount" "I",
  .methodLink "MoleculeRegistry$Graph" 21 ⟨"java/util/Arrays", "fill", "([II)V"⟩,
  .static ⟨"java/util/Arrays", "fill", "([II)V"⟩,
  .initialized "java/util/Arrays",
  .methodLink "MoleculeRegistry$Graph" 40 ⟨"MoleculeRegistry$Graph", "has", "(I)Z"⟩,
  .instanceMethod ⟨"MoleculeRegistry$Graph", "has", "(I)Z"⟩,
  .selects "MoleculeRegistry$Graph" ⟨"MoleculeRegistry$Graph", "has", "(I)Z"⟩ ⟨"MoleculeRegistry$Graph", "has", "(I)Z"⟩,
  .methodLink "MoleculeRegistry$Graph" 44 ⟨"MoleculeRegistry$Graph", "joinOneWay", "(III)V"⟩,
  .instanceMethod ⟨"MoleculeRegistry$Graph", "joinOneWay", "(III)V"⟩,
  .selects "MoleculeRegistry$Graph" ⟨"MoleculeRegistry$Graph", "joinOneWay", "(III)V"⟩ ⟨"MoleculeRegistry$Graph", "joinOneWay", "(III)V"⟩,
  .methodLink "MoleculeRegistry$Graph" 48 ⟨"java/lang/Integer", "bitCount", "(I)I"⟩,
  .static ⟨"java/lang/Integer", "bitCount", "(I)I"⟩,
  .initialized "java/lang/Integer",
  .methodLink "MoleculeRegistry$Log" 1 ⟨"java/lang/Object", "<init>", "()V"⟩,
  .classLink "MoleculeRegistry$Log" 7 "MoleculeRegistry$Graph",
  .instantiable "MoleculeRegistry$Graph" 5]
def V_3 : List Cond := [.initialized "MoleculeRegistry$Graph",
  .methodLinkNest "MoleculeRegistry$Log" 9 ⟨"MoleculeRegistry$Graph", "<init>", "()V"⟩ "MoleculeRegistry",
  .code ⟨"MoleculeRegistry$Graph", "<init>", "()V"⟩ prog_3_method_1_code 1 none,
  .instanceMethod ⟨"MoleculeRegistry$Graph", "<init>", "()V"⟩,
  .fieldLink "MoleculeRegistry$Log" 10 "MoleculeRegistry$Log" "molecule" "LMoleculeRegistry$Graph;",
  .fieldLink "MoleculeRegistry$Log" 28 "MoleculeRegistry$Log" "marked" "Z",
  .fieldLink "MoleculeRegistry$Log" 16 "MoleculeRegistry$Log" "removing" "Z",
  .fieldLink "MoleculeRegistry$Log" 20 "MoleculeRegistry$Log" "id" "I",
  .methodLink "MoleculeRegistry$Log" 24 ⟨"MoleculeRegistry$Graph", "copyFrom", "(LMoleculeRegistry$Graph;)V"⟩,
  .instanceMethod ⟨"MoleculeRegistry$Graph", "copyFrom", "(LMoleculeRegistry$Graph;)V"⟩,
  .selects "MoleculeRegistry$Graph" ⟨"MoleculeRegistry$Graph", "copyFrom", "(LMoleculeRegistry$Graph;)V"⟩ ⟨"MoleculeRegistry$Graph", "copyFrom", "(LMoleculeRegistry$Graph;)V"⟩,
  .methodLink "MoleculeRegistry$Matcher" 3 ⟨"java/lang/Object", "<init>", "()V"⟩,
  .fieldLink "MoleculeRegistry$Matcher" 9 "MoleculeRegistry$Matcher" "choices" "[I",
  .fieldLink "MoleculeRegistry$Matcher" 15 "MoleculeRegistry$Matcher" "places" "[I",
  .fieldLinkNest "MoleculeRegistry$Matcher" 18 "MoleculeRegistry$Graph" "size" "I" "MoleculeRegistry",
  .fieldLinkNest "MoleculeRegistry$Matcher" 24 "MoleculeRegistry$Graph" "bondCount" "I" "MoleculeRegistry",
  .methodLink "MoleculeRegistry$Matcher" 27 ⟨"MoleculeRegistry$Matcher", "findChoices", "(LMoleculeRegistry$Graph;LMoleculeRegistry$Graph;I)Z"⟩,
  .instanceMethod ⟨"MoleculeRegistry$Matcher", "findChoices", "(LMoleculeRegistry$Graph;LMoleculeRegistry$Graph;I)Z"⟩,
  .selects "MoleculeRegistry$Matcher" ⟨"MoleculeRegistry$Matcher", "findChoices", "(LMoleculeRegistry$Graph;LMoleculeRegistry$Graph;I)Z"⟩ ⟨"MoleculeRegistry$Matcher", "findChoices", "(LMoleculeRegistry$Graph;LMoleculeRegistry$Graph;I)Z"⟩,
  .methodLink "MoleculeRegistry$Matcher" 31 ⟨"MoleculeRegistry$Matcher", "everyAtom", "(LMoleculeRegistry$Graph;)I"⟩,
  .static ⟨"MoleculeRegistry$Matcher", "everyAtom", "(LMoleculeRegistry$Graph;)I"⟩,
  .initialized "MoleculeRegistry$Matcher",
  .methodLink "MoleculeRegistry$Matcher" 35 ⟨"MoleculeRegistry$Matcher", "canPlace", "(LMoleculeRegistry$Graph;LMoleculeRegistry$Graph;II)Z"⟩,
  .instanceMethod ⟨"MoleculeRegistry$Matcher", "canPlace", "(LMoleculeRegistry$Graph;LMoleculeRegistry$Graph;II)Z"⟩,
  .selects "MoleculeRegistry$Matcher" ⟨"MoleculeRegistry$Matcher", "canPlace", "(LMoleculeRegistry$Graph;LMoleculeRegistry$Graph;II)Z"⟩ ⟨"MoleculeRegistry$Matcher", "canPlace", "(LMoleculeRegistry$Graph;LMoleculeRegistry$Graph;II)Z"⟩,
  .fieldLinkNest "MoleculeRegistry$Matcher" 39 "MoleculeRegistry$Graph" "codes" "[I" "MoleculeRegistry",
  .methodLink "MoleculeRegistry$Matcher" 42 ⟨"MoleculeRegistry$Matcher", "fits", "(II)Z"⟩,
  .static ⟨"MoleculeRegistry$Matcher", "fits", "(II)Z"⟩,
  .methodLink "MoleculeRegistry$Matcher" 46 ⟨"MoleculeRegistry$Matcher", "hasBondsFor", "(LMoleculeRegistry$Graph;ILMoleculeRegistry$Graph;I)Z"⟩,
  .static ⟨"MoleculeRegistry$Matcher", "hasBondsFor", "(LMoleculeRegistry$Graph;ILMoleculeRegistry$Graph;I)Z"⟩,
  .methodLink "MoleculeRegistry$Matcher" 52 ⟨"java/lang/String", "indexOf", "(I)I"⟩,
  .instanceMethod ⟨"java/lang/String", "indexOf", "(I)I"⟩,
  .selects "java/lang/String" ⟨"java/lang/String", "indexOf", "(I)I"⟩ ⟨"java/lang/String", "indexOf", "(I)I"⟩,
  .methodLink "MoleculeRegistry$Matcher" 58 ⟨"MoleculeRegistry$Graph", "degree", "(II)I"⟩,
  .instanceMethod ⟨"MoleculeRegistry$Graph", "degree", "(II)I"⟩,
  .selects "MoleculeRegistry$Graph" ⟨"MoleculeRegistry$Graph", "degree", "(II)I"⟩ ⟨"MoleculeRegistry$Graph", "degree", "(II)I"⟩,
  .methodLink "MoleculeRegistry$Matcher" 62 ⟨"MoleculeRegistry$Graph", "kindBetween", "(II)I"⟩,
  .instanceMethod ⟨"MoleculeRegistry$Graph", "kindBetween", "(II)I"⟩,
  .selects "MoleculeRegistry$Graph" ⟨"MoleculeRegistry$Graph", "kindBetween", "(II)I"⟩ ⟨"MoleculeRegistry$Graph", "kindBetween", "(II)I"⟩,
  .methodLink "MoleculeRegistry$Matcher" 65 ⟨"MoleculeRegistry$Graph", "boundTo", "(II)I"⟩]
def V_4 : List Cond := [.instanceMethod ⟨"MoleculeRegistry$Graph", "boundTo", "(II)I"⟩,
  .selects "MoleculeRegistry$Graph" ⟨"MoleculeRegistry$Graph", "boundTo", "(II)I"⟩ ⟨"MoleculeRegistry$Graph", "boundTo", "(II)I"⟩,
  .methodLink "MoleculeRegistry$Reader" 3 ⟨"java/lang/Object", "<init>", "()V"⟩,
  .arrayClass .char,
  .fieldLink "MoleculeRegistry$Reader" 9 "MoleculeRegistry$Reader" "text" "[C",
  .fieldLink "MoleculeRegistry$Reader" 15 "MoleculeRegistry$Reader" "codes" "[I",
  .fieldLink "MoleculeRegistry$Reader" 19 "MoleculeRegistry$Reader" "written" "[I",
  .fieldLink "MoleculeRegistry$Reader" 22 "MoleculeRegistry$Reader" "bondFirst" "[I",
  .fieldLink "MoleculeRegistry$Reader" 25 "MoleculeRegistry$Reader" "bondSecond" "[I",
  .fieldLink "MoleculeRegistry$Reader" 28 "MoleculeRegistry$Reader" "bondKind" "[I",
  .fieldLink "MoleculeRegistry$Reader" 31 "MoleculeRegistry$Reader" "openAtom" "[I",
  .fieldLink "MoleculeRegistry$Reader" 34 "MoleculeRegistry$Reader" "openLink" "[I",
  .fieldLink "MoleculeRegistry$Reader" 37 "MoleculeRegistry$Reader" "branches" "[I",
  .methodLink "MoleculeRegistry$Reader" 40 ⟨"java/lang/Math", "min", "(II)I"⟩,
  .static ⟨"java/lang/Math", "min", "(II)I"⟩,
  .initialized "java/lang/Math",
  .fieldLink "MoleculeRegistry$Reader" 46 "MoleculeRegistry$Reader" "length" "I",
  .methodLink "MoleculeRegistry$Reader" 50 ⟨"java/lang/System", "arraycopy", "(Ljava/lang/Object;ILjava/lang/Object;II)V"⟩,
  .fieldLink "MoleculeRegistry$Reader" 56 "MoleculeRegistry$Reader" "asPattern" "Z",
  .fieldLink "MoleculeRegistry$Reader" 60 "MoleculeRegistry$Reader" "position" "I",
  .fieldLink "MoleculeRegistry$Reader" 63 "MoleculeRegistry$Reader" "size" "I",
  .fieldLink "MoleculeRegistry$Reader" 66 "MoleculeRegistry$Reader" "bondCount" "I",
  .fieldLink "MoleculeRegistry$Reader" 69 "MoleculeRegistry$Reader" "depth" "I",
  .methodLink "MoleculeRegistry$Reader" 72 ⟨"java/util/Arrays", "fill", "([II)V"⟩,
  .methodLink "MoleculeRegistry$Reader" 91 ⟨"MoleculeRegistry$Reader", "readLink", "()I"⟩,
  .instanceMethod ⟨"MoleculeRegistry$Reader", "readLink", "()I"⟩,
  .selects "MoleculeRegistry$Reader" ⟨"MoleculeRegistry$Reader", "readLink", "()I"⟩ ⟨"MoleculeRegistry$Reader", "readLink", "()I"⟩,
  .methodLink "MoleculeRegistry$Reader" 95 ⟨"MoleculeRegistry$Reader", "readAtom", "()Z"⟩,
  .instanceMethod ⟨"MoleculeRegistry$Reader", "readAtom", "()Z"⟩,
  .selects "MoleculeRegistry$Reader" ⟨"MoleculeRegistry$Reader", "readAtom", "()Z"⟩ ⟨"MoleculeRegistry$Reader", "readAtom", "()Z"⟩,
  .methodLink "MoleculeRegistry$Reader" 99 ⟨"MoleculeRegistry$Reader", "bind", "(III)Z"⟩,
  .instanceMethod ⟨"MoleculeRegistry$Reader", "bind", "(III)Z"⟩,
  .selects "MoleculeRegistry$Reader" ⟨"MoleculeRegistry$Reader", "bind", "(III)Z"⟩ ⟨"MoleculeRegistry$Reader", "bind", "(III)Z"⟩,
  .methodLink "MoleculeRegistry$Reader" 103 ⟨"MoleculeRegistry$Reader", "readClosures", "(I)Z"⟩,
  .instanceMethod ⟨"MoleculeRegistry$Reader", "readClosures", "(I)Z"⟩,
  .selects "MoleculeRegistry$Reader" ⟨"MoleculeRegistry$Reader", "readClosures", "(I)Z"⟩ ⟨"MoleculeRegistry$Reader", "readClosures", "(I)Z"⟩,
  .methodLink "MoleculeRegistry$Reader" 107 ⟨"MoleculeRegistry$Reader", "readPartEnds", "(I)I"⟩,
  .instanceMethod ⟨"MoleculeRegistry$Reader", "readPartEnds", "(I)I"⟩,
  .selects "MoleculeRegistry$Reader" ⟨"MoleculeRegistry$Reader", "readPartEnds", "(I)I"⟩ ⟨"MoleculeRegistry$Reader", "readPartEnds", "(I)I"⟩,
  .methodLink "MoleculeRegistry$Reader" 111 ⟨"MoleculeRegistry$Reader", "readPartStart", "(I)V"⟩]
def V_5 : List Cond := [.instanceMethod ⟨"MoleculeRegistry$Reader", "readPartStart", "(I)V"⟩,
  .selects "MoleculeRegistry$Reader" ⟨"MoleculeRegistry$Reader", "readPartStart", "(I)V"⟩ ⟨"MoleculeRegistry$Reader", "readPartStart", "(I)V"⟩,
  .methodLink "MoleculeRegistry$Reader" 118 ⟨"MoleculeRegistry$Reader", "takes", "(C)Z"⟩,
  .instanceMethod ⟨"MoleculeRegistry$Reader", "takes", "(C)Z"⟩,
  .selects "MoleculeRegistry$Reader" ⟨"MoleculeRegistry$Reader", "takes", "(C)Z"⟩ ⟨"MoleculeRegistry$Reader", "takes", "(C)Z"⟩,
  .methodLink "MoleculeRegistry$Reader" 114 ⟨"MoleculeRegistry$Reader", "here", "()C"⟩,
  .instanceMethod ⟨"MoleculeRegistry$Reader", "here", "()C"⟩,
  .selects "MoleculeRegistry$Reader" ⟨"MoleculeRegistry$Reader", "here", "()C"⟩ ⟨"MoleculeRegistry$Reader", "here", "()C"⟩,
  .methodLink "MoleculeRegistry$Reader" 133 ⟨"MoleculeRegistry$Reader", "readBrackets", "()Z"⟩,
  .instanceMethod ⟨"MoleculeRegistry$Reader", "readBrackets", "()Z"⟩,
  .selects "MoleculeRegistry$Reader" ⟨"MoleculeRegistry$Reader", "readBrackets", "()Z"⟩ ⟨"MoleculeRegistry$Reader", "readBrackets", "()Z"⟩,
  .methodLink "MoleculeRegistry$Reader" 136 ⟨"MoleculeRegistry$Reader", "addAtom", "(II)Z"⟩,
  .instanceMethod ⟨"MoleculeRegistry$Reader", "addAtom", "(II)Z"⟩,
  .selects "MoleculeRegistry$Reader" ⟨"MoleculeRegistry$Reader", "addAtom", "(II)Z"⟩ ⟨"MoleculeRegistry$Reader", "addAtom", "(II)Z"⟩,
  .methodLink "MoleculeRegistry$Reader" 141 ⟨"java/lang/String", "indexOf", "(I)I"⟩,
  .methodLink "MoleculeRegistry$Reader" 148 ⟨"MoleculeRegistry$Reader", "readList", "(C)Z"⟩,
  .instanceMethod ⟨"MoleculeRegistry$Reader", "readList", "(C)Z"⟩,
  .selects "MoleculeRegistry$Reader" ⟨"MoleculeRegistry$Reader", "readList", "(C)Z"⟩ ⟨"MoleculeRegistry$Reader", "readList", "(C)Z"⟩,
  .methodLink "MoleculeRegistry$Reader" 151 ⟨"MoleculeRegistry$Reader", "readHydrogens", "()I"⟩,
  .instanceMethod ⟨"MoleculeRegistry$Reader", "readHydrogens", "()I"⟩,
  .selects "MoleculeRegistry$Reader" ⟨"MoleculeRegistry$Reader", "readHydrogens", "()I"⟩ ⟨"MoleculeRegistry$Reader", "readHydrogens", "()I"⟩,
  .methodLink "MoleculeRegistry$Reader" 154 ⟨"MoleculeRegistry$Reader", "readCharge", "()I"⟩,
  .instanceMethod ⟨"MoleculeRegistry$Reader", "readCharge", "()I"⟩,
  .selects "MoleculeRegistry$Reader" ⟨"MoleculeRegistry$Reader", "readCharge", "()I"⟩ ⟨"MoleculeRegistry$Reader", "readCharge", "()I"⟩,
  .methodLink "MoleculeRegistry$Reader" 125 ⟨"MoleculeRegistry$Reader", "kindFor", "(III)I"⟩,
  .instanceMethod ⟨"MoleculeRegistry$Reader", "kindFor", "(III)I"⟩,
  .selects "MoleculeRegistry$Reader" ⟨"MoleculeRegistry$Reader", "kindFor", "(III)I"⟩ ⟨"MoleculeRegistry$Reader", "kindFor", "(III)I"⟩,
  .methodLink "MoleculeRegistry$Reader" 129 ⟨"MoleculeRegistry$Reader", "areBound", "(II)Z"⟩,
  .instanceMethod ⟨"MoleculeRegistry$Reader", "areBound", "(II)Z"⟩,
  .selects "MoleculeRegistry$Reader" ⟨"MoleculeRegistry$Reader", "areBound", "(II)Z"⟩ ⟨"MoleculeRegistry$Reader", "areBound", "(II)Z"⟩,
  .methodLink "MoleculeRegistry$Reader" 122 ⟨"MoleculeRegistry$Reader", "openOrClose", "(III)Z"⟩,
  .instanceMethod ⟨"MoleculeRegistry$Reader", "openOrClose", "(III)Z"⟩,
  .selects "MoleculeRegistry$Reader" ⟨"MoleculeRegistry$Reader", "openOrClose", "(III)Z"⟩ ⟨"MoleculeRegistry$Reader", "openOrClose", "(III)Z"⟩,
  .methodLink "MoleculeRegistry$Reader" 78 ⟨"MoleculeRegistry$Graph", "clear", "()V"⟩,
  .instanceMethod ⟨"MoleculeRegistry$Graph", "clear", "()V"⟩,
  .selects "MoleculeRegistry$Graph" ⟨"MoleculeRegistry$Graph", "clear", "()V"⟩ ⟨"MoleculeRegistry$Graph", "clear", "()V"⟩,
  .methodLink "MoleculeRegistry$Reader" 83 ⟨"MoleculeRegistry$Graph", "add", "(I)V"⟩,
  .instanceMethod ⟨"MoleculeRegistry$Graph", "add", "(I)V"⟩,
  .selects "MoleculeRegistry$Graph" ⟨"MoleculeRegistry$Graph", "add", "(I)V"⟩ ⟨"MoleculeRegistry$Graph", "add", "(I)V"⟩,
  .methodLink "MoleculeRegistry$Reader" 87 ⟨"MoleculeRegistry$Graph", "join", "(III)V"⟩]
def V_6 : List Cond := [.instanceMethod ⟨"MoleculeRegistry$Graph", "join", "(III)V"⟩,
  .selects "MoleculeRegistry$Graph" ⟨"MoleculeRegistry$Graph", "join", "(III)V"⟩ ⟨"MoleculeRegistry$Graph", "join", "(III)V"⟩,
  .methodLink "MoleculeRegistry$Shelf" 3 ⟨"java/lang/Object", "<init>", "()V"⟩,
  .classLink "MoleculeRegistry$Shelf" 9 "MoleculeRegistry$Graph",
  .fieldLink "MoleculeRegistry$Shelf" 11 "MoleculeRegistry$Shelf" "molecules" "[LMoleculeRegistry$Graph;",
  .fieldLink "MoleculeRegistry$Shelf" 17 "MoleculeRegistry$Shelf" "ids" "[I",
  .methodLinkNest "MoleculeRegistry$Shelf" 21 ⟨"MoleculeRegistry$Graph", "<init>", "()V"⟩ "MoleculeRegistry",
  .fieldLink "MoleculeRegistry$Shelf" 22 "MoleculeRegistry$Shelf" "size" "I",
  .methodLink "MoleculeRegistry$Shelf" 33 ⟨"MoleculeRegistry$Shelf", "slotOf", "(I)I"⟩,
  .instanceMethod ⟨"MoleculeRegistry$Shelf", "slotOf", "(I)I"⟩,
  .selects "MoleculeRegistry$Shelf" ⟨"MoleculeRegistry$Shelf", "slotOf", "(I)I"⟩ ⟨"MoleculeRegistry$Shelf", "slotOf", "(I)I"⟩,
  .methodLink "MoleculeRegistry$Shelf" 26 ⟨"MoleculeRegistry$Graph", "copyFrom", "(LMoleculeRegistry$Graph;)V"⟩,
  .fieldLink "MoleculeRegistry$Shelf" 30 "MoleculeRegistry$Shelf" "lastId" "I",
  .methodLink "MoleculeRegistry" 3 ⟨"java/lang/Object", "<init>", "()V"⟩,
  .fieldLink "MoleculeRegistry" 9 "MoleculeRegistry" "buffer" "[C",
  .classLink "MoleculeRegistry" 13 "MoleculeRegistry$Reader",
  .instantiable "MoleculeRegistry$Reader" 15,
  .initialized "MoleculeRegistry$Reader",
  .methodLinkNest "MoleculeRegistry" 15 ⟨"MoleculeRegistry$Reader", "<init>", "()V"⟩ "MoleculeRegistry",
  .code ⟨"MoleculeRegistry$Reader", "<init>", "()V"⟩ prog_6_method_1_code 1 none,
  .instanceMethod ⟨"MoleculeRegistry$Reader", "<init>", "()V"⟩,
  .fieldLink "MoleculeRegistry" 16 "MoleculeRegistry" "reader" "LMoleculeRegistry$Reader;",
  .classLink "MoleculeRegistry" 20 "MoleculeRegistry$Graph",
  .methodLinkNest "MoleculeRegistry" 22 ⟨"MoleculeRegistry$Graph", "<init>", "()V"⟩ "MoleculeRegistry",
  .fieldLink "MoleculeRegistry" 23 "MoleculeRegistry" "read" "LMoleculeRegistry$Graph;",
  .classLink "MoleculeRegistry" 27 "MoleculeRegistry$Matcher",
  .instantiable "MoleculeRegistry$Matcher" 2,
  .methodLinkNest "MoleculeRegistry" 29 ⟨"MoleculeRegistry$Matcher", "<init>", "()V"⟩ "MoleculeRegistry",
  .code ⟨"MoleculeRegistry$Matcher", "<init>", "()V"⟩ prog_5_method_1_code 1 none,
  .instanceMethod ⟨"MoleculeRegistry$Matcher", "<init>", "()V"⟩,
  .fieldLink "MoleculeRegistry" 30 "MoleculeRegistry" "matcher" "LMoleculeRegistry$Matcher;",
  .classLink "MoleculeRegistry" 34 "MoleculeRegistry$Shelf",
  .instantiable "MoleculeRegistry$Shelf" 4,
  .initialized "MoleculeRegistry$Shelf",
  .methodLink "MoleculeRegistry" 36 ⟨"MoleculeRegistry$Shelf", "<init>", "()V"⟩,
  .code ⟨"MoleculeRegistry$Shelf", "<init>", "()V"⟩ prog_7_method_1_code 2 none,
  .instanceMethod ⟨"MoleculeRegistry$Shelf", "<init>", "()V"⟩,
  .fieldLink "MoleculeRegistry" 37 "MoleculeRegistry" "shelf" "LMoleculeRegistry$Shelf;",
  .classLink "MoleculeRegistry" 41 "MoleculeRegistry$Log",
  .instantiable "MoleculeRegistry$Log" 4]
def V_7 : List Cond := [.initialized "MoleculeRegistry$Log",
  .methodLinkNest "MoleculeRegistry" 43 ⟨"MoleculeRegistry$Log", "<init>", "()V"⟩ "MoleculeRegistry",
  .code ⟨"MoleculeRegistry$Log", "<init>", "()V"⟩ prog_4_method_1_code 1 none,
  .instanceMethod ⟨"MoleculeRegistry$Log", "<init>", "()V"⟩,
  .fieldLink "MoleculeRegistry" 44 "MoleculeRegistry" "log" "LMoleculeRegistry$Log;",
  .fieldLink "MoleculeRegistry" 48 "MoleculeRegistry" "hits" "[I",
  .fieldLink "MoleculeRegistry" 52 "MoleculeRegistry" "toldFailure" "I",
  .methodLink "MoleculeRegistry" 56 ⟨"MoleculeRegistry", "byteAt", "(JI)I"⟩,
  .static ⟨"MoleculeRegistry", "byteAt", "(JI)I"⟩,
  .fieldLink "MoleculeRegistry" 60 "MoleculeRegistry" "typed" "I",
  .methodLink "MoleculeRegistry" 63 ⟨"MoleculeRegistry", "append", "(J)V"⟩,
  .instanceMethod ⟨"MoleculeRegistry", "append", "(J)V"⟩,
  .selects "MoleculeRegistry" ⟨"MoleculeRegistry", "append", "(J)V"⟩ ⟨"MoleculeRegistry", "append", "(J)V"⟩,
  .fieldLink "MoleculeRegistry" 92 "MoleculeRegistry" "hitCount" "I",
  .fieldLink "MoleculeRegistry" 113 "MoleculeRegistry" "down" "Z",
  .fieldLinkNest "MoleculeRegistry" 117 "MoleculeRegistry$Log" "marked" "Z" "MoleculeRegistry",
  .methodLink "MoleculeRegistry" 120 ⟨"MoleculeRegistry", "carryOut", "()V"⟩,
  .instanceMethod ⟨"MoleculeRegistry", "carryOut", "()V"⟩,
  .selects "MoleculeRegistry" ⟨"MoleculeRegistry", "carryOut", "()V"⟩ ⟨"MoleculeRegistry", "carryOut", "()V"⟩,
  .methodLink "MoleculeRegistry" 123 ⟨"MoleculeRegistry$Log", "clear", "()V"⟩,
  .instanceMethod ⟨"MoleculeRegistry$Log", "clear", "()V"⟩,
  .selects "MoleculeRegistry$Log" ⟨"MoleculeRegistry$Log", "clear", "()V"⟩ ⟨"MoleculeRegistry$Log", "clear", "()V"⟩,
  .fieldLinkNest "MoleculeRegistry" 194 "MoleculeRegistry$Log" "id" "I" "MoleculeRegistry",
  .methodLink "MoleculeRegistry" 109 ⟨"MoleculeRegistry$Shelf", "slotOf", "(I)I"⟩,
  .fieldLinkNest "MoleculeRegistry" 197 "MoleculeRegistry$Log" "removing" "Z" "MoleculeRegistry",
  .methodLink "MoleculeRegistry" 200 ⟨"MoleculeRegistry$Shelf", "take", "(I)V"⟩,
  .instanceMethod ⟨"MoleculeRegistry$Shelf", "take", "(I)V"⟩,
  .selects "MoleculeRegistry$Shelf" ⟨"MoleculeRegistry$Shelf", "take", "(I)V"⟩ ⟨"MoleculeRegistry$Shelf", "take", "(I)V"⟩,
  .fieldLinkNest "MoleculeRegistry" 204 "MoleculeRegistry$Log" "molecule" "LMoleculeRegistry$Graph;" "MoleculeRegistry",
  .methodLink "MoleculeRegistry" 207 ⟨"MoleculeRegistry$Shelf", "put", "(ILMoleculeRegistry$Graph;)V"⟩,
  .instanceMethod ⟨"MoleculeRegistry$Shelf", "put", "(ILMoleculeRegistry$Graph;)V"⟩,
  .selects "MoleculeRegistry$Shelf" ⟨"MoleculeRegistry$Shelf", "put", "(ILMoleculeRegistry$Graph;)V"⟩ ⟨"MoleculeRegistry$Shelf", "put", "(ILMoleculeRegistry$Graph;)V"⟩,
  .fieldLinkNest "MoleculeRegistry" 75 "MoleculeRegistry$Shelf" "size" "I" "MoleculeRegistry",
  .methodLink "MoleculeRegistry" 126 ⟨"MoleculeRegistry", "visible", "(I)LMoleculeRegistry$Graph;"⟩,
  .instanceMethod ⟨"MoleculeRegistry", "visible", "(I)LMoleculeRegistry$Graph;"⟩,
  .selects "MoleculeRegistry" ⟨"MoleculeRegistry", "visible", "(I)LMoleculeRegistry$Graph;"⟩ ⟨"MoleculeRegistry", "visible", "(I)LMoleculeRegistry$Graph;"⟩,
  .fieldLinkNest "MoleculeRegistry" 130 "MoleculeRegistry$Graph" "size" "I" "MoleculeRegistry",
  .fieldLinkNest "MoleculeRegistry" 95 "MoleculeRegistry$Shelf" "molecules" "[LMoleculeRegistry$Graph;" "MoleculeRegistry",
  .methodLink "MoleculeRegistry" 131 ⟨"MoleculeRegistry$Graph", "has", "(I)Z"⟩,
  .fieldLinkNest "MoleculeRegistry" 135 "MoleculeRegistry$Graph" "codes" "[I" "MoleculeRegistry"]
def V_8 : List Cond := [.methodLink "MoleculeRegistry" 138 ⟨"MoleculeRegistry$Graph", "kindBetween", "(II)I"⟩,
  .methodLink "MoleculeRegistry" 67 ⟨"MoleculeRegistry", "readBuffer", "(Z)V"⟩,
  .instanceMethod ⟨"MoleculeRegistry", "readBuffer", "(Z)V"⟩,
  .selects "MoleculeRegistry" ⟨"MoleculeRegistry", "readBuffer", "(Z)V"⟩ ⟨"MoleculeRegistry", "readBuffer", "(Z)V"⟩,
  .methodLink "MoleculeRegistry" 71 ⟨"MoleculeRegistry", "idOfSame", "()I"⟩,
  .instanceMethod ⟨"MoleculeRegistry", "idOfSame", "()I"⟩,
  .selects "MoleculeRegistry" ⟨"MoleculeRegistry", "idOfSame", "()I"⟩ ⟨"MoleculeRegistry", "idOfSame", "()I"⟩,
  .classLink "MoleculeRegistry" 78 "java/lang/IndexOutOfBoundsException",
  .instantiable "java/lang/IndexOutOfBoundsException" 6,
  .initialized "java/lang/IndexOutOfBoundsException",
  .fieldLinkNest "MoleculeRegistry" 85 "MoleculeRegistry$Shelf" "lastId" "I" "MoleculeRegistry",
  .methodLink "MoleculeRegistry" 88 ⟨"MoleculeRegistry", "change", "(ZI)Z"⟩,
  .instanceMethod ⟨"MoleculeRegistry", "change", "(ZI)Z"⟩,
  .selects "MoleculeRegistry" ⟨"MoleculeRegistry", "change", "(ZI)Z"⟩ ⟨"MoleculeRegistry", "change", "(ZI)Z"⟩,
  .methodLink "MoleculeRegistry" 106 ⟨"MoleculeRegistry", "refuseWhenDown", "()V"⟩,
  .instanceMethod ⟨"MoleculeRegistry", "refuseWhenDown", "()V"⟩,
  .selects "MoleculeRegistry" ⟨"MoleculeRegistry", "refuseWhenDown", "()V"⟩ ⟨"MoleculeRegistry", "refuseWhenDown", "()V"⟩,
  .methodLink "MoleculeRegistry" 147 ⟨"MoleculeRegistry$Reader", "start", "([CIZ)V"⟩,
  .instanceMethod ⟨"MoleculeRegistry$Reader", "start", "([CIZ)V"⟩,
  .selects "MoleculeRegistry$Reader" ⟨"MoleculeRegistry$Reader", "start", "([CIZ)V"⟩ ⟨"MoleculeRegistry$Reader", "start", "([CIZ)V"⟩,
  .methodLink "MoleculeRegistry" 151 ⟨"MoleculeRegistry$Reader", "readAtoms", "()Z"⟩,
  .instanceMethod ⟨"MoleculeRegistry$Reader", "readAtoms", "()Z"⟩,
  .selects "MoleculeRegistry$Reader" ⟨"MoleculeRegistry$Reader", "readAtoms", "()Z"⟩ ⟨"MoleculeRegistry$Reader", "readAtoms", "()Z"⟩,
  .methodLink "MoleculeRegistry" 155 ⟨"MoleculeRegistry$Reader", "aDigitIsOpen", "()Z"⟩,
  .instanceMethod ⟨"MoleculeRegistry$Reader", "aDigitIsOpen", "()Z"⟩,
  .selects "MoleculeRegistry$Reader" ⟨"MoleculeRegistry$Reader", "aDigitIsOpen", "()Z"⟩ ⟨"MoleculeRegistry$Reader", "aDigitIsOpen", "()Z"⟩,
  .classLink "MoleculeRegistry" 158 "java/lang/IllegalArgumentException",
  .instantiable "java/lang/IllegalArgumentException" 6,
  .initialized "java/lang/IllegalArgumentException",
  .fieldLinkNest "MoleculeRegistry" 163 "MoleculeRegistry$Reader" "size" "I" "MoleculeRegistry",
  .classLink "MoleculeRegistry" 164 "java/lang/UnsupportedOperationException",
  .instantiable "java/lang/UnsupportedOperationException" 6,
  .initialized "java/lang/UnsupportedOperationException",
  .methodLink "MoleculeRegistry" 169 ⟨"MoleculeRegistry$Reader", "fill", "(LMoleculeRegistry$Graph;)V"⟩,
  .instanceMethod ⟨"MoleculeRegistry$Reader", "fill", "(LMoleculeRegistry$Graph;)V"⟩,
  .selects "MoleculeRegistry$Reader" ⟨"MoleculeRegistry$Reader", "fill", "(LMoleculeRegistry$Graph;)V"⟩ ⟨"MoleculeRegistry$Reader", "fill", "(LMoleculeRegistry$Graph;)V"⟩,
  .fieldLinkNest "MoleculeRegistry" 173 "MoleculeRegistry$Reader" "written" "[I" "MoleculeRegistry",
  .methodLink "MoleculeRegistry" 176 ⟨"MoleculeRegistry$Chemistry", "settle", "(LMoleculeRegistry$Graph;[I)Z"⟩,
  .static ⟨"MoleculeRegistry$Chemistry", "settle", "(LMoleculeRegistry$Graph;[I)Z"⟩,
  .initialized "MoleculeRegistry$Chemistry"]
def V_9 : List Cond := [.classLink "MoleculeRegistry" 182 "java/lang/ArithmeticException",
  .instantiable "java/lang/ArithmeticException" 6,
  .initialized "java/lang/ArithmeticException",
  .classLink "MoleculeRegistry" 142 "java/lang/IllegalStateException",
  .instantiable "java/lang/IllegalStateException" 6,
  .initialized "java/lang/IllegalStateException",
  .methodLink "MoleculeRegistry" 187 ⟨"MoleculeRegistry$Matcher", "areSame", "(LMoleculeRegistry$Graph;LMoleculeRegistry$Graph;)Z"⟩,
  .instanceMethod ⟨"MoleculeRegistry$Matcher", "areSame", "(LMoleculeRegistry$Graph;LMoleculeRegistry$Graph;)Z"⟩,
  .selects "MoleculeRegistry$Matcher" ⟨"MoleculeRegistry$Matcher", "areSame", "(LMoleculeRegistry$Graph;LMoleculeRegistry$Graph;)Z"⟩ ⟨"MoleculeRegistry$Matcher", "areSame", "(LMoleculeRegistry$Graph;LMoleculeRegistry$Graph;)Z"⟩,
  .fieldLinkNest "MoleculeRegistry" 103 "MoleculeRegistry$Shelf" "ids" "[I" "MoleculeRegistry",
  .methodLink "MoleculeRegistry" 190 ⟨"MoleculeRegistry$Log", "write", "(ZILMoleculeRegistry$Graph;)V"⟩,
  .instanceMethod ⟨"MoleculeRegistry$Log", "write", "(ZILMoleculeRegistry$Graph;)V"⟩,
  .selects "MoleculeRegistry$Log" ⟨"MoleculeRegistry$Log", "write", "(ZILMoleculeRegistry$Graph;)V"⟩ ⟨"MoleculeRegistry$Log", "write", "(ZILMoleculeRegistry$Graph;)V"⟩,
  .methodLink "MoleculeRegistry" 99 ⟨"MoleculeRegistry$Matcher", "isIn", "(LMoleculeRegistry$Graph;LMoleculeRegistry$Graph;)Z"⟩,
  .instanceMethod ⟨"MoleculeRegistry$Matcher", "isIn", "(LMoleculeRegistry$Graph;LMoleculeRegistry$Graph;)Z"⟩,
  .selects "MoleculeRegistry$Matcher" ⟨"MoleculeRegistry$Matcher", "isIn", "(LMoleculeRegistry$Graph;LMoleculeRegistry$Graph;)Z"⟩ ⟨"MoleculeRegistry$Matcher", "isIn", "(LMoleculeRegistry$Graph;LMoleculeRegistry$Graph;)Z"⟩,
  .methodLink "MoleculeRegistryModel" 1 ⟨"java/lang/Object", "<init>", "()V"⟩,
  .fieldLink "MoleculeRegistryModel" 7 "MoleculeRegistryModel" "buf" "[I",
  .fieldLink "MoleculeRegistryModel" 13 "MoleculeRegistryModel" "element" "[I",
  .arrayClass .boolean,
  .fieldLink "MoleculeRegistryModel" 16 "MoleculeRegistryModel" "aromatic" "[Z",
  .fieldLink "MoleculeRegistryModel" 20 "MoleculeRegistryModel" "hydrogens" "[I",
  .fieldLink "MoleculeRegistryModel" 23 "MoleculeRegistryModel" "charge" "[I",
  .fieldLink "MoleculeRegistryModel" 26 "MoleculeRegistryModel" "bracket" "[Z",
  .fieldLink "MoleculeRegistryModel" 29 "MoleculeRegistryModel" "list" "[I",
  .fieldLink "MoleculeRegistryModel" 32 "MoleculeRegistryModel" "bonds" "[I",
  .fieldLink "MoleculeRegistryModel" 35 "MoleculeRegistryModel" "back" "[I",
  .fieldLink "MoleculeRegistryModel" 38 "MoleculeRegistryModel" "opener" "[I",
  .fieldLink "MoleculeRegistryModel" 41 "MoleculeRegistryModel" "openLink" "[I",
  .fieldLink "MoleculeRegistryModel" 44 "MoleculeRegistryModel" "ids" "[I",
  .fieldLink "MoleculeRegistryModel" 47 "MoleculeRegistryModel" "sizes" "[I",
  .fieldLink "MoleculeRegistryModel" 50 "MoleculeRegistryModel" "elements" "[I",
  .fieldLink "MoleculeRegistryModel" 53 "MoleculeRegistryModel" "aromatics" "[Z",
  .fieldLink "MoleculeRegistryModel" 56 "MoleculeRegistryModel" "hydrogenCounts" "[I",
  .fieldLink "MoleculeRegistryModel" 59 "MoleculeRegistryModel" "charges" "[I",
  .fieldLink "MoleculeRegistryModel" 62 "MoleculeRegistryModel" "allBonds" "[I",
  .fieldLink "MoleculeRegistryModel" 65 "MoleculeRegistryModel" "put" "[I",
  .fieldLink "MoleculeRegistryModel" 68 "MoleculeRegistryModel" "taken" "[Z",
  .fieldLink "MoleculeRegistryModel" 71 "MoleculeRegistryModel" "storeElement" "[I",
  .fieldLink "MoleculeRegistryModel" 74 "MoleculeRegistryModel" "storeAromatic" "[Z"]
def V_10 : List Cond := [.fieldLink "MoleculeRegistryModel" 77 "MoleculeRegistryModel" "storeHydrogens" "[I",
  .fieldLink "MoleculeRegistryModel" 80 "MoleculeRegistryModel" "storeCharge" "[I",
  .fieldLink "MoleculeRegistryModel" 83 "MoleculeRegistryModel" "storeBonds" "[I",
  .fieldLink "MoleculeRegistryModel" 86 "MoleculeRegistryModel" "foundIds" "[I",
  .fieldLink "MoleculeRegistryModel" 89 "MoleculeRegistryModel" "thrown" "I",
  .fieldLink "MoleculeRegistryModel" 93 "MoleculeRegistryModel" "size" "I",
  .fieldLink "MoleculeRegistryModel" 201 "MoleculeRegistryModel" "down" "Z",
  .methodLink "MoleculeRegistryModel" 210 ⟨"MoleculeRegistryModel", "raise", "(I)I"⟩,
  .instanceMethod ⟨"MoleculeRegistryModel", "raise", "(I)I"⟩,
  .selects "MoleculeRegistryModel" ⟨"MoleculeRegistryModel", "raise", "(I)I"⟩ ⟨"MoleculeRegistryModel", "raise", "(I)I"⟩,
  .methodLink "MoleculeRegistryModel" 213 ⟨"MoleculeRegistryModel", "wrongness", "()I"⟩,
  .instanceMethod ⟨"MoleculeRegistryModel", "wrongness", "()I"⟩,
  .selects "MoleculeRegistryModel" ⟨"MoleculeRegistryModel", "wrongness", "()I"⟩ ⟨"MoleculeRegistryModel", "wrongness", "()I"⟩,
  .methodLink "MoleculeRegistryModel" 216 ⟨"MoleculeRegistryModel", "same", "()I"⟩,
  .instanceMethod ⟨"MoleculeRegistryModel", "same", "()I"⟩,
  .selects "MoleculeRegistryModel" ⟨"MoleculeRegistryModel", "same", "()I"⟩ ⟨"MoleculeRegistryModel", "same", "()I"⟩,
  .fieldLink "MoleculeRegistryModel" 169 "MoleculeRegistryModel" "count" "I",
  .methodLink "MoleculeRegistryModel" 219 ⟨"MoleculeRegistryModel", "keepText", "()V"⟩,
  .instanceMethod ⟨"MoleculeRegistryModel", "keepText", "()V"⟩,
  .selects "MoleculeRegistryModel" ⟨"MoleculeRegistryModel", "keepText", "()V"⟩ ⟨"MoleculeRegistryModel", "keepText", "()V"⟩,
  .fieldLink "MoleculeRegistryModel" 185 "MoleculeRegistryModel" "lastId" "I",
  .methodLink "MoleculeRegistryModel" 222 ⟨"MoleculeRegistryModel", "change", "(II)Z"⟩,
  .instanceMethod ⟨"MoleculeRegistryModel", "change", "(II)Z"⟩,
  .selects "MoleculeRegistryModel" ⟨"MoleculeRegistryModel", "change", "(II)Z"⟩ ⟨"MoleculeRegistryModel", "change", "(II)Z"⟩,
  .methodLink "MoleculeRegistryModel" 153 ⟨"MoleculeRegistryModel", "read", "(Z)Z"⟩,
  .instanceMethod ⟨"MoleculeRegistryModel", "read", "(Z)Z"⟩,
  .selects "MoleculeRegistryModel" ⟨"MoleculeRegistryModel", "read", "(Z)Z"⟩ ⟨"MoleculeRegistryModel", "read", "(Z)Z"⟩,
  .fieldLink "MoleculeRegistryModel" 96 "MoleculeRegistryModel" "many" "I",
  .methodLink "MoleculeRegistryModel" 156 ⟨"MoleculeRegistryModel", "valences", "()Z"⟩,
  .instanceMethod ⟨"MoleculeRegistryModel", "valences", "()Z"⟩,
  .selects "MoleculeRegistryModel" ⟨"MoleculeRegistryModel", "valences", "()Z"⟩ ⟨"MoleculeRegistryModel", "valences", "()Z"⟩,
  .methodLink "MoleculeRegistryModel" 159 ⟨"MoleculeRegistryModel", "matching", "()Z"⟩,
  .instanceMethod ⟨"MoleculeRegistryModel", "matching", "()Z"⟩,
  .selects "MoleculeRegistryModel" ⟨"MoleculeRegistryModel", "matching", "()Z"⟩ ⟨"MoleculeRegistryModel", "matching", "()Z"⟩,
  .fieldLink "MoleculeRegistryModel" 99 "MoleculeRegistryModel" "at" "I",
  .fieldLink "MoleculeRegistryModel" 120 "MoleculeRegistryModel" "good" "Z",
  .methodLink "MoleculeRegistryModel" 102 ⟨"MoleculeRegistryModel", "ch", "(I)I"⟩,
  .instanceMethod ⟨"MoleculeRegistryModel", "ch", "(I)I"⟩,
  .selects "MoleculeRegistryModel" ⟨"MoleculeRegistryModel", "ch", "(I)I"⟩ ⟨"MoleculeRegistryModel", "ch", "(I)I"⟩,
  .methodLink "MoleculeRegistryModel" 124 ⟨"MoleculeRegistryModel", "linkOf", "(IZ)I"⟩]
def V_11 : List Cond := [.static ⟨"MoleculeRegistryModel", "linkOf", "(IZ)I"⟩,
  .methodLink "MoleculeRegistryModel" 132 ⟨"MoleculeRegistryModel", "atom", "(Z)Z"⟩,
  .instanceMethod ⟨"MoleculeRegistryModel", "atom", "(Z)Z"⟩,
  .selects "MoleculeRegistryModel" ⟨"MoleculeRegistryModel", "atom", "(Z)Z"⟩ ⟨"MoleculeRegistryModel", "atom", "(Z)Z"⟩,
  .methodLink "MoleculeRegistryModel" 128 ⟨"MoleculeRegistryModel", "bind", "(III)V"⟩,
  .instanceMethod ⟨"MoleculeRegistryModel", "bind", "(III)V"⟩,
  .selects "MoleculeRegistryModel" ⟨"MoleculeRegistryModel", "bind", "(III)V"⟩ ⟨"MoleculeRegistryModel", "bind", "(III)V"⟩,
  .methodLink "MoleculeRegistryModel" 136 ⟨"MoleculeRegistryModel", "closures", "(IZ)V"⟩,
  .instanceMethod ⟨"MoleculeRegistryModel", "closures", "(IZ)V"⟩,
  .selects "MoleculeRegistryModel" ⟨"MoleculeRegistryModel", "closures", "(IZ)V"⟩ ⟨"MoleculeRegistryModel", "closures", "(IZ)V"⟩,
  .methodLink "MoleculeRegistryModel" 106 ⟨"MoleculeRegistryModel", "placeOf", "(I)I"⟩,
  .static ⟨"MoleculeRegistryModel", "placeOf", "(I)I"⟩,
  .methodLink "MoleculeRegistryModel" 109 ⟨"MoleculeRegistryModel", "newAtom", "(IZ)V"⟩,
  .instanceMethod ⟨"MoleculeRegistryModel", "newAtom", "(IZ)V"⟩,
  .selects "MoleculeRegistryModel" ⟨"MoleculeRegistryModel", "newAtom", "(IZ)V"⟩ ⟨"MoleculeRegistryModel", "newAtom", "(IZ)V"⟩,
  .methodLink "MoleculeRegistryModel" 113 ⟨"MoleculeRegistryModel", "several", "()Z"⟩,
  .instanceMethod ⟨"MoleculeRegistryModel", "several", "()Z"⟩,
  .selects "MoleculeRegistryModel" ⟨"MoleculeRegistryModel", "several", "()Z"⟩ ⟨"MoleculeRegistryModel", "several", "()Z"⟩,
  .methodLink "MoleculeRegistryModel" 117 ⟨"MoleculeRegistryModel", "one", "()Z"⟩,
  .instanceMethod ⟨"MoleculeRegistryModel", "one", "()Z"⟩,
  .selects "MoleculeRegistryModel" ⟨"MoleculeRegistryModel", "one", "()Z"⟩ ⟨"MoleculeRegistryModel", "one", "()Z"⟩,
  .methodLink "MoleculeRegistryModel" 139 ⟨"MoleculeRegistryModel", "orders", "(I)I"⟩,
  .instanceMethod ⟨"MoleculeRegistryModel", "orders", "(I)I"⟩,
  .selects "MoleculeRegistryModel" ⟨"MoleculeRegistryModel", "orders", "(I)I"⟩ ⟨"MoleculeRegistryModel", "orders", "(I)I"⟩,
  .methodLink "MoleculeRegistryModel" 142 ⟨"MoleculeRegistryModel", "most", "(I)I"⟩,
  .instanceMethod ⟨"MoleculeRegistryModel", "most", "(I)I"⟩,
  .selects "MoleculeRegistryModel" ⟨"MoleculeRegistryModel", "most", "(I)I"⟩ ⟨"MoleculeRegistryModel", "most", "(I)I"⟩,
  .methodLink "MoleculeRegistryModel" 145 ⟨"MoleculeRegistryModel", "pairs", "(I)Z"⟩,
  .instanceMethod ⟨"MoleculeRegistryModel", "pairs", "(I)Z"⟩,
  .selects "MoleculeRegistryModel" ⟨"MoleculeRegistryModel", "pairs", "(I)Z"⟩ ⟨"MoleculeRegistryModel", "pairs", "(I)Z"⟩,
  .methodLink "MoleculeRegistryModel" 149 ⟨"MoleculeRegistryModel", "free", "()I"⟩,
  .instanceMethod ⟨"MoleculeRegistryModel", "free", "()I"⟩,
  .selects "MoleculeRegistryModel" ⟨"MoleculeRegistryModel", "free", "()I"⟩ ⟨"MoleculeRegistryModel", "free", "()I"⟩,
  .methodLink "MoleculeRegistryModel" 172 ⟨"MoleculeRegistryModel", "canBePut", "(IZ)Z"⟩,
  .instanceMethod ⟨"MoleculeRegistryModel", "canBePut", "(IZ)Z"⟩,
  .selects "MoleculeRegistryModel" ⟨"MoleculeRegistryModel", "canBePut", "(IZ)Z"⟩ ⟨"MoleculeRegistryModel", "canBePut", "(IZ)Z"⟩,
  .methodLink "MoleculeRegistryModel" 166 ⟨"MoleculeRegistryModel", "agrees", "(IIIZ)Z"⟩,
  .instanceMethod ⟨"MoleculeRegistryModel", "agrees", "(IIIZ)Z"⟩,
  .selects "MoleculeRegistryModel" ⟨"MoleculeRegistryModel", "agrees", "(IIIZ)Z"⟩ ⟨"MoleculeRegistryModel", "agrees", "(IIIZ)Z"⟩,
  .methodLink "MoleculeRegistryModel" 162 ⟨"MoleculeRegistryModel", "fits", "(IIIZ)Z"⟩]
def V_12 : List Cond := [.instanceMethod ⟨"MoleculeRegistryModel", "fits", "(IIIZ)Z"⟩,
  .selects "MoleculeRegistryModel" ⟨"MoleculeRegistryModel", "fits", "(IIIZ)Z"⟩ ⟨"MoleculeRegistryModel", "fits", "(IIIZ)Z"⟩,
  .fieldLink "MoleculeRegistryModel" 176 "MoleculeRegistryModel" "storeSize" "I",
  .fieldLink "MoleculeRegistryModel" 195 "MoleculeRegistryModel" "failure" "I",
  .fieldLink "MoleculeRegistryModel" 198 "MoleculeRegistryModel" "finds" "I",
  .fieldLink "MoleculeRegistryModel" 179 "MoleculeRegistryModel" "logged" "I",
  .fieldLink "MoleculeRegistryModel" 182 "MoleculeRegistryModel" "loggedId" "I",
  .fieldLink "MoleculeRegistryModel" 204 "MoleculeRegistryModel" "done" "Z",
  .methodLink "MoleculeRegistryModel" 207 ⟨"MoleculeRegistryModel", "perform", "()V"⟩,
  .instanceMethod ⟨"MoleculeRegistryModel", "perform", "()V"⟩,
  .selects "MoleculeRegistryModel" ⟨"MoleculeRegistryModel", "perform", "()V"⟩ ⟨"MoleculeRegistryModel", "perform", "()V"⟩,
  .methodLink "MoleculeRegistryModel" 188 ⟨"MoleculeRegistryModel", "placeOfId", "(I)I"⟩,
  .instanceMethod ⟨"MoleculeRegistryModel", "placeOfId", "(I)I"⟩,
  .selects "MoleculeRegistryModel" ⟨"MoleculeRegistryModel", "placeOfId", "(I)I"⟩ ⟨"MoleculeRegistryModel", "placeOfId", "(I)I"⟩,
  .methodLink "MoleculeRegistryModel" 191 ⟨"MoleculeRegistryModel", "copyMolecule", "(II)V"⟩,
  .instanceMethod ⟨"MoleculeRegistryModel", "copyMolecule", "(II)V"⟩,
  .selects "MoleculeRegistryModel" ⟨"MoleculeRegistryModel", "copyMolecule", "(II)V"⟩ ⟨"MoleculeRegistryModel", "copyMolecule", "(II)V"⟩,
  .fieldLinkNest "MoleculeRegistry$Chemistry" 9 "MoleculeRegistry$Graph" "size" "I" "MoleculeRegistry",
  .fieldLinkNest "MoleculeRegistry$Chemistry" 15 "MoleculeRegistry$Graph" "codes" "[I" "MoleculeRegistry",
  .methodLink "MoleculeRegistry$Chemistry" 19 ⟨"MoleculeRegistry$Chemistry", "capacity", "(I)I"⟩,
  .static ⟨"MoleculeRegistry$Chemistry", "capacity", "(I)I"⟩,
  .methodLink "MoleculeRegistry$Chemistry" 25 ⟨"MoleculeRegistry$Chemistry", "orders", "(LMoleculeRegistry$Graph;I)I"⟩,
  .static ⟨"MoleculeRegistry$Chemistry", "orders", "(LMoleculeRegistry$Graph;I)I"⟩,
  .methodLink "MoleculeRegistry$Chemistry" 31 ⟨"MoleculeRegistry$Chemistry", "pairing", "(LMoleculeRegistry$Graph;)I"⟩,
  .static ⟨"MoleculeRegistry$Chemistry", "pairing", "(LMoleculeRegistry$Graph;)I"⟩,
  .methodLink "MoleculeRegistry$Chemistry" 35 ⟨"MoleculeRegistry$Chemistry", "canPair", "(LMoleculeRegistry$Graph;II)Z"⟩,
  .static ⟨"MoleculeRegistry$Chemistry", "canPair", "(LMoleculeRegistry$Graph;II)Z"⟩,
  .methodLink "MoleculeRegistry$Chemistry" 41 ⟨"java/lang/String", "indexOf", "(I)I"⟩,
  .fieldLinkNest "MoleculeRegistry$Chemistry" 46 "MoleculeRegistry" "VALENCES" "[I" "MoleculeRegistry",
  .methodLink "MoleculeRegistry$Chemistry" 49 ⟨"MoleculeRegistry$Graph", "degree", "(II)I"⟩,
  .methodLink "MoleculeRegistry$Chemistry" 53 ⟨"MoleculeRegistry$Chemistry", "pairs", "(I)Z"⟩,
  .static ⟨"MoleculeRegistry$Chemistry", "pairs", "(I)Z"⟩,
  .methodLink "MoleculeRegistry$Chemistry" 57 ⟨"MoleculeRegistry$Graph", "boundTo", "(II)I"⟩,
  .methodLink "MoleculeRegistryLaw" 7 ⟨"MoleculeRegistry", "register", "()I"⟩,
  .instanceMethod ⟨"MoleculeRegistry", "register", "()I"⟩,
  .selects "MoleculeRegistry" ⟨"MoleculeRegistry", "register", "()I"⟩ ⟨"MoleculeRegistry", "register", "()I"⟩,
  .methodLink "MoleculeRegistryLaw" 23 ⟨"MoleculeRegistry", "lookup", "()I"⟩,
  .instanceMethod ⟨"MoleculeRegistry", "lookup", "()I"⟩,
  .selects "MoleculeRegistry" ⟨"MoleculeRegistry", "lookup", "()I"⟩ ⟨"MoleculeRegistry", "lookup", "()I"⟩,
  .methodLink "MoleculeRegistryLaw" 26 ⟨"MoleculeRegistry", "search", "()I"⟩]
def V_13 : List Cond := [.instanceMethod ⟨"MoleculeRegistry", "search", "()I"⟩,
  .selects "MoleculeRegistry" ⟨"MoleculeRegistry", "search", "()I"⟩ ⟨"MoleculeRegistry", "search", "()I"⟩,
  .methodLink "MoleculeRegistryLaw" 29 ⟨"MoleculeRegistry", "remove", "(I)I"⟩,
  .instanceMethod ⟨"MoleculeRegistry", "remove", "(I)I"⟩,
  .selects "MoleculeRegistry" ⟨"MoleculeRegistry", "remove", "(I)I"⟩ ⟨"MoleculeRegistry", "remove", "(I)I"⟩,
  .constant "java/lang/Integer" 265 1431655765,
  .constant "java/lang/Integer" 266 858993459,
  .constant "java/lang/Integer" 267 252645135,
  .methodLink "java/lang/String" 633 ⟨"java/lang/String", "indexOf", "(II)I"⟩,
  .instanceMethod ⟨"java/lang/String", "indexOf", "(II)I"⟩,
  .selects "java/lang/String" ⟨"java/lang/String", "indexOf", "(II)I"⟩ ⟨"java/lang/String", "indexOf", "(II)I"⟩,
  .methodLink "java/lang/String" 492 ⟨"java/lang/String", "isLatin1", "()Z"⟩,
  .instanceMethod ⟨"java/lang/String", "isLatin1", "()Z"⟩,
  .selects "java/lang/String" ⟨"java/lang/String", "isLatin1", "()Z"⟩ ⟨"java/lang/String", "isLatin1", "()Z"⟩,
  .fieldLink "java/lang/String" 9 "java/lang/String" "value" "[B",
  .methodLink "java/lang/String" 505 ⟨"java/lang/String", "length", "()I"⟩,
  .instanceMethod ⟨"java/lang/String", "length", "()I"⟩,
  .selects "java/lang/String" ⟨"java/lang/String", "length", "()I"⟩ ⟨"java/lang/String", "length", "()I"⟩,
  .methodLink "java/lang/String" 637 ⟨"java/lang/StringLatin1", "indexOf", "([BIII)I"⟩,
  .static ⟨"java/lang/StringLatin1", "indexOf", "([BIII)I"⟩,
  .initialized "java/lang/StringLatin1",
  .fieldLink "java/lang/String" 38 "java/lang/String" "COMPACT_STRINGS" "Z",
  .fieldLink "java/lang/String" 15 "java/lang/String" "coder" "B",
  .methodLink "java/lang/String" 335 ⟨"java/lang/String", "coder", "()B"⟩,
  .instanceMethod ⟨"java/lang/String", "coder", "()B"⟩,
  .selects "java/lang/String" ⟨"java/lang/String", "coder", "()B"⟩ ⟨"java/lang/String", "coder", "()B"⟩,
  .methodLink "java/lang/StringLatin1" 88 ⟨"java/lang/StringLatin1", "canEncode", "(I)Z"⟩,
  .static ⟨"java/lang/StringLatin1", "canEncode", "(I)Z"⟩,
  .methodLink "java/lang/StringLatin1" 92 ⟨"java/lang/Math", "max", "(II)I"⟩,
  .static ⟨"java/lang/Math", "max", "(II)I"⟩,
  .methodLink "java/lang/StringLatin1" 38 ⟨"java/lang/Math", "min", "(II)I"⟩,
  .methodLink "java/lang/StringLatin1" 95 ⟨"java/lang/StringLatin1", "indexOfChar", "([BIII)I"⟩,
  .static ⟨"java/lang/StringLatin1", "indexOfChar", "([BIII)I"⟩,
  .code ⟨"MoleculeRegistry$Graph", "copyFrom", "(LMoleculeRegistry$Graph;)V"⟩ prog_3_method_3_code 2 none,
  .code ⟨"MoleculeRegistry$Graph", "has", "(I)Z"⟩ prog_3_method_7_code 2 (some .boolean),
  .code ⟨"MoleculeRegistry$Graph", "kindBetween", "(II)I"⟩ prog_3_method_8_code 3 (some .int),
  .code ⟨"MoleculeRegistry$Graph", "clear", "()V"⟩ prog_3_method_2_code 1 none,
  .code ⟨"MoleculeRegistry$Graph", "add", "(I)V"⟩ prog_3_method_4_code 2 none,
  .code ⟨"MoleculeRegistry$Graph", "join", "(III)V"⟩ prog_3_method_5_code 4 none,
  .code ⟨"MoleculeRegistry$Graph", "joinOneWay", "(III)V"⟩ prog_3_method_6_code 4 none]
def V_14 : List Cond := [.code ⟨"MoleculeRegistry$Graph", "degree", "(II)I"⟩ prog_3_method_10_code 3 (some .int),
  .code ⟨"MoleculeRegistry$Graph", "boundTo", "(II)I"⟩ prog_3_method_9_code 3 (some .int),
  .code ⟨"MoleculeRegistry$Log", "clear", "()V"⟩ prog_4_method_3_code 1 none,
  .code ⟨"MoleculeRegistry$Log", "write", "(ZILMoleculeRegistry$Graph;)V"⟩ prog_4_method_2_code 4 none,
  .code ⟨"MoleculeRegistry$Matcher", "areSame", "(LMoleculeRegistry$Graph;LMoleculeRegistry$Graph;)Z"⟩ prog_5_method_2_code 3 (some .boolean),
  .code ⟨"MoleculeRegistry$Matcher", "findChoices", "(LMoleculeRegistry$Graph;LMoleculeRegistry$Graph;I)Z"⟩ prog_5_method_5_code 6 (some .boolean),
  .code ⟨"MoleculeRegistry$Matcher", "fits", "(II)Z"⟩ prog_5_method_6_code 3 (some .boolean),
  .code ⟨"MoleculeRegistry$Matcher", "hasBondsFor", "(LMoleculeRegistry$Graph;ILMoleculeRegistry$Graph;I)Z"⟩ prog_5_method_7_code 5 (some .boolean),
  .code ⟨"MoleculeRegistry$Matcher", "everyAtom", "(LMoleculeRegistry$Graph;)I"⟩ prog_5_method_4_code 1 (some .int),
  .code ⟨"MoleculeRegistry$Matcher", "canPlace", "(LMoleculeRegistry$Graph;LMoleculeRegistry$Graph;II)Z"⟩ prog_5_method_8_code 8 (some .boolean),
  .code ⟨"MoleculeRegistry$Matcher", "isIn", "(LMoleculeRegistry$Graph;LMoleculeRegistry$Graph;)Z"⟩ prog_5_method_3_code 3 (some .boolean),
  .code ⟨"MoleculeRegistry$Reader", "start", "([CIZ)V"⟩ prog_6_method_2_code 4 none,
  .code ⟨"MoleculeRegistry$Reader", "readAtoms", "()Z"⟩ prog_6_method_4_code 5 (some .boolean),
  .code ⟨"MoleculeRegistry$Reader", "readLink", "()I"⟩ prog_6_method_9_code 1 (some .int),
  .code ⟨"MoleculeRegistry$Reader", "takes", "(C)Z"⟩ prog_6_method_8_code 3 (some .boolean),
  .code ⟨"MoleculeRegistry$Reader", "readAtom", "()Z"⟩ prog_6_method_16_code 2 (some .boolean),
  .code ⟨"MoleculeRegistry$Reader", "here", "()C"⟩ prog_6_method_7_code 1 (some .char),
  .code ⟨"MoleculeRegistry$Reader", "readBrackets", "()Z"⟩ prog_6_method_18_code 4 (some .boolean),
  .code ⟨"MoleculeRegistry$Reader", "readList", "(C)Z"⟩ prog_6_method_19_code 5 (some .boolean),
  .code ⟨"MoleculeRegistry$Reader", "addAtom", "(II)Z"⟩ prog_6_method_17_code 3 (some .boolean),
  .code ⟨"MoleculeRegistry$Reader", "readHydrogens", "()I"⟩ prog_6_method_20_code 2 (some .int),
  .code ⟨"MoleculeRegistry$Reader", "readCharge", "()I"⟩ prog_6_method_21_code 1 (some .int),
  .code ⟨"MoleculeRegistry$Reader", "bind", "(III)Z"⟩ prog_6_method_13_code 5 (some .boolean),
  .code ⟨"MoleculeRegistry$Reader", "kindFor", "(III)I"⟩ prog_6_method_15_code 5 (some .int),
  .code ⟨"MoleculeRegistry$Reader", "areBound", "(II)Z"⟩ prog_6_method_14_code 5 (some .boolean),
  .code ⟨"MoleculeRegistry$Reader", "readClosures", "(I)Z"⟩ prog_6_method_10_code 6 (some .boolean),
  .code ⟨"MoleculeRegistry$Reader", "openOrClose", "(III)Z"⟩ prog_6_method_11_code 6 (some .boolean),
  .code ⟨"MoleculeRegistry$Reader", "readPartEnds", "(I)I"⟩ prog_6_method_5_code 4 (some .int),
  .code ⟨"MoleculeRegistry$Reader", "readPartStart", "(I)V"⟩ prog_6_method_6_code 2 none,
  .code ⟨"MoleculeRegistry$Reader", "aDigitIsOpen", "()Z"⟩ prog_6_method_12_code 2 (some .boolean),
  .code ⟨"MoleculeRegistry$Reader", "fill", "(LMoleculeRegistry$Graph;)V"⟩ prog_6_method_3_code 3 none,
  .code ⟨"MoleculeRegistry$Shelf", "slotOf", "(I)I"⟩ prog_7_method_2_code 3 (some .int),
  .code ⟨"MoleculeRegistry$Shelf", "take", "(I)V"⟩ prog_7_method_4_code 5 none,
  .code ⟨"MoleculeRegistry$Shelf", "put", "(ILMoleculeRegistry$Graph;)V"⟩ prog_7_method_3_code 3 none,
  .code ⟨"MoleculeRegistry", "type", "(J)Z"⟩ prog_1_method_2_code 6 (some .boolean),
  .code ⟨"MoleculeRegistry", "byteAt", "(JI)I"⟩ prog_1_method_3_code 3 (some .int),
  .code ⟨"MoleculeRegistry", "append", "(J)V"⟩ prog_1_method_4_code 5 none,
  .code ⟨"MoleculeRegistry", "wipe", "()V"⟩ prog_1_method_5_code 1 none,
  .code ⟨"MoleculeRegistry", "found", "(I)I"⟩ prog_1_method_9_code 2 (some .int),
  .code ⟨"MoleculeRegistry", "fail", "(I)Z"⟩ prog_1_method_11_code 2 (some .boolean)]
def V_15 : List Cond := [.code ⟨"MoleculeRegistry", "recover", "()I"⟩ prog_1_method_12_code 2 (some .int),
  .code ⟨"MoleculeRegistry", "carryOut", "()V"⟩ prog_1_method_22_code 2 none,
  .code ⟨"MoleculeRegistry", "count", "()I"⟩ prog_1_method_13_code 1 (some .int),
  .code ⟨"MoleculeRegistry", "atoms", "(I)I"⟩ prog_1_method_14_code 3 (some .int),
  .code ⟨"MoleculeRegistry", "visible", "(I)LMoleculeRegistry$Graph;"⟩ prog_1_method_17_code 3 (some (.object "MoleculeRegistry$Graph")),
  .code ⟨"MoleculeRegistry", "atom", "(II)I"⟩ prog_1_method_15_code 4 (some .int),
  .code ⟨"MoleculeRegistry", "bond", "(III)I"⟩ prog_1_method_16_code 5 (some .int),
  .code ⟨"MoleculeRegistry", "register", "()I"⟩ prog_1_method_6_code 3 (some .int),
  .code ⟨"MoleculeRegistry", "readBuffer", "(Z)V"⟩ prog_1_method_19_code 2 none,
  .code ⟨"MoleculeRegistry", "refuseWhenDown", "()V"⟩ prog_1_method_18_code 1 none,
  .code ⟨"MoleculeRegistry", "idOfSame", "()I"⟩ prog_1_method_20_code 2 (some .int),
  .code ⟨"MoleculeRegistry", "change", "(ZI)Z"⟩ prog_1_method_21_code 4 (some .boolean),
  .code ⟨"MoleculeRegistry", "lookup", "()I"⟩ prog_1_method_7_code 1 (some .int),
  .code ⟨"MoleculeRegistry", "search", "()I"⟩ prog_1_method_8_code 2 (some .int),
  .code ⟨"MoleculeRegistry", "remove", "(I)I"⟩ prog_1_method_10_code 2 (some .int),
  .code ⟨"MoleculeRegistryModel", "thrown", "()I"⟩ prog_9_method_2_code 1 (some .int),
  .code ⟨"MoleculeRegistryModel", "type", "(J)Z"⟩ prog_9_method_4_code 7 (some .boolean),
  .code ⟨"MoleculeRegistryModel", "wipe", "()V"⟩ prog_9_method_5_code 1 none,
  .code ⟨"MoleculeRegistryModel", "register", "()I"⟩ prog_9_method_32_code 4 (some .int),
  .code ⟨"MoleculeRegistryModel", "raise", "(I)I"⟩ prog_9_method_3_code 2 (some .int),
  .code ⟨"MoleculeRegistryModel", "wrongness", "()I"⟩ prog_9_method_22_code 1 (some .int),
  .code ⟨"MoleculeRegistryModel", "read", "(Z)Z"⟩ prog_9_method_15_code 8 (some .boolean),
  .code ⟨"MoleculeRegistryModel", "ch", "(I)I"⟩ prog_9_method_6_code 2 (some .int),
  .code ⟨"MoleculeRegistryModel", "linkOf", "(IZ)I"⟩ prog_9_method_8_code 2 (some .int),
  .code ⟨"MoleculeRegistryModel", "atom", "(Z)Z"⟩ prog_9_method_10_code 3 (some .boolean),
  .code ⟨"MoleculeRegistryModel", "placeOf", "(I)I"⟩ prog_9_method_7_code 1 (some .int),
  .code ⟨"MoleculeRegistryModel", "newAtom", "(IZ)V"⟩ prog_9_method_9_code 4 none,
  .code ⟨"MoleculeRegistryModel", "several", "()Z"⟩ prog_9_method_11_code 4 (some .boolean),
  .code ⟨"MoleculeRegistryModel", "one", "()Z"⟩ prog_9_method_12_code 2 (some .boolean),
  .code ⟨"MoleculeRegistryModel", "bind", "(III)V"⟩ prog_9_method_13_code 8 none,
  .code ⟨"MoleculeRegistryModel", "closures", "(IZ)V"⟩ prog_9_method_14_code 7 none,
  .code ⟨"MoleculeRegistryModel", "valences", "()Z"⟩ prog_9_method_18_code 6 (some .boolean),
  .code ⟨"MoleculeRegistryModel", "orders", "(I)I"⟩ prog_9_method_17_code 6 (some .int),
  .code ⟨"MoleculeRegistryModel", "most", "(I)I"⟩ prog_9_method_16_code 3 (some .int),
  .code ⟨"MoleculeRegistryModel", "matching", "()Z"⟩ prog_9_method_20_code 5 (some .boolean),
  .code ⟨"MoleculeRegistryModel", "pairs", "(I)Z"⟩ prog_9_method_19_code 2 (some .boolean),
  .code ⟨"MoleculeRegistryModel", "free", "()I"⟩ prog_9_method_21_code 2 (some .int),
  .code ⟨"MoleculeRegistryModel", "same", "()I"⟩ prog_9_method_26_code 2 (some .int),
  .code ⟨"MoleculeRegistryModel", "canBePut", "(IZ)Z"⟩ prog_9_method_25_code 5 (some .boolean),
  .code ⟨"MoleculeRegistryModel", "agrees", "(IIIZ)Z"⟩ prog_9_method_24_code 9 (some .boolean)]
def V_16 : List Cond := [.code ⟨"MoleculeRegistryModel", "fits", "(IIIZ)Z"⟩ prog_9_method_23_code 7 (some .boolean),
  .code ⟨"MoleculeRegistryModel", "keepText", "()V"⟩ prog_9_method_27_code 3 none,
  .code ⟨"MoleculeRegistryModel", "change", "(II)Z"⟩ prog_9_method_30_code 4 (some .boolean),
  .code ⟨"MoleculeRegistryModel", "perform", "()V"⟩ prog_9_method_28_code 4 none,
  .code ⟨"MoleculeRegistryModel", "placeOfId", "(I)I"⟩ prog_9_method_31_code 3 (some .int),
  .code ⟨"MoleculeRegistryModel", "copyMolecule", "(II)V"⟩ prog_9_method_29_code 4 none,
  .code ⟨"MoleculeRegistryModel", "lookup", "()I"⟩ prog_9_method_33_code 3 (some .int),
  .code ⟨"MoleculeRegistryModel", "search", "()I"⟩ prog_9_method_34_code 2 (some .int),
  .code ⟨"MoleculeRegistryModel", "found", "(I)I"⟩ prog_9_method_35_code 2 (some .int),
  .code ⟨"MoleculeRegistryModel", "remove", "(I)I"⟩ prog_9_method_36_code 2 (some .int),
  .code ⟨"MoleculeRegistryModel", "fail", "(I)Z"⟩ prog_9_method_37_code 2 (some .boolean),
  .code ⟨"MoleculeRegistryModel", "recover", "()I"⟩ prog_9_method_38_code 1 (some .int),
  .code ⟨"MoleculeRegistryModel", "count", "()I"⟩ prog_9_method_39_code 1 (some .int),
  .code ⟨"MoleculeRegistryModel", "atoms", "(I)I"⟩ prog_9_method_40_code 3 (some .int),
  .code ⟨"MoleculeRegistryModel", "atom", "(II)I"⟩ prog_9_method_41_code 5 (some .int),
  .code ⟨"MoleculeRegistryModel", "bond", "(III)I"⟩ prog_9_method_42_code 5 (some .int),
  .code ⟨"MoleculeRegistry$Chemistry", "settle", "(LMoleculeRegistry$Graph;[I)Z"⟩ prog_2_method_2_code 5 (some .boolean),
  .code ⟨"MoleculeRegistry$Chemistry", "capacity", "(I)I"⟩ prog_2_method_3_code 4 (some .int),
  .code ⟨"MoleculeRegistry$Chemistry", "orders", "(LMoleculeRegistry$Graph;I)I"⟩ prog_2_method_4_code 4 (some .int),
  .code ⟨"MoleculeRegistry$Chemistry", "pairs", "(I)Z"⟩ prog_2_method_5_code 2 (some .boolean),
  .code ⟨"MoleculeRegistry$Chemistry", "pairing", "(LMoleculeRegistry$Graph;)I"⟩ prog_2_method_6_code 3 (some .int),
  .code ⟨"MoleculeRegistry$Chemistry", "canPair", "(LMoleculeRegistry$Graph;II)Z"⟩ prog_2_method_7_code 6 (some .boolean),
  .codeWith ⟨"MoleculeRegistryLaw", "register", "(LMoleculeRegistry;[J)I"⟩ method_3_code 3 (some .int) [(0, 8, 11, 13), (0, 8, 14, 15), (0, 8, 17, 17), (0, 8, 20, 19), (0, 8, 23, 21)],
  .codeWith ⟨"MoleculeRegistryLaw", "lookup", "(LMoleculeRegistry;[J)I"⟩ method_4_code 3 (some .int) [(0, 8, 11, 13), (0, 8, 14, 15), (0, 8, 17, 17), (0, 8, 20, 19)],
  .codeWith ⟨"MoleculeRegistryLaw", "search", "(LMoleculeRegistry;[J)I"⟩ method_5_code 3 (some .int) [(0, 8, 11, 13), (0, 8, 14, 15), (0, 8, 17, 17)],
  .codeWith ⟨"MoleculeRegistryLaw", "remove", "(LMoleculeRegistry;I[J)I"⟩ method_6_code 4 (some .int) [(0, 9, 12, 13)],
  .code ⟨"java/lang/Math", "min", "(II)I"⟩ prog_17_method_69_code 2 (some .int),
  .code ⟨"java/lang/Math", "max", "(II)I"⟩ prog_17_method_65_code 2 (some .int),
  .code ⟨"java/util/Arrays", "fill", "([II)V"⟩ prog_25_method_103_code 4 none,
  .code ⟨"java/lang/Integer", "bitCount", "(I)I"⟩ prog_16_method_49_code 1 (some .int),
  .code ⟨"java/lang/String", "indexOf", "(I)I"⟩ prog_19_method_79_code 2 (some .int),
  .code ⟨"java/lang/String", "indexOf", "(II)I"⟩ prog_19_method_80_code 3 (some .int),
  .code ⟨"java/lang/String", "isLatin1", "()Z"⟩ prog_19_method_154_code 1 (some .boolean),
  .code ⟨"java/lang/String", "length", "()I"⟩ prog_19_method_54_code 1 (some .int),
  .code ⟨"java/lang/String", "coder", "()B"⟩ prog_19_method_152_code 1 (some .byte),
  .code ⟨"java/lang/StringLatin1", "canEncode", "(I)Z"⟩ prog_20_method_4_code 1 (some .boolean),
  .code ⟨"java/lang/StringLatin1", "indexOf", "([BIII)I"⟩ prog_20_method_22_code 4 (some .int),
  .code ⟨"java/lang/StringLatin1", "indexOfChar", "([BIII)I"⟩ prog_20_method_23_code 6 (some .int),
  .selects "java/lang/Throwable" ⟨"java/lang/Throwable", "fillInStackTrace", "(I)Ljava/lang/Throwable;"⟩ ⟨"java/lang/Throwable", "fillInStackTrace", "(I)Ljava/lang/Throwable;"⟩,
  .initialized "java/lang/Throwable"]
def V_17 : List Cond := [.initialized "java/lang/Exception",
  .initialized "java/lang/RuntimeException",
  .initialized "java/lang/String",
  .initialized "java/lang/StringUTF16",
  .initialized "jdk/internal/util/Preconditions",
  .initialized "java/lang/Character",
  .laysFinal "MoleculeRegistry$Reader" "MoleculeRegistry$Reader" "text" "[C",
  .lays "MoleculeRegistry$Reader" "MoleculeRegistry$Reader" "length" "I",
  .lays "MoleculeRegistry$Reader" "MoleculeRegistry$Reader" "position" "I",
  .lays "MoleculeRegistry$Reader" "MoleculeRegistry$Reader" "asPattern" "Z",
  .laysFinal "MoleculeRegistry$Reader" "MoleculeRegistry$Reader" "codes" "[I",
  .laysFinal "MoleculeRegistry$Reader" "MoleculeRegistry$Reader" "written" "[I",
  .lays "MoleculeRegistry$Reader" "MoleculeRegistry$Reader" "size" "I",
  .laysFinal "MoleculeRegistry$Reader" "MoleculeRegistry$Reader" "bondFirst" "[I",
  .laysFinal "MoleculeRegistry$Reader" "MoleculeRegistry$Reader" "bondSecond" "[I",
  .laysFinal "MoleculeRegistry$Reader" "MoleculeRegistry$Reader" "bondKind" "[I",
  .lays "MoleculeRegistry$Reader" "MoleculeRegistry$Reader" "bondCount" "I",
  .laysFinal "MoleculeRegistry$Reader" "MoleculeRegistry$Reader" "openAtom" "[I",
  .laysFinal "MoleculeRegistry$Reader" "MoleculeRegistry$Reader" "openLink" "[I",
  .laysFinal "MoleculeRegistry$Reader" "MoleculeRegistry$Reader" "branches" "[I",
  .lays "MoleculeRegistry$Reader" "MoleculeRegistry$Reader" "depth" "I",
  .superclass "MoleculeRegistry$Reader" "java/lang/Object",
  .laysFinal "MoleculeRegistry$Graph" "MoleculeRegistry$Graph" "codes" "[I",
  .laysFinal "MoleculeRegistry$Graph" "MoleculeRegistry$Graph" "kinds" "[I",
  .laysFinal "MoleculeRegistry$Graph" "MoleculeRegistry$Graph" "near" "[I",
  .lays "MoleculeRegistry$Graph" "MoleculeRegistry$Graph" "size" "I",
  .lays "MoleculeRegistry$Graph" "MoleculeRegistry$Graph" "bondCount" "I",
  .superclass "MoleculeRegistry$Graph" "java/lang/Object",
  .laysFinal "MoleculeRegistry$Matcher" "MoleculeRegistry$Matcher" "choices" "[I",
  .laysFinal "MoleculeRegistry$Matcher" "MoleculeRegistry$Matcher" "places" "[I",
  .superclass "MoleculeRegistry$Matcher" "java/lang/Object",
  .laysFinal "MoleculeRegistry$Shelf" "MoleculeRegistry$Shelf" "molecules" "[LMoleculeRegistry$Graph;",
  .laysFinal "MoleculeRegistry$Shelf" "MoleculeRegistry$Shelf" "ids" "[I",
  .lays "MoleculeRegistry$Shelf" "MoleculeRegistry$Shelf" "size" "I",
  .lays "MoleculeRegistry$Shelf" "MoleculeRegistry$Shelf" "lastId" "I",
  .superclass "MoleculeRegistry$Shelf" "java/lang/Object",
  .lays "MoleculeRegistry$Log" "MoleculeRegistry$Log" "marked" "Z",
  .lays "MoleculeRegistry$Log" "MoleculeRegistry$Log" "removing" "Z",
  .lays "MoleculeRegistry$Log" "MoleculeRegistry$Log" "id" "I",
  .laysFinal "MoleculeRegistry$Log" "MoleculeRegistry$Log" "molecule" "LMoleculeRegistry$Graph;"]
def V_18 : List Cond := [.superclass "MoleculeRegistry$Log" "java/lang/Object",
  .laysFinal "MoleculeRegistry" "MoleculeRegistry" "buffer" "[C",
  .lays "MoleculeRegistry" "MoleculeRegistry" "typed" "I",
  .laysFinal "MoleculeRegistry" "MoleculeRegistry" "reader" "LMoleculeRegistry$Reader;",
  .laysFinal "MoleculeRegistry" "MoleculeRegistry" "read" "LMoleculeRegistry$Graph;",
  .laysFinal "MoleculeRegistry" "MoleculeRegistry" "matcher" "LMoleculeRegistry$Matcher;",
  .laysFinal "MoleculeRegistry" "MoleculeRegistry" "shelf" "LMoleculeRegistry$Shelf;",
  .laysFinal "MoleculeRegistry" "MoleculeRegistry" "log" "LMoleculeRegistry$Log;",
  .laysFinal "MoleculeRegistry" "MoleculeRegistry" "hits" "[I",
  .lays "MoleculeRegistry" "MoleculeRegistry" "hitCount" "I",
  .lays "MoleculeRegistry" "MoleculeRegistry" "toldFailure" "I",
  .lays "MoleculeRegistry" "MoleculeRegistry" "down" "Z",
  .superclass "MoleculeRegistry" "java/lang/Object",
  .castable "java/lang/IllegalStateException" "java/lang/IllegalStateException",
  .declares ⟨"java/lang/RuntimeException", "<init>", "()V"⟩,
  .declares ⟨"java/lang/RuntimeException", "<init>", "(Ljava/lang/String;)V"⟩,
  .declares ⟨"java/lang/Exception", "<init>", "()V"⟩,
  .declares ⟨"java/lang/Exception", "<init>", "(Ljava/lang/String;)V"⟩,
  .declares ⟨"java/lang/Throwable", "<init>", "()V"⟩,
  .declares ⟨"java/lang/Throwable", "<init>", "(Ljava/lang/String;)V"⟩,
  .selects "java/lang/IllegalStateException" ⟨"java/lang/Throwable", "fillInStackTrace", "(I)Ljava/lang/Throwable;"⟩ ⟨"java/lang/Throwable", "fillInStackTrace", "(I)Ljava/lang/Throwable;"⟩,
  .selects "java/lang/IllegalStateException" ⟨"java/lang/Throwable", "fillInStackTrace", "()Ljava/lang/Throwable;"⟩ ⟨"java/lang/Throwable", "fillInStackTrace", "()Ljava/lang/Throwable;"⟩,
  .lays "java/lang/IllegalStateException" "java/lang/Throwable" "cause" "Ljava/lang/Throwable;",
  .lays "java/lang/Throwable" "java/lang/Throwable" "cause" "Ljava/lang/Throwable;",
  .lays "java/lang/IllegalStateException" "java/lang/Throwable" "stackTrace" "[Ljava/lang/StackTraceElement;",
  .lays "java/lang/Throwable" "java/lang/Throwable" "stackTrace" "[Ljava/lang/StackTraceElement;",
  .lays "java/lang/IllegalStateException" "java/lang/Throwable" "suppressedExceptions" "Ljava/util/List;",
  .lays "java/lang/Throwable" "java/lang/Throwable" "suppressedExceptions" "Ljava/util/List;",
  .lays "java/lang/IllegalStateException" "java/lang/Throwable" "detailMessage" "Ljava/lang/String;",
  .lays "java/lang/Throwable" "java/lang/Throwable" "detailMessage" "Ljava/lang/String;",
  .lays "java/lang/IllegalStateException" "java/lang/Throwable" "backtrace" "Ljava/lang/Object;",
  .lays "java/lang/Throwable" "java/lang/Throwable" "backtrace" "Ljava/lang/Object;",
  .fieldLink "java/lang/Throwable" 198 "java/lang/Throwable" "backtrace" "Ljava/lang/Object;",
  .superclass "java/lang/Throwable" "java/lang/Object",
  .instanceMethod ⟨"java/lang/Throwable", "<init>", "()V"⟩,
  .code ⟨"java/lang/Throwable", "<init>", "()V"⟩ prog_23_method_1_code 1 none,
  .methodLink "java/lang/Throwable" 1 ⟨"java/lang/Object", "<init>", "()V"⟩,
  .fieldLink "java/lang/Throwable" 13 "java/lang/Throwable" "UNASSIGNED_STACK" "[Ljava/lang/StackTraceElement;",
  .fieldLink "java/lang/Throwable" 20 "java/lang/Throwable" "SUPPRESSED_SENTINEL" "Ljava/util/List;",
  .methodLink "java/lang/Throwable" 27 ⟨"java/lang/Throwable", "fillInStackTrace", "()Ljava/lang/Throwable;"⟩]
def V_19 : List Cond := [.instanceMethod ⟨"java/lang/Throwable", "fillInStackTrace", "()Ljava/lang/Throwable;"⟩,
  .selects "java/lang/ArithmeticException" ⟨"java/lang/Throwable", "fillInStackTrace", "()Ljava/lang/Throwable;"⟩ ⟨"java/lang/Throwable", "fillInStackTrace", "()Ljava/lang/Throwable;"⟩,
  .selects "java/lang/IllegalArgumentException" ⟨"java/lang/Throwable", "fillInStackTrace", "()Ljava/lang/Throwable;"⟩ ⟨"java/lang/Throwable", "fillInStackTrace", "()Ljava/lang/Throwable;"⟩,
  .selects "java/lang/IndexOutOfBoundsException" ⟨"java/lang/Throwable", "fillInStackTrace", "()Ljava/lang/Throwable;"⟩ ⟨"java/lang/Throwable", "fillInStackTrace", "()Ljava/lang/Throwable;"⟩,
  .selects "java/lang/UnsupportedOperationException" ⟨"java/lang/Throwable", "fillInStackTrace", "()Ljava/lang/Throwable;"⟩ ⟨"java/lang/Throwable", "fillInStackTrace", "()Ljava/lang/Throwable;"⟩,
  .codeSync ⟨"java/lang/Throwable", "fillInStackTrace", "()Ljava/lang/Throwable;"⟩ prog_23_method_18_code 1 (some (.object "java/lang/Throwable")),
  .methodLink "java/lang/Throwable" 202 ⟨"java/lang/Throwable", "fillInStackTrace", "(I)Ljava/lang/Throwable;"⟩,
  .instanceMethod ⟨"java/lang/Throwable", "fillInStackTrace", "(I)Ljava/lang/Throwable;"⟩,
  .instantiable "java/lang/Throwable" 6,
  .native ⟨"java/lang/Throwable", "fillInStackTrace", "(I)Ljava/lang/Throwable;"⟩,
  .methodLink "MoleculeRegistry" 146 ⟨"java/lang/IllegalStateException", "<init>", "(Ljava/lang/String;)V"⟩,
  .instanceMethod ⟨"java/lang/IllegalStateException", "<init>", "(Ljava/lang/String;)V"⟩,
  .code ⟨"java/lang/IllegalStateException", "<init>", "(Ljava/lang/String;)V"⟩ prog_14_method_2_code 2 none,
  .methodLink "java/lang/IllegalStateException" 7 ⟨"java/lang/RuntimeException", "<init>", "(Ljava/lang/String;)V"⟩,
  .instanceMethod ⟨"java/lang/RuntimeException", "<init>", "(Ljava/lang/String;)V"⟩,
  .code ⟨"java/lang/RuntimeException", "<init>", "(Ljava/lang/String;)V"⟩ prog_18_method_2_code 2 none,
  .methodLink "java/lang/RuntimeException" 7 ⟨"java/lang/Exception", "<init>", "(Ljava/lang/String;)V"⟩,
  .instanceMethod ⟨"java/lang/Exception", "<init>", "(Ljava/lang/String;)V"⟩,
  .code ⟨"java/lang/Exception", "<init>", "(Ljava/lang/String;)V"⟩ prog_12_method_2_code 2 none,
  .methodLink "java/lang/Exception" 7 ⟨"java/lang/Throwable", "<init>", "(Ljava/lang/String;)V"⟩,
  .instanceMethod ⟨"java/lang/Throwable", "<init>", "(Ljava/lang/String;)V"⟩,
  .code ⟨"java/lang/Throwable", "<init>", "(Ljava/lang/String;)V"⟩ prog_23_method_2_code 2 none,
  .fieldLink "java/lang/Throwable" 31 "java/lang/Throwable" "detailMessage" "Ljava/lang/String;",
  .fieldLink "java/lang/Throwable" 7 "java/lang/Throwable" "cause" "Ljava/lang/Throwable;",
  .fieldLink "java/lang/Throwable" 17 "java/lang/Throwable" "stackTrace" "[Ljava/lang/StackTraceElement;",
  .fieldLink "java/lang/Throwable" 24 "java/lang/Throwable" "suppressedExceptions" "Ljava/util/List;",
  .lays "java/lang/IllegalStateException" "java/lang/Throwable" "depth" "I",
  .superclass "java/lang/IllegalStateException" "java/lang/RuntimeException",
  .methodLink "java/lang/String" 640 ⟨"java/lang/StringUTF16", "indexOf", "([BIII)I"⟩,
  .static ⟨"java/lang/StringUTF16", "indexOf", "([BIII)I"⟩,
  .code ⟨"java/lang/StringUTF16", "indexOf", "([BIII)I"⟩ prog_21_method_40_code 4 (some .int),
  .methodLink "java/lang/StringUTF16" 224 ⟨"java/lang/Math", "max", "(II)I"⟩,
  .methodLink "java/lang/StringUTF16" 183 ⟨"java/lang/Math", "min", "(II)I"⟩,
  .methodLink "java/lang/StringUTF16" 228 ⟨"java/lang/StringUTF16", "indexOfChar", "([BIII)I"⟩,
  .static ⟨"java/lang/StringUTF16", "indexOfChar", "([BIII)I"⟩,
  .code ⟨"java/lang/StringUTF16", "indexOfChar", "([BIII)I"⟩ prog_21_method_47_code 4 (some .int),
  .methodLink "java/lang/StringUTF16" 96 ⟨"java/lang/StringUTF16", "checkBoundsBeginEnd", "(II[B)V"⟩,
  .static ⟨"java/lang/StringUTF16", "checkBoundsBeginEnd", "(II[B)V"⟩,
  .code ⟨"java/lang/StringUTF16", "checkBoundsBeginEnd", "(II[B)V"⟩ prog_21_method_93_code 3 none,
  .methodLink "java/lang/StringUTF16" 48 ⟨"java/lang/StringUTF16", "length", "([B)I"⟩]
def V_20 : List Cond := [.static ⟨"java/lang/StringUTF16", "length", "([B)I"⟩,
  .code ⟨"java/lang/StringUTF16", "length", "([B)I"⟩ prog_21_method_6_code 1 (some .int),
  .methodLink "java/lang/StringUTF16" 241 ⟨"java/lang/String", "checkBoundsBeginEnd", "(III)V"⟩,
  .static ⟨"java/lang/String", "checkBoundsBeginEnd", "(III)V"⟩,
  .code ⟨"java/lang/String", "checkBoundsBeginEnd", "(III)V"⟩ prog_19_method_158_code 3 none,
  .fieldLink "java/lang/String" 1053 "jdk/internal/util/Preconditions" "SIOOBE_FORMATTER" "Ljava/util/function/BiFunction;",
  .methodLink "java/lang/String" 1062 ⟨"jdk/internal/util/Preconditions", "checkFromToIndex", "(IIILjava/util/function/BiFunction;)I"⟩,
  .static ⟨"jdk/internal/util/Preconditions", "checkFromToIndex", "(IIILjava/util/function/BiFunction;)I"⟩,
  .code ⟨"jdk/internal/util/Preconditions", "checkFromToIndex", "(IIILjava/util/function/BiFunction;)I"⟩ prog_26_method_12_code 4 (some .int),
  .methodLink "java/lang/StringUTF16" 244 ⟨"java/lang/StringUTF16", "indexOfCharUnsafe", "([BIII)I"⟩,
  .static ⟨"java/lang/StringUTF16", "indexOfCharUnsafe", "([BIII)I"⟩,
  .code ⟨"java/lang/StringUTF16", "indexOfCharUnsafe", "([BIII)I"⟩ prog_21_method_48_code 5 (some .int),
  .methodLink "java/lang/StringUTF16" 71 ⟨"java/lang/StringUTF16", "getChar", "([BI)C"⟩,
  .static ⟨"java/lang/StringUTF16", "getChar", "([BI)C"⟩,
  .code ⟨"java/lang/StringUTF16", "getChar", "([BI)C"⟩ prog_21_method_5_code 2 (some .char),
  .fieldLink "java/lang/StringUTF16" 44 "java/lang/StringUTF16" "$assertionsDisabled" "Z",
  .fieldLink "java/lang/StringUTF16" 59 "java/lang/StringUTF16" "HI_BYTE_SHIFT" "I",
  .fieldLink "java/lang/StringUTF16" 63 "java/lang/StringUTF16" "LO_BYTE_SHIFT" "I",
  .methodLink "java/lang/StringUTF16" 232 ⟨"java/lang/StringUTF16", "indexOfSupplementary", "([BIII)I"⟩,
  .static ⟨"java/lang/StringUTF16", "indexOfSupplementary", "([BIII)I"⟩,
  .code ⟨"java/lang/StringUTF16", "indexOfSupplementary", "([BIII)I"⟩ prog_21_method_49_code 7 (some .int),
  .methodLink "java/lang/StringUTF16" 164 ⟨"java/lang/Character", "isValidCodePoint", "(I)Z"⟩,
  .static ⟨"java/lang/Character", "isValidCodePoint", "(I)Z"⟩,
  .code ⟨"java/lang/Character", "isValidCodePoint", "(I)Z"⟩ prog_11_method_11_code 2 (some .boolean),
  .methodLink "java/lang/StringUTF16" 157 ⟨"java/lang/Character", "highSurrogate", "(I)C"⟩,
  .static ⟨"java/lang/Character", "highSurrogate", "(I)C"⟩,
  .code ⟨"java/lang/Character", "highSurrogate", "(I)C"⟩ prog_11_method_28_code 1 (some .char),
  .methodLink "java/lang/StringUTF16" 161 ⟨"java/lang/Character", "lowSurrogate", "(I)C"⟩,
  .static ⟨"java/lang/Character", "lowSurrogate", "(I)C"⟩,
  .code ⟨"java/lang/Character", "lowSurrogate", "(I)C"⟩ prog_11_method_29_code 1 (some .char),
  .castable "java/lang/IllegalArgumentException" "java/lang/IllegalArgumentException",
  .selects "java/lang/IllegalArgumentException" ⟨"java/lang/Throwable", "fillInStackTrace", "(I)Ljava/lang/Throwable;"⟩ ⟨"java/lang/Throwable", "fillInStackTrace", "(I)Ljava/lang/Throwable;"⟩,
  .lays "java/lang/IllegalArgumentException" "java/lang/Throwable" "cause" "Ljava/lang/Throwable;",
  .lays "java/lang/IllegalArgumentException" "java/lang/Throwable" "stackTrace" "[Ljava/lang/StackTraceElement;",
  .lays "java/lang/IllegalArgumentException" "java/lang/Throwable" "suppressedExceptions" "Ljava/util/List;",
  .lays "java/lang/IllegalArgumentException" "java/lang/Throwable" "detailMessage" "Ljava/lang/String;",
  .lays "java/lang/IllegalArgumentException" "java/lang/Throwable" "backtrace" "Ljava/lang/Object;",
  .methodLink "MoleculeRegistry" 162 ⟨"java/lang/IllegalArgumentException", "<init>", "(Ljava/lang/String;)V"⟩,
  .instanceMethod ⟨"java/lang/IllegalArgumentException", "<init>", "(Ljava/lang/String;)V"⟩,
  .code ⟨"java/lang/IllegalArgumentException", "<init>", "(Ljava/lang/String;)V"⟩ prog_13_method_2_code 2 none]
def V_21 : List Cond := [.methodLink "java/lang/IllegalArgumentException" 7 ⟨"java/lang/RuntimeException", "<init>", "(Ljava/lang/String;)V"⟩,
  .lays "java/lang/IllegalArgumentException" "java/lang/Throwable" "depth" "I",
  .superclass "java/lang/IllegalArgumentException" "java/lang/RuntimeException",
  .castable "java/lang/UnsupportedOperationException" "java/lang/UnsupportedOperationException",
  .selects "java/lang/UnsupportedOperationException" ⟨"java/lang/Throwable", "fillInStackTrace", "(I)Ljava/lang/Throwable;"⟩ ⟨"java/lang/Throwable", "fillInStackTrace", "(I)Ljava/lang/Throwable;"⟩,
  .lays "java/lang/UnsupportedOperationException" "java/lang/Throwable" "cause" "Ljava/lang/Throwable;",
  .lays "java/lang/UnsupportedOperationException" "java/lang/Throwable" "stackTrace" "[Ljava/lang/StackTraceElement;",
  .lays "java/lang/UnsupportedOperationException" "java/lang/Throwable" "suppressedExceptions" "Ljava/util/List;",
  .lays "java/lang/UnsupportedOperationException" "java/lang/Throwable" "detailMessage" "Ljava/lang/String;",
  .lays "java/lang/UnsupportedOperationException" "java/lang/Throwable" "backtrace" "Ljava/lang/Object;",
  .methodLink "MoleculeRegistry" 168 ⟨"java/lang/UnsupportedOperationException", "<init>", "(Ljava/lang/String;)V"⟩,
  .instanceMethod ⟨"java/lang/UnsupportedOperationException", "<init>", "(Ljava/lang/String;)V"⟩,
  .code ⟨"java/lang/UnsupportedOperationException", "<init>", "(Ljava/lang/String;)V"⟩ prog_24_method_2_code 2 none,
  .methodLink "java/lang/UnsupportedOperationException" 7 ⟨"java/lang/RuntimeException", "<init>", "(Ljava/lang/String;)V"⟩,
  .lays "java/lang/UnsupportedOperationException" "java/lang/Throwable" "depth" "I",
  .superclass "java/lang/UnsupportedOperationException" "java/lang/RuntimeException",
  .castable "java/lang/ArithmeticException" "java/lang/ArithmeticException",
  .selects "java/lang/ArithmeticException" ⟨"java/lang/Throwable", "fillInStackTrace", "(I)Ljava/lang/Throwable;"⟩ ⟨"java/lang/Throwable", "fillInStackTrace", "(I)Ljava/lang/Throwable;"⟩,
  .lays "java/lang/ArithmeticException" "java/lang/Throwable" "cause" "Ljava/lang/Throwable;",
  .lays "java/lang/ArithmeticException" "java/lang/Throwable" "stackTrace" "[Ljava/lang/StackTraceElement;",
  .lays "java/lang/ArithmeticException" "java/lang/Throwable" "suppressedExceptions" "Ljava/util/List;",
  .lays "java/lang/ArithmeticException" "java/lang/Throwable" "detailMessage" "Ljava/lang/String;",
  .lays "java/lang/ArithmeticException" "java/lang/Throwable" "backtrace" "Ljava/lang/Object;",
  .methodLink "MoleculeRegistry" 186 ⟨"java/lang/ArithmeticException", "<init>", "(Ljava/lang/String;)V"⟩,
  .instanceMethod ⟨"java/lang/ArithmeticException", "<init>", "(Ljava/lang/String;)V"⟩,
  .code ⟨"java/lang/ArithmeticException", "<init>", "(Ljava/lang/String;)V"⟩ prog_10_method_2_code 2 none,
  .methodLink "java/lang/ArithmeticException" 7 ⟨"java/lang/RuntimeException", "<init>", "(Ljava/lang/String;)V"⟩,
  .lays "java/lang/ArithmeticException" "java/lang/Throwable" "depth" "I",
  .superclass "java/lang/ArithmeticException" "java/lang/RuntimeException",
  .castable "java/lang/IndexOutOfBoundsException" "java/lang/IndexOutOfBoundsException",
  .selects "java/lang/IndexOutOfBoundsException" ⟨"java/lang/Throwable", "fillInStackTrace", "(I)Ljava/lang/Throwable;"⟩ ⟨"java/lang/Throwable", "fillInStackTrace", "(I)Ljava/lang/Throwable;"⟩,
  .lays "java/lang/IndexOutOfBoundsException" "java/lang/Throwable" "cause" "Ljava/lang/Throwable;",
  .lays "java/lang/IndexOutOfBoundsException" "java/lang/Throwable" "stackTrace" "[Ljava/lang/StackTraceElement;",
  .lays "java/lang/IndexOutOfBoundsException" "java/lang/Throwable" "suppressedExceptions" "Ljava/util/List;",
  .lays "java/lang/IndexOutOfBoundsException" "java/lang/Throwable" "detailMessage" "Ljava/lang/String;",
  .lays "java/lang/IndexOutOfBoundsException" "java/lang/Throwable" "backtrace" "Ljava/lang/Object;",
  .methodLink "MoleculeRegistry" 82 ⟨"java/lang/IndexOutOfBoundsException", "<init>", "(Ljava/lang/String;)V"⟩,
  .instanceMethod ⟨"java/lang/IndexOutOfBoundsException", "<init>", "(Ljava/lang/String;)V"⟩,
  .code ⟨"java/lang/IndexOutOfBoundsException", "<init>", "(Ljava/lang/String;)V"⟩ prog_15_method_2_code 2 none,
  .methodLink "java/lang/IndexOutOfBoundsException" 7 ⟨"java/lang/RuntimeException", "<init>", "(Ljava/lang/String;)V"⟩]
def V_22 : List Cond := [.lays "java/lang/IndexOutOfBoundsException" "java/lang/Throwable" "depth" "I",
  .superclass "java/lang/IndexOutOfBoundsException" "java/lang/RuntimeException",
  .lays "MoleculeRegistryModel" "MoleculeRegistryModel" "thrown" "I",
  .lays "MoleculeRegistryModel" "MoleculeRegistryModel" "size" "I",
  .laysFinal "MoleculeRegistryModel" "MoleculeRegistryModel" "buf" "[I",
  .lays "MoleculeRegistryModel" "MoleculeRegistryModel" "at" "I",
  .lays "MoleculeRegistryModel" "MoleculeRegistryModel" "many" "I",
  .laysFinal "MoleculeRegistryModel" "MoleculeRegistryModel" "element" "[I",
  .laysFinal "MoleculeRegistryModel" "MoleculeRegistryModel" "aromatic" "[Z",
  .laysFinal "MoleculeRegistryModel" "MoleculeRegistryModel" "hydrogens" "[I",
  .laysFinal "MoleculeRegistryModel" "MoleculeRegistryModel" "charge" "[I",
  .laysFinal "MoleculeRegistryModel" "MoleculeRegistryModel" "bracket" "[Z",
  .laysFinal "MoleculeRegistryModel" "MoleculeRegistryModel" "list" "[I",
  .laysFinal "MoleculeRegistryModel" "MoleculeRegistryModel" "bonds" "[I",
  .laysFinal "MoleculeRegistryModel" "MoleculeRegistryModel" "back" "[I",
  .laysFinal "MoleculeRegistryModel" "MoleculeRegistryModel" "opener" "[I",
  .laysFinal "MoleculeRegistryModel" "MoleculeRegistryModel" "openLink" "[I",
  .lays "MoleculeRegistryModel" "MoleculeRegistryModel" "good" "Z",
  .lays "MoleculeRegistryModel" "MoleculeRegistryModel" "count" "I",
  .lays "MoleculeRegistryModel" "MoleculeRegistryModel" "lastId" "I",
  .laysFinal "MoleculeRegistryModel" "MoleculeRegistryModel" "ids" "[I",
  .laysFinal "MoleculeRegistryModel" "MoleculeRegistryModel" "sizes" "[I",
  .laysFinal "MoleculeRegistryModel" "MoleculeRegistryModel" "elements" "[I",
  .laysFinal "MoleculeRegistryModel" "MoleculeRegistryModel" "aromatics" "[Z",
  .laysFinal "MoleculeRegistryModel" "MoleculeRegistryModel" "hydrogenCounts" "[I",
  .laysFinal "MoleculeRegistryModel" "MoleculeRegistryModel" "charges" "[I",
  .laysFinal "MoleculeRegistryModel" "MoleculeRegistryModel" "allBonds" "[I",
  .laysFinal "MoleculeRegistryModel" "MoleculeRegistryModel" "put" "[I",
  .laysFinal "MoleculeRegistryModel" "MoleculeRegistryModel" "taken" "[Z",
  .lays "MoleculeRegistryModel" "MoleculeRegistryModel" "failure" "I",
  .lays "MoleculeRegistryModel" "MoleculeRegistryModel" "down" "Z",
  .lays "MoleculeRegistryModel" "MoleculeRegistryModel" "logged" "I",
  .lays "MoleculeRegistryModel" "MoleculeRegistryModel" "loggedId" "I",
  .lays "MoleculeRegistryModel" "MoleculeRegistryModel" "done" "Z",
  .lays "MoleculeRegistryModel" "MoleculeRegistryModel" "storeSize" "I",
  .laysFinal "MoleculeRegistryModel" "MoleculeRegistryModel" "storeElement" "[I",
  .laysFinal "MoleculeRegistryModel" "MoleculeRegistryModel" "storeAromatic" "[Z",
  .laysFinal "MoleculeRegistryModel" "MoleculeRegistryModel" "storeHydrogens" "[I",
  .laysFinal "MoleculeRegistryModel" "MoleculeRegistryModel" "storeCharge" "[I",
  .laysFinal "MoleculeRegistryModel" "MoleculeRegistryModel" "storeBonds" "[I"]
def V_23 : List Cond := [.lays "MoleculeRegistryModel" "MoleculeRegistryModel" "finds" "I",
  .laysFinal "MoleculeRegistryModel" "MoleculeRegistryModel" "foundIds" "[I",
  .superclass "MoleculeRegistryModel" "java/lang/Object",
  .classLink "MoleculeRegistryLaw" 13 "java/lang/IllegalStateException",
  .classLink "MoleculeRegistryLaw" 15 "java/lang/IllegalArgumentException",
  .classLink "MoleculeRegistryLaw" 17 "java/lang/UnsupportedOperationException",
  .classLink "MoleculeRegistryLaw" 19 "java/lang/ArithmeticException",
  .classLink "MoleculeRegistryLaw" 21 "java/lang/IndexOutOfBoundsException"]
def jx_W0 : List Cond := V_0 ++ (V_1 ++ (V_2 ++ (V_3 ++ (V_4 ++ (V_5 ++ (V_6 ++ (V_7 ++ (V_8 ++ (V_9 ++ (V_10 ++ (V_11 ++ (V_12 ++ (V_13 ++ (V_14 ++ (V_15 ++ (V_16 ++ (V_17 ++ (V_18 ++ (V_19 ++ (V_20 ++ (V_21 ++ (V_22 ++ (V_23)))))))))))))))))))))))
theorem vm_0 {w : Cond} (h : w ∈ V_0) : w ∈ jx_W0 := List.mem_append_left _ h
theorem vm_1 {w : Cond} (h : w ∈ V_1) : w ∈ jx_W0 := List.mem_append_right _ (List.mem_append_left _ h)
theorem vm_2 {w : Cond} (h : w ∈ V_2) : w ∈ jx_W0 := List.mem_append_right _ (List.mem_append_right _ (List.mem_append_left _ h))
theorem vm_3 {w : Cond} (h : w ∈ V_3) : w ∈ jx_W0 := List.mem_append_right _ (List.mem_append_right _ (List.mem_append_right _ (List.mem_append_left _ h)))
theorem vm_4 {w : Cond} (h : w ∈ V_4) : w ∈ jx_W0 := List.mem_append_right _ (List.mem_append_right _ (List.mem_append_right _ (List.mem_append_right _ (List.mem_append_left _ h))))
theorem vm_5 {w : Cond} (h : w ∈ V_5) : w ∈ jx_W0 := List.mem_append_right _ (List.mem_append_right _ (List.mem_append_right _ (List.mem_append_right _ (List.mem_append_right _ (List.mem_append_left _ h)))))
theorem vm_6 {w : Cond} (h : w ∈ V_6) : w ∈ jx_W0 := List.mem_append_right _ (List.mem_append_right _ (List.mem_append_right _ (List.mem_append_right _ (List.mem_append_right _ (List.mem_append_right _ (List.mem_append_left _ h))))))
theorem vm_7 {w : Cond} (h : w ∈ V_7) : w ∈ jx_W0 := List.mem_append_right _ (List.mem_append_right _ (List.mem_append_right _ (List.mem_append_right _ (List.mem_append_right _ (List.mem_append_right _ (List.mem_append_right _ (List.mem_append_left _ h)))))))
theorem vm_8 {w : Cond} (h : w ∈ V_8) : w ∈ jx_W0 := List.mem_append_right _ (List.mem_append_right _ (List.mem_append_right _ (List.mem_append_right _ (List.mem_append_right _ (List.mem_append_right _ (List.mem_append_right _ (List.mem_append_right _ (List.mem_append_left _ h))))))))
theorem vm_9 {w : Cond} (h : w ∈ V_9) : w ∈ jx_W0 := List.mem_append_right _ (List.mem_append_right _ (List.mem_append_right _ (List.mem_append_right _ (List.mem_append_right _ (List.mem_append_right _ (List.mem_append_right _ (List.mem_append_right _ (List.mem_append_right _ (List.mem_append_left _ h)))))))))
theorem vm_10 {w : Cond} (h : w ∈ V_10) : w ∈ jx_W0 := List.mem_append_right _ (List.mem_append_right _ (List.mem_append_right _ (List.mem_append_right _ (List.mem_append_right _ (List.mem_append_right _ (List.mem_append_right _ (List.mem_append_right _ (List.mem_append_right _ (List.mem_append_right _ (List.mem_append_left _ h))))))))))
theorem vm_11 {w : Cond} (h : w ∈ V_11) : w ∈ jx_W0 := List.mem_append_right _ (List.mem_append_right _ (List.mem_append_right _ (List.mem_append_right _ (List.mem_append_right _ (List.mem_append_right _ (List.mem_append_right _ (List.mem_append_right _ (List.mem_append_right _ (List.mem_append_right _ (List.mem_append_right _ (List.mem_append_left _ h)))))))))))
theorem vm_12 {w : Cond} (h : w ∈ V_12) : w ∈ jx_W0 := List.mem_append_right _ (List.mem_append_right _ (List.mem_append_right _ (List.mem_append_right _ (List.mem_append_right _ (List.mem_append_right _ (List.mem_append_right _ (List.mem_append_right _ (List.mem_append_right _ (List.mem_append_right _ (List.mem_append_right _ (List.mem_append_right _ (List.mem_append_left _ h))))))))))))
theorem vm_13 {w : Cond} (h : w ∈ V_13) : w ∈ jx_W0 := List.mem_append_right _ (List.mem_append_right _ (List.mem_append_right _ (List.mem_append_right _ (List.mem_append_right _ (List.mem_append_right _ (List.mem_append_right _ (List.mem_append_right _ (List.mem_append_right _ (List.mem_append_right _ (List.mem_append_right _ (List.mem_append_right _ (List.mem_append_right _ (List.mem_append_left _ h)))))))))))))
theorem vm_14 {w : Cond} (h : w ∈ V_14) : w ∈ jx_W0 := List.mem_append_right _ (List.mem_append_right _ (List.mem_append_right _ (List.mem_append_right _ (List.mem_append_right _ (List.mem_append_right _ (List.mem_append_right _ (List.mem_append_right _ (List.mem_append_right _ (List.mem_append_right _ (List.mem_append_right _ (List.mem_append_right _ (List.mem_append_right _ (List.mem_append_right _ (List.mem_append_left _ h))))))))))))))
theorem vm_15 {w : Cond} (h : w ∈ V_15) : w ∈ jx_W0 := List.mem_append_right _ (List.mem_append_right _ (List.mem_append_right _ (List.mem_append_right _ (List.mem_append_right _ (List.mem_append_right _ (List.mem_append_right _ (List.mem_append_right _ (List.mem_append_right _ (List.mem_append_right _ (List.mem_append_right _ (List.mem_append_right _ (List.mem_append_right _ (List.mem_append_right _ (List.mem_append_right _ (List.mem_append_left _ h)))))))))))))))
theorem vm_16 {w : Cond} (h : w ∈ V_16) : w ∈ jx_W0 := List.mem_append_right _ (List.mem_append_right _ (List.mem_append_right _ (List.mem_append_right _ (List.mem_append_right _ (List.mem_append_right _ (List.mem_append_right _ (List.mem_append_right _ (List.mem_append_right _ (List.mem_append_right _ (List.mem_append_right _ (List.mem_append_right _ (List.mem_append_right _ (List.mem_append_right _ (List.mem_append_right _ (List.mem_append_right _ (List.mem_append_left _ h))))))))))))))))
theorem vm_17 {w : Cond} (h : w ∈ V_17) : w ∈ jx_W0 := List.mem_append_right _ (List.mem_append_right _ (List.mem_append_right _ (List.mem_append_right _ (List.mem_append_right _ (List.mem_append_right _ (List.mem_append_right _ (List.mem_append_right _ (List.mem_append_right _ (List.mem_append_right _ (List.mem_append_right _ (List.mem_append_right _ (List.mem_append_right _ (List.mem_append_right _ (List.mem_append_right _ (List.mem_append_right _ (List.mem_append_right _ (List.mem_append_left _ h)))))))))))))))))
theorem vm_18 {w : Cond} (h : w ∈ V_18) : w ∈ jx_W0 := List.mem_append_right _ (List.mem_append_right _ (List.mem_append_right _ (List.mem_append_right _ (List.mem_append_right _ (List.mem_append_right _ (List.mem_append_right _ (List.mem_append_right _ (List.mem_append_right _ (List.mem_append_right _ (List.mem_append_right _ (List.mem_append_right _ (List.mem_append_right _ (List.mem_append_right _ (List.mem_append_right _ (List.mem_append_right _ (List.mem_append_right _ (List.mem_append_right _ (List.mem_append_left _ h))))))))))))))))))
theorem vm_19 {w : Cond} (h : w ∈ V_19) : w ∈ jx_W0 := List.mem_append_right _ (List.mem_append_right _ (List.mem_append_right _ (List.mem_append_right _ (List.mem_append_right _ (List.mem_append_right _ (List.mem_append_right _ (List.mem_append_right _ (List.mem_append_right _ (List.mem_append_right _ (List.mem_append_right _ (List.mem_append_right _ (List.mem_append_right _ (List.mem_append_right _ (List.mem_append_right _ (List.mem_append_right _ (List.mem_append_right _ (List.mem_append_right _ (List.mem_append_right _ (List.mem_append_left _ h)))))))))))))))))))
theorem vm_20 {w : Cond} (h : w ∈ V_20) : w ∈ jx_W0 := List.mem_append_right _ (List.mem_append_right _ (List.mem_append_right _ (List.mem_append_right _ (List.mem_append_right _ (List.mem_append_right _ (List.mem_append_right _ (List.mem_append_right _ (List.mem_append_right _ (List.mem_append_right _ (List.mem_append_right _ (List.mem_append_right _ (List.mem_append_right _ (List.mem_append_right _ (List.mem_append_right _ (List.mem_append_right _ (List.mem_append_right _ (List.mem_append_right _ (List.mem_append_right _ (List.mem_append_right _ (List.mem_append_left _ h))))))))))))))))))))
theorem vm_21 {w : Cond} (h : w ∈ V_21) : w ∈ jx_W0 := List.mem_append_right _ (List.mem_append_right _ (List.mem_append_right _ (List.mem_append_right _ (List.mem_append_right _ (List.mem_append_right _ (List.mem_append_right _ (List.mem_append_right _ (List.mem_append_right _ (List.mem_append_right _ (List.mem_append_right _ (List.mem_append_right _ (List.mem_append_right _ (List.mem_append_right _ (List.mem_append_right _ (List.mem_append_right _ (List.mem_append_right _ (List.mem_append_right _ (List.mem_append_right _ (List.mem_append_right _ (List.mem_append_right _ (List.mem_append_left _ h)))))))))))))))))))))
theorem vm_22 {w : Cond} (h : w ∈ V_22) : w ∈ jx_W0 := List.mem_append_right _ (List.mem_append_right _ (List.mem_append_right _ (List.mem_append_right _ (List.mem_append_right _ (List.mem_append_right _ (List.mem_append_right _ (List.mem_append_right _ (List.mem_append_right _ (List.mem_append_right _ (List.mem_append_right _ (List.mem_append_right _ (List.mem_append_right _ (List.mem_append_right _ (List.mem_append_right _ (List.mem_append_right _ (List.mem_append_right _ (List.mem_append_right _ (List.mem_append_right _ (List.mem_append_right _ (List.mem_append_right _ (List.mem_append_right _ (List.mem_append_left _ h))))))))))))))))))))))
theorem vm_23 {w : Cond} (h : w ∈ V_23) : w ∈ jx_W0 := List.mem_append_right _ (List.mem_append_right _ (List.mem_append_right _ (List.mem_append_right _ (List.mem_append_right _ (List.mem_append_right _ (List.mem_append_right _ (List.mem_append_right _ (List.mem_append_right _ (List.mem_append_right _ (List.mem_append_right _ (List.mem_append_right _ (List.mem_append_right _ (List.mem_append_right _ (List.mem_append_right _ (List.mem_append_right _ (List.mem_append_right _ (List.mem_append_right _ (List.mem_append_right _ (List.mem_append_right _ (List.mem_append_right _ (List.mem_append_right _ (List.mem_append_right _ (h)))))))))))))))))))))))
theorem w_0 : (.classLink "MoleculeRegistryLaw" 8 "MoleculeRegistry" : Cond) ∈ jx_W0 := vm_0 (List.mem_of_getElem? (i := 0) rfl)
theorem w_1 : (.instantiable "MoleculeRegistry" 11 : Cond) ∈ jx_W0 := vm_0 (List.mem_of_getElem? (i := 1) rfl)
theorem w_2 : (.initialized "MoleculeRegistry" : Cond) ∈ jx_W0 := vm_0 (List.mem_of_getElem? (i := 2) rfl)
theorem w_3 : (.methodLink "MoleculeRegistryLaw" 33 ⟨"MoleculeRegistry", "<init>", "()V"⟩ : Cond) ∈ jx_W0 := vm_0 (List.mem_of_getElem? (i := 3) rfl)
theorem w_4 : (.code ⟨"MoleculeRegistry", "<init>", "()V"⟩ prog_1_method_1_code 1 none : Cond) ∈ jx_W0 := vm_0 (List.mem_of_getElem? (i := 4) rfl)
theorem w_5 : (.instanceMethod ⟨"MoleculeRegistry", "<init>", "()V"⟩ : Cond) ∈ jx_W0 := vm_0 (List.mem_of_getElem? (i := 5) rfl)
theorem w_6 : (.classLink "MoleculeRegistryLaw" 34 "MoleculeRegistryModel" : Cond) ∈ jx_W0 := vm_0 (List.mem_of_getElem? (i := 6) rfl)
theorem w_7 : (.instantiable "MoleculeRegistryModel" 40 : Cond) ∈ jx_W0 := vm_0 (List.mem_of_getElem? (i := 7) rfl)
theorem w_8 : (.initialized "MoleculeRegistryModel" : Cond) ∈ jx_W0 := vm_0 (List.mem_of_getElem? (i := 8) rfl)
theorem w_9 : (.methodLink "MoleculeRegistryLaw" 36 ⟨"MoleculeRegistryModel", "<init>", "()V"⟩ : Cond) ∈ jx_W0 := vm_0 (List.mem_of_getElem? (i := 9) rfl)
theorem w_10 : (.code ⟨"MoleculeRegistryModel", "<init>", "()V"⟩ prog_9_method_1_code 1 none : Cond) ∈ jx_W0 := vm_0 (List.mem_of_getElem? (i := 10) rfl)
theorem w_11 : (.instanceMethod ⟨"MoleculeRegistryModel", "<init>", "()V"⟩ : Cond) ∈ jx_W0 := vm_0 (List.mem_of_getElem? (i := 11) rfl)
theorem w_12 : (.arrayClass .long : Cond) ∈ jx_W0 := vm_0 (List.mem_of_getElem? (i := 12) rfl)
theorem w_13 : (.constantLong "MoleculeRegistryLaw" 37 4294967295 : Cond) ∈ jx_W0 := vm_0 (List.mem_of_getElem? (i := 13) rfl)
theorem w_14 : (.methodLink "MoleculeRegistryLaw" 39 ⟨"MoleculeRegistry", "type", "(J)Z"⟩ : Cond) ∈ jx_W0 := vm_0 (List.mem_of_getElem? (i := 14) rfl)
theorem w_15 : (.instanceMethod ⟨"MoleculeRegistry", "type", "(J)Z"⟩ : Cond) ∈ jx_W0 := vm_0 (List.mem_of_getElem? (i := 15) rfl)
theorem w_16 : (.selects "MoleculeRegistry" ⟨"MoleculeRegistry", "type", "(J)Z"⟩ ⟨"MoleculeRegistry", "type", "(J)Z"⟩ : Cond) ∈ jx_W0 := vm_0 (List.mem_of_getElem? (i := 16) rfl)
theorem w_17 : (.methodLink "MoleculeRegistryLaw" 43 ⟨"MoleculeRegistryModel", "type", "(J)Z"⟩ : Cond) ∈ jx_W0 := vm_0 (List.mem_of_getElem? (i := 17) rfl)
theorem w_18 : (.instanceMethod ⟨"MoleculeRegistryModel", "type", "(J)Z"⟩ : Cond) ∈ jx_W0 := vm_0 (List.mem_of_getElem? (i := 18) rfl)
theorem w_19 : (.selects "MoleculeRegistryModel" ⟨"MoleculeRegistryModel", "type", "(J)Z"⟩ ⟨"MoleculeRegistryModel", "type", "(J)Z"⟩ : Cond) ∈ jx_W0 := vm_0 (List.mem_of_getElem? (i := 19) rfl)
theorem w_20 : (.methodLink "MoleculeRegistryLaw" 44 ⟨"MoleculeRegistry", "wipe", "()V"⟩ : Cond) ∈ jx_W0 := vm_0 (List.mem_of_getElem? (i := 20) rfl)
theorem w_21 : (.instanceMethod ⟨"MoleculeRegistry", "wipe", "()V"⟩ : Cond) ∈ jx_W0 := vm_0 (List.mem_of_getElem? (i := 21) rfl)
theorem w_22 : (.selects "MoleculeRegistry" ⟨"MoleculeRegistry", "wipe", "()V"⟩ ⟨"MoleculeRegistry", "wipe", "()V"⟩ : Cond) ∈ jx_W0 := vm_0 (List.mem_of_getElem? (i := 22) rfl)
theorem w_23 : (.methodLink "MoleculeRegistryLaw" 47 ⟨"MoleculeRegistryModel", "wipe", "()V"⟩ : Cond) ∈ jx_W0 := vm_0 (List.mem_of_getElem? (i := 23) rfl)
theorem w_24 : (.instanceMethod ⟨"MoleculeRegistryModel", "wipe", "()V"⟩ : Cond) ∈ jx_W0 := vm_0 (List.mem_of_getElem? (i := 24) rfl)
theorem w_25 : (.selects "MoleculeRegistryModel" ⟨"MoleculeRegistryModel", "wipe", "()V"⟩ ⟨"MoleculeRegistryModel", "wipe", "()V"⟩ : Cond) ∈ jx_W0 := vm_0 (List.mem_of_getElem? (i := 25) rfl)
theorem w_26 : (.methodLink "MoleculeRegistryLaw" 48 ⟨"MoleculeRegistryLaw", "register", "(LMoleculeRegistry;[J)I"⟩ : Cond) ∈ jx_W0 := vm_0 (List.mem_of_getElem? (i := 26) rfl)
theorem w_27 : (.static ⟨"MoleculeRegistryLaw", "register", "(LMoleculeRegistry;[J)I"⟩ : Cond) ∈ jx_W0 := vm_0 (List.mem_of_getElem? (i := 27) rfl)
theorem w_28 : (.initialized "MoleculeRegistryLaw" : Cond) ∈ jx_W0 := vm_0 (List.mem_of_getElem? (i := 28) rfl)
theorem w_29 : (.methodLink "MoleculeRegistryLaw" 53 ⟨"MoleculeRegistryModel", "register", "()I"⟩ : Cond) ∈ jx_W0 := vm_0 (List.mem_of_getElem? (i := 29) rfl)
theorem w_30 : (.instanceMethod ⟨"MoleculeRegistryModel", "register", "()I"⟩ : Cond) ∈ jx_W0 := vm_0 (List.mem_of_getElem? (i := 30) rfl)
theorem w_31 : (.selects "MoleculeRegistryModel" ⟨"MoleculeRegistryModel", "register", "()I"⟩ ⟨"MoleculeRegistryModel", "register", "()I"⟩ : Cond) ∈ jx_W0 := vm_0 (List.mem_of_getElem? (i := 31) rfl)
theorem w_32 : (.methodLink "MoleculeRegistryLaw" 54 ⟨"MoleculeRegistryModel", "thrown", "()I"⟩ : Cond) ∈ jx_W0 := vm_0 (List.mem_of_getElem? (i := 32) rfl)
theorem w_33 : (.instanceMethod ⟨"MoleculeRegistryModel", "thrown", "()I"⟩ : Cond) ∈ jx_W0 := vm_0 (List.mem_of_getElem? (i := 33) rfl)
theorem w_34 : (.selects "MoleculeRegistryModel" ⟨"MoleculeRegistryModel", "thrown", "()I"⟩ ⟨"MoleculeRegistryModel", "thrown", "()I"⟩ : Cond) ∈ jx_W0 := vm_0 (List.mem_of_getElem? (i := 34) rfl)
theorem w_35 : (.methodLink "MoleculeRegistryLaw" 57 ⟨"MoleculeRegistryLaw", "lookup", "(LMoleculeRegistry;[J)I"⟩ : Cond) ∈ jx_W0 := vm_0 (List.mem_of_getElem? (i := 35) rfl)
theorem w_36 : (.static ⟨"MoleculeRegistryLaw", "lookup", "(LMoleculeRegistry;[J)I"⟩ : Cond) ∈ jx_W0 := vm_0 (List.mem_of_getElem? (i := 36) rfl)
theorem w_37 : (.methodLink "MoleculeRegistryLaw" 59 ⟨"MoleculeRegistryModel", "lookup", "()I"⟩ : Cond) ∈ jx_W0 := vm_0 (List.mem_of_getElem? (i := 37) rfl)
theorem w_38 : (.instanceMethod ⟨"MoleculeRegistryModel", "lookup", "()I"⟩ : Cond) ∈ jx_W0 := vm_0 (List.mem_of_getElem? (i := 38) rfl)
theorem w_39 : (.selects "MoleculeRegistryModel" ⟨"MoleculeRegistryModel", "lookup", "()I"⟩ ⟨"MoleculeRegistryModel", "lookup", "()I"⟩ : Cond) ∈ jx_W0 := vm_0 (List.mem_of_getElem? (i := 39) rfl)
theorem w_40 : (.methodLink "MoleculeRegistryLaw" 60 ⟨"MoleculeRegistryLaw", "search", "(LMoleculeRegistry;[J)I"⟩ : Cond) ∈ jx_W0 := vm_1 (List.mem_of_getElem? (i := 0) rfl)
theorem w_41 : (.static ⟨"MoleculeRegistryLaw", "search", "(LMoleculeRegistry;[J)I"⟩ : Cond) ∈ jx_W0 := vm_1 (List.mem_of_getElem? (i := 1) rfl)
theorem w_42 : (.methodLink "MoleculeRegistryLaw" 62 ⟨"MoleculeRegistryModel", "search", "()I"⟩ : Cond) ∈ jx_W0 := vm_1 (List.mem_of_getElem? (i := 2) rfl)
theorem w_43 : (.instanceMethod ⟨"MoleculeRegistryModel", "search", "()I"⟩ : Cond) ∈ jx_W0 := vm_1 (List.mem_of_getElem? (i := 3) rfl)
theorem w_44 : (.selects "MoleculeRegistryModel" ⟨"MoleculeRegistryModel", "search", "()I"⟩ ⟨"MoleculeRegistryModel", "search", "()I"⟩ : Cond) ∈ jx_W0 := vm_1 (List.mem_of_getElem? (i := 4) rfl)
theorem w_45 : (.methodLink "MoleculeRegistryLaw" 63 ⟨"MoleculeRegistry", "found", "(I)I"⟩ : Cond) ∈ jx_W0 := vm_1 (List.mem_of_getElem? (i := 5) rfl)
theorem w_46 : (.instanceMethod ⟨"MoleculeRegistry", "found", "(I)I"⟩ : Cond) ∈ jx_W0 := vm_1 (List.mem_of_getElem? (i := 6) rfl)
theorem w_47 : (.selects "MoleculeRegistry" ⟨"MoleculeRegistry", "found", "(I)I"⟩ ⟨"MoleculeRegistry", "found", "(I)I"⟩ : Cond) ∈ jx_W0 := vm_1 (List.mem_of_getElem? (i := 7) rfl)
theorem w_48 : (.methodLink "MoleculeRegistryLaw" 66 ⟨"MoleculeRegistryModel", "found", "(I)I"⟩ : Cond) ∈ jx_W0 := vm_1 (List.mem_of_getElem? (i := 8) rfl)
theorem w_49 : (.instanceMethod ⟨"MoleculeRegistryModel", "found", "(I)I"⟩ : Cond) ∈ jx_W0 := vm_1 (List.mem_of_getElem? (i := 9) rfl)
theorem w_50 : (.selects "MoleculeRegistryModel" ⟨"MoleculeRegistryModel", "found", "(I)I"⟩ ⟨"MoleculeRegistryModel", "found", "(I)I"⟩ : Cond) ∈ jx_W0 := vm_1 (List.mem_of_getElem? (i := 10) rfl)
theorem w_51 : (.methodLink "MoleculeRegistryLaw" 67 ⟨"MoleculeRegistryLaw", "remove", "(LMoleculeRegistry;I[J)I"⟩ : Cond) ∈ jx_W0 := vm_1 (List.mem_of_getElem? (i := 11) rfl)
theorem w_52 : (.static ⟨"MoleculeRegistryLaw", "remove", "(LMoleculeRegistry;I[J)I"⟩ : Cond) ∈ jx_W0 := vm_1 (List.mem_of_getElem? (i := 12) rfl)
theorem w_53 : (.methodLink "MoleculeRegistryLaw" 70 ⟨"MoleculeRegistryModel", "remove", "(I)I"⟩ : Cond) ∈ jx_W0 := vm_1 (List.mem_of_getElem? (i := 13) rfl)
theorem w_54 : (.instanceMethod ⟨"MoleculeRegistryModel", "remove", "(I)I"⟩ : Cond) ∈ jx_W0 := vm_1 (List.mem_of_getElem? (i := 14) rfl)
theorem w_55 : (.selects "MoleculeRegistryModel" ⟨"MoleculeRegistryModel", "remove", "(I)I"⟩ ⟨"MoleculeRegistryModel", "remove", "(I)I"⟩ : Cond) ∈ jx_W0 := vm_1 (List.mem_of_getElem? (i := 15) rfl)
theorem w_56 : (.methodLink "MoleculeRegistryLaw" 71 ⟨"MoleculeRegistry", "fail", "(I)Z"⟩ : Cond) ∈ jx_W0 := vm_1 (List.mem_of_getElem? (i := 16) rfl)
theorem w_57 : (.instanceMethod ⟨"MoleculeRegistry", "fail", "(I)Z"⟩ : Cond) ∈ jx_W0 := vm_1 (List.mem_of_getElem? (i := 17) rfl)
theorem w_58 : (.selects "MoleculeRegistry" ⟨"MoleculeRegistry", "fail", "(I)Z"⟩ ⟨"MoleculeRegistry", "fail", "(I)Z"⟩ : Cond) ∈ jx_W0 := vm_1 (List.mem_of_getElem? (i := 18) rfl)
theorem w_59 : (.methodLink "MoleculeRegistryLaw" 75 ⟨"MoleculeRegistryModel", "fail", "(I)Z"⟩ : Cond) ∈ jx_W0 := vm_1 (List.mem_of_getElem? (i := 19) rfl)
theorem w_60 : (.instanceMethod ⟨"MoleculeRegistryModel", "fail", "(I)Z"⟩ : Cond) ∈ jx_W0 := vm_1 (List.mem_of_getElem? (i := 20) rfl)
theorem w_61 : (.selects "MoleculeRegistryModel" ⟨"MoleculeRegistryModel", "fail", "(I)Z"⟩ ⟨"MoleculeRegistryModel", "fail", "(I)Z"⟩ : Cond) ∈ jx_W0 := vm_1 (List.mem_of_getElem? (i := 21) rfl)
theorem w_62 : (.methodLink "MoleculeRegistryLaw" 76 ⟨"MoleculeRegistry", "recover", "()I"⟩ : Cond) ∈ jx_W0 := vm_1 (List.mem_of_getElem? (i := 22) rfl)
theorem w_63 : (.instanceMethod ⟨"MoleculeRegistry", "recover", "()I"⟩ : Cond) ∈ jx_W0 := vm_1 (List.mem_of_getElem? (i := 23) rfl)
theorem w_64 : (.selects "MoleculeRegistry" ⟨"MoleculeRegistry", "recover", "()I"⟩ ⟨"MoleculeRegistry", "recover", "()I"⟩ : Cond) ∈ jx_W0 := vm_1 (List.mem_of_getElem? (i := 24) rfl)
theorem w_65 : (.methodLink "MoleculeRegistryLaw" 79 ⟨"MoleculeRegistryModel", "recover", "()I"⟩ : Cond) ∈ jx_W0 := vm_1 (List.mem_of_getElem? (i := 25) rfl)
theorem w_66 : (.instanceMethod ⟨"MoleculeRegistryModel", "recover", "()I"⟩ : Cond) ∈ jx_W0 := vm_1 (List.mem_of_getElem? (i := 26) rfl)
theorem w_67 : (.selects "MoleculeRegistryModel" ⟨"MoleculeRegistryModel", "recover", "()I"⟩ ⟨"MoleculeRegistryModel", "recover", "()I"⟩ : Cond) ∈ jx_W0 := vm_1 (List.mem_of_getElem? (i := 27) rfl)
theorem w_68 : (.methodLink "MoleculeRegistryLaw" 80 ⟨"MoleculeRegistry", "count", "()I"⟩ : Cond) ∈ jx_W0 := vm_1 (List.mem_of_getElem? (i := 28) rfl)
theorem w_69 : (.instanceMethod ⟨"MoleculeRegistry", "count", "()I"⟩ : Cond) ∈ jx_W0 := vm_1 (List.mem_of_getElem? (i := 29) rfl)
theorem w_70 : (.selects "MoleculeRegistry" ⟨"MoleculeRegistry", "count", "()I"⟩ ⟨"MoleculeRegistry", "count", "()I"⟩ : Cond) ∈ jx_W0 := vm_1 (List.mem_of_getElem? (i := 30) rfl)
theorem w_71 : (.methodLink "MoleculeRegistryLaw" 83 ⟨"MoleculeRegistryModel", "count", "()I"⟩ : Cond) ∈ jx_W0 := vm_1 (List.mem_of_getElem? (i := 31) rfl)
theorem w_72 : (.instanceMethod ⟨"MoleculeRegistryModel", "count", "()I"⟩ : Cond) ∈ jx_W0 := vm_1 (List.mem_of_getElem? (i := 32) rfl)
theorem w_73 : (.selects "MoleculeRegistryModel" ⟨"MoleculeRegistryModel", "count", "()I"⟩ ⟨"MoleculeRegistryModel", "count", "()I"⟩ : Cond) ∈ jx_W0 := vm_1 (List.mem_of_getElem? (i := 33) rfl)
theorem w_74 : (.methodLink "MoleculeRegistryLaw" 84 ⟨"MoleculeRegistry", "atoms", "(I)I"⟩ : Cond) ∈ jx_W0 := vm_1 (List.mem_of_getElem? (i := 34) rfl)
theorem w_75 : (.instanceMethod ⟨"MoleculeRegistry", "atoms", "(I)I"⟩ : Cond) ∈ jx_W0 := vm_1 (List.mem_of_getElem? (i := 35) rfl)
theorem w_76 : (.selects "MoleculeRegistry" ⟨"MoleculeRegistry", "atoms", "(I)I"⟩ ⟨"MoleculeRegistry", "atoms", "(I)I"⟩ : Cond) ∈ jx_W0 := vm_1 (List.mem_of_getElem? (i := 36) rfl)
theorem w_77 : (.methodLink "MoleculeRegistryLaw" 87 ⟨"MoleculeRegistryModel", "atoms", "(I)I"⟩ : Cond) ∈ jx_W0 := vm_1 (List.mem_of_getElem? (i := 37) rfl)
theorem w_78 : (.instanceMethod ⟨"MoleculeRegistryModel", "atoms", "(I)I"⟩ : Cond) ∈ jx_W0 := vm_1 (List.mem_of_getElem? (i := 38) rfl)
theorem w_79 : (.selects "MoleculeRegistryModel" ⟨"MoleculeRegistryModel", "atoms", "(I)I"⟩ ⟨"MoleculeRegistryModel", "atoms", "(I)I"⟩ : Cond) ∈ jx_W0 := vm_1 (List.mem_of_getElem? (i := 39) rfl)
theorem w_80 : (.methodLink "MoleculeRegistryLaw" 88 ⟨"MoleculeRegistry", "atom", "(II)I"⟩ : Cond) ∈ jx_W0 := vm_2 (List.mem_of_getElem? (i := 0) rfl)
theorem w_81 : (.instanceMethod ⟨"MoleculeRegistry", "atom", "(II)I"⟩ : Cond) ∈ jx_W0 := vm_2 (List.mem_of_getElem? (i := 1) rfl)
theorem w_82 : (.selects "MoleculeRegistry" ⟨"MoleculeRegistry", "atom", "(II)I"⟩ ⟨"MoleculeRegistry", "atom", "(II)I"⟩ : Cond) ∈ jx_W0 := vm_2 (List.mem_of_getElem? (i := 2) rfl)
theorem w_83 : (.methodLink "MoleculeRegistryLaw" 92 ⟨"MoleculeRegistryModel", "atom", "(II)I"⟩ : Cond) ∈ jx_W0 := vm_2 (List.mem_of_getElem? (i := 3) rfl)
theorem w_84 : (.instanceMethod ⟨"MoleculeRegistryModel", "atom", "(II)I"⟩ : Cond) ∈ jx_W0 := vm_2 (List.mem_of_getElem? (i := 4) rfl)
theorem w_85 : (.selects "MoleculeRegistryModel" ⟨"MoleculeRegistryModel", "atom", "(II)I"⟩ ⟨"MoleculeRegistryModel", "atom", "(II)I"⟩ : Cond) ∈ jx_W0 := vm_2 (List.mem_of_getElem? (i := 5) rfl)
theorem w_86 : (.methodLink "MoleculeRegistryLaw" 93 ⟨"MoleculeRegistry", "bond", "(III)I"⟩ : Cond) ∈ jx_W0 := vm_2 (List.mem_of_getElem? (i := 6) rfl)
theorem w_87 : (.instanceMethod ⟨"MoleculeRegistry", "bond", "(III)I"⟩ : Cond) ∈ jx_W0 := vm_2 (List.mem_of_getElem? (i := 7) rfl)
theorem w_88 : (.selects "MoleculeRegistry" ⟨"MoleculeRegistry", "bond", "(III)I"⟩ ⟨"MoleculeRegistry", "bond", "(III)I"⟩ : Cond) ∈ jx_W0 := vm_2 (List.mem_of_getElem? (i := 8) rfl)
theorem w_89 : (.methodLink "MoleculeRegistryLaw" 97 ⟨"MoleculeRegistryModel", "bond", "(III)I"⟩ : Cond) ∈ jx_W0 := vm_2 (List.mem_of_getElem? (i := 9) rfl)
theorem w_90 : (.instanceMethod ⟨"MoleculeRegistryModel", "bond", "(III)I"⟩ : Cond) ∈ jx_W0 := vm_2 (List.mem_of_getElem? (i := 10) rfl)
theorem w_91 : (.selects "MoleculeRegistryModel" ⟨"MoleculeRegistryModel", "bond", "(III)I"⟩ ⟨"MoleculeRegistryModel", "bond", "(III)I"⟩ : Cond) ∈ jx_W0 := vm_2 (List.mem_of_getElem? (i := 11) rfl)
theorem w_92 : (.methodLink "MoleculeRegistry$Graph" 3 ⟨"java/lang/Object", "<init>", "()V"⟩ : Cond) ∈ jx_W0 := vm_2 (List.mem_of_getElem? (i := 12) rfl)
theorem w_93 : (.instanceMethod ⟨"java/lang/Object", "<init>", "()V"⟩ : Cond) ∈ jx_W0 := vm_2 (List.mem_of_getElem? (i := 13) rfl)
theorem w_94 : (.code ⟨"java/lang/Object", "<init>", "()V"⟩ object_method_1_code 1 none : Cond) ∈ jx_W0 := vm_2 (List.mem_of_getElem? (i := 14) rfl)
theorem w_95 : (.arrayClass .int : Cond) ∈ jx_W0 := vm_2 (List.mem_of_getElem? (i := 15) rfl)
theorem w_96 : (.fieldLink "MoleculeRegistry$Graph" 9 "MoleculeRegistry$Graph" "codes" "[I" : Cond) ∈ jx_W0 := vm_2 (List.mem_of_getElem? (i := 16) rfl)
theorem w_97 : (.fieldLink "MoleculeRegistry$Graph" 15 "MoleculeRegistry$Graph" "kinds" "[I" : Cond) ∈ jx_W0 := vm_2 (List.mem_of_getElem? (i := 17) rfl)
theorem w_98 : (.fieldLink "MoleculeRegistry$Graph" 18 "MoleculeRegistry$Graph" "near" "[I" : Cond) ∈ jx_W0 := vm_2 (List.mem_of_getElem? (i := 18) rfl)
theorem w_99 : (.methodLink "MoleculeRegistry$Graph" 34 ⟨"java/lang/System", "arraycopy", "(Ljava/lang/Object;ILjava/lang/Object;II)V"⟩ : Cond) ∈ jx_W0 := vm_2 (List.mem_of_getElem? (i := 19) rfl)
theorem w_100 : (.native ⟨"java/lang/System", "arraycopy", "(Ljava/lang/Object;ILjava/lang/Object;II)V"⟩ : Cond) ∈ jx_W0 := vm_2 (List.mem_of_getElem? (i := 20) rfl)
theorem w_101 : (.static ⟨"java/lang/System", "arraycopy", "(Ljava/lang/Object;ILjava/lang/Object;II)V"⟩ : Cond) ∈ jx_W0 := vm_2 (List.mem_of_getElem? (i := 21) rfl)
theorem w_102 : (.initialized "java/lang/System" : Cond) ∈ jx_W0 := vm_2 (List.mem_of_getElem? (i := 22) rfl)
theorem w_103 : (.fieldLink "MoleculeRegistry$Graph" 27 "MoleculeRegistry$Graph" "size" "I" : Cond) ∈ jx_W0 := vm_2 (List.mem_of_getElem? (i := 23) rfl)
theorem w_104 : (.fieldLink "MoleculeRegistry$Graph" 31 "MoleculeRegistry$Graph" "bondCount" "I" : Cond) ∈ jx_W0 := vm_2 (List.mem_of_getElem? (i := 24) rfl)
theorem w_105 : (.methodLink "MoleculeRegistry$Graph" 21 ⟨"java/util/Arrays", "fill", "([II)V"⟩ : Cond) ∈ jx_W0 := vm_2 (List.mem_of_getElem? (i := 25) rfl)
theorem w_106 : (.static ⟨"java/util/Arrays", "fill", "([II)V"⟩ : Cond) ∈ jx_W0 := vm_2 (List.mem_of_getElem? (i := 26) rfl)
theorem w_107 : (.initialized "java/util/Arrays" : Cond) ∈ jx_W0 := vm_2 (List.mem_of_getElem? (i := 27) rfl)
theorem w_108 : (.methodLink "MoleculeRegistry$Graph" 40 ⟨"MoleculeRegistry$Graph", "has", "(I)Z"⟩ : Cond) ∈ jx_W0 := vm_2 (List.mem_of_getElem? (i := 28) rfl)
theorem w_109 : (.instanceMethod ⟨"MoleculeRegistry$Graph", "has", "(I)Z"⟩ : Cond) ∈ jx_W0 := vm_2 (List.mem_of_getElem? (i := 29) rfl)
theorem w_110 : (.selects "MoleculeRegistry$Graph" ⟨"MoleculeRegistry$Graph", "has", "(I)Z"⟩ ⟨"MoleculeRegistry$Graph", "has", "(I)Z"⟩ : Cond) ∈ jx_W0 := vm_2 (List.mem_of_getElem? (i := 30) rfl)
theorem w_111 : (.methodLink "MoleculeRegistry$Graph" 44 ⟨"MoleculeRegistry$Graph", "joinOneWay", "(III)V"⟩ : Cond) ∈ jx_W0 := vm_2 (List.mem_of_getElem? (i := 31) rfl)
theorem w_112 : (.instanceMethod ⟨"MoleculeRegistry$Graph", "joinOneWay", "(III)V"⟩ : Cond) ∈ jx_W0 := vm_2 (List.mem_of_getElem? (i := 32) rfl)
theorem w_113 : (.selects "MoleculeRegistry$Graph" ⟨"MoleculeRegistry$Graph", "joinOneWay", "(III)V"⟩ ⟨"MoleculeRegistry$Graph", "joinOneWay", "(III)V"⟩ : Cond) ∈ jx_W0 := vm_2 (List.mem_of_getElem? (i := 33) rfl)
theorem w_114 : (.methodLink "MoleculeRegistry$Graph" 48 ⟨"java/lang/Integer", "bitCount", "(I)I"⟩ : Cond) ∈ jx_W0 := vm_2 (List.mem_of_getElem? (i := 34) rfl)
theorem w_115 : (.static ⟨"java/lang/Integer", "bitCount", "(I)I"⟩ : Cond) ∈ jx_W0 := vm_2 (List.mem_of_getElem? (i := 35) rfl)
theorem w_116 : (.initialized "java/lang/Integer" : Cond) ∈ jx_W0 := vm_2 (List.mem_of_getElem? (i := 36) rfl)
theorem w_117 : (.methodLink "MoleculeRegistry$Log" 1 ⟨"java/lang/Object", "<init>", "()V"⟩ : Cond) ∈ jx_W0 := vm_2 (List.mem_of_getElem? (i := 37) rfl)
theorem w_118 : (.classLink "MoleculeRegistry$Log" 7 "MoleculeRegistry$Graph" : Cond) ∈ jx_W0 := vm_2 (List.mem_of_getElem? (i := 38) rfl)
theorem w_119 : (.instantiable "MoleculeRegistry$Graph" 5 : Cond) ∈ jx_W0 := vm_2 (List.mem_of_getElem? (i := 39) rfl)
theorem w_120 : (.initialized "MoleculeRegistry$Graph" : Cond) ∈ jx_W0 := vm_3 (List.mem_of_getElem? (i := 0) rfl)
theorem w_121 : (.methodLinkNest "MoleculeRegistry$Log" 9 ⟨"MoleculeRegistry$Graph", "<init>", "()V"⟩ "MoleculeRegistry" : Cond) ∈ jx_W0 := vm_3 (List.mem_of_getElem? (i := 1) rfl)
theorem w_122 : (.code ⟨"MoleculeRegistry$Graph", "<init>", "()V"⟩ prog_3_method_1_code 1 none : Cond) ∈ jx_W0 := vm_3 (List.mem_of_getElem? (i := 2) rfl)
theorem w_123 : (.instanceMethod ⟨"MoleculeRegistry$Graph", "<init>", "()V"⟩ : Cond) ∈ jx_W0 := vm_3 (List.mem_of_getElem? (i := 3) rfl)
theorem w_124 : (.fieldLink "MoleculeRegistry$Log" 10 "MoleculeRegistry$Log" "molecule" "LMoleculeRegistry$Graph;" : Cond) ∈ jx_W0 := vm_3 (List.mem_of_getElem? (i := 4) rfl)
theorem w_125 : (.fieldLink "MoleculeRegistry$Log" 28 "MoleculeRegistry$Log" "marked" "Z" : Cond) ∈ jx_W0 := vm_3 (List.mem_of_getElem? (i := 5) rfl)
theorem w_126 : (.fieldLink "MoleculeRegistry$Log" 16 "MoleculeRegistry$Log" "removing" "Z" : Cond) ∈ jx_W0 := vm_3 (List.mem_of_getElem? (i := 6) rfl)
theorem w_127 : (.fieldLink "MoleculeRegistry$Log" 20 "MoleculeRegistry$Log" "id" "I" : Cond) ∈ jx_W0 := vm_3 (List.mem_of_getElem? (i := 7) rfl)
theorem w_128 : (.methodLink "MoleculeRegistry$Log" 24 ⟨"MoleculeRegistry$Graph", "copyFrom", "(LMoleculeRegistry$Graph;)V"⟩ : Cond) ∈ jx_W0 := vm_3 (List.mem_of_getElem? (i := 8) rfl)
theorem w_129 : (.instanceMethod ⟨"MoleculeRegistry$Graph", "copyFrom", "(LMoleculeRegistry$Graph;)V"⟩ : Cond) ∈ jx_W0 := vm_3 (List.mem_of_getElem? (i := 9) rfl)
theorem w_130 : (.selects "MoleculeRegistry$Graph" ⟨"MoleculeRegistry$Graph", "copyFrom", "(LMoleculeRegistry$Graph;)V"⟩ ⟨"MoleculeRegistry$Graph", "copyFrom", "(LMoleculeRegistry$Graph;)V"⟩ : Cond) ∈ jx_W0 := vm_3 (List.mem_of_getElem? (i := 10) rfl)
theorem w_131 : (.methodLink "MoleculeRegistry$Matcher" 3 ⟨"java/lang/Object", "<init>", "()V"⟩ : Cond) ∈ jx_W0 := vm_3 (List.mem_of_getElem? (i := 11) rfl)
theorem w_132 : (.fieldLink "MoleculeRegistry$Matcher" 9 "MoleculeRegistry$Matcher" "choices" "[I" : Cond) ∈ jx_W0 := vm_3 (List.mem_of_getElem? (i := 12) rfl)
theorem w_133 : (.fieldLink "MoleculeRegistry$Matcher" 15 "MoleculeRegistry$Matcher" "places" "[I" : Cond) ∈ jx_W0 := vm_3 (List.mem_of_getElem? (i := 13) rfl)
theorem w_134 : (.fieldLinkNest "MoleculeRegistry$Matcher" 18 "MoleculeRegistry$Graph" "size" "I" "MoleculeRegistry" : Cond) ∈ jx_W0 := vm_3 (List.mem_of_getElem? (i := 14) rfl)
theorem w_135 : (.fieldLinkNest "MoleculeRegistry$Matcher" 24 "MoleculeRegistry$Graph" "bondCount" "I" "MoleculeRegistry" : Cond) ∈ jx_W0 := vm_3 (List.mem_of_getElem? (i := 15) rfl)
theorem w_136 : (.methodLink "MoleculeRegistry$Matcher" 27 ⟨"MoleculeRegistry$Matcher", "findChoices", "(LMoleculeRegistry$Graph;LMoleculeRegistry$Graph;I)Z"⟩ : Cond) ∈ jx_W0 := vm_3 (List.mem_of_getElem? (i := 16) rfl)
theorem w_137 : (.instanceMethod ⟨"MoleculeRegistry$Matcher", "findChoices", "(LMoleculeRegistry$Graph;LMoleculeRegistry$Graph;I)Z"⟩ : Cond) ∈ jx_W0 := vm_3 (List.mem_of_getElem? (i := 17) rfl)
theorem w_138 : (.selects "MoleculeRegistry$Matcher" ⟨"MoleculeRegistry$Matcher", "findChoices", "(LMoleculeRegistry$Graph;LMoleculeRegistry$Graph;I)Z"⟩ ⟨"MoleculeRegistry$Matcher", "findChoices", "(LMoleculeRegistry$Graph;LMoleculeRegistry$Graph;I)Z"⟩ : Cond) ∈ jx_W0 := vm_3 (List.mem_of_getElem? (i := 18) rfl)
theorem w_139 : (.methodLink "MoleculeRegistry$Matcher" 31 ⟨"MoleculeRegistry$Matcher", "everyAtom", "(LMoleculeRegistry$Graph;)I"⟩ : Cond) ∈ jx_W0 := vm_3 (List.mem_of_getElem? (i := 19) rfl)
theorem w_140 : (.static ⟨"MoleculeRegistry$Matcher", "everyAtom", "(LMoleculeRegistry$Graph;)I"⟩ : Cond) ∈ jx_W0 := vm_3 (List.mem_of_getElem? (i := 20) rfl)
theorem w_141 : (.initialized "MoleculeRegistry$Matcher" : Cond) ∈ jx_W0 := vm_3 (List.mem_of_getElem? (i := 21) rfl)
theorem w_142 : (.methodLink "MoleculeRegistry$Matcher" 35 ⟨"MoleculeRegistry$Matcher", "canPlace", "(LMoleculeRegistry$Graph;LMoleculeRegistry$Graph;II)Z"⟩ : Cond) ∈ jx_W0 := vm_3 (List.mem_of_getElem? (i := 22) rfl)
theorem w_143 : (.instanceMethod ⟨"MoleculeRegistry$Matcher", "canPlace", "(LMoleculeRegistry$Graph;LMoleculeRegistry$Graph;II)Z"⟩ : Cond) ∈ jx_W0 := vm_3 (List.mem_of_getElem? (i := 23) rfl)
theorem w_144 : (.selects "MoleculeRegistry$Matcher" ⟨"MoleculeRegistry$Matcher", "canPlace", "(LMoleculeRegistry$Graph;LMoleculeRegistry$Graph;II)Z"⟩ ⟨"MoleculeRegistry$Matcher", "canPlace", "(LMoleculeRegistry$Graph;LMoleculeRegistry$Graph;II)Z"⟩ : Cond) ∈ jx_W0 := vm_3 (List.mem_of_getElem? (i := 24) rfl)
theorem w_145 : (.fieldLinkNest "MoleculeRegistry$Matcher" 39 "MoleculeRegistry$Graph" "codes" "[I" "MoleculeRegistry" : Cond) ∈ jx_W0 := vm_3 (List.mem_of_getElem? (i := 25) rfl)
theorem w_146 : (.methodLink "MoleculeRegistry$Matcher" 42 ⟨"MoleculeRegistry$Matcher", "fits", "(II)Z"⟩ : Cond) ∈ jx_W0 := vm_3 (List.mem_of_getElem? (i := 26) rfl)
theorem w_147 : (.static ⟨"MoleculeRegistry$Matcher", "fits", "(II)Z"⟩ : Cond) ∈ jx_W0 := vm_3 (List.mem_of_getElem? (i := 27) rfl)
theorem w_148 : (.methodLink "MoleculeRegistry$Matcher" 46 ⟨"MoleculeRegistry$Matcher", "hasBondsFor", "(LMoleculeRegistry$Graph;ILMoleculeRegistry$Graph;I)Z"⟩ : Cond) ∈ jx_W0 := vm_3 (List.mem_of_getElem? (i := 28) rfl)
theorem w_149 : (.static ⟨"MoleculeRegistry$Matcher", "hasBondsFor", "(LMoleculeRegistry$Graph;ILMoleculeRegistry$Graph;I)Z"⟩ : Cond) ∈ jx_W0 := vm_3 (List.mem_of_getElem? (i := 29) rfl)
theorem w_150 : (.methodLink "MoleculeRegistry$Matcher" 52 ⟨"java/lang/String", "indexOf", "(I)I"⟩ : Cond) ∈ jx_W0 := vm_3 (List.mem_of_getElem? (i := 30) rfl)
theorem w_151 : (.instanceMethod ⟨"java/lang/String", "indexOf", "(I)I"⟩ : Cond) ∈ jx_W0 := vm_3 (List.mem_of_getElem? (i := 31) rfl)
theorem w_152 : (.selects "java/lang/String" ⟨"java/lang/String", "indexOf", "(I)I"⟩ ⟨"java/lang/String", "indexOf", "(I)I"⟩ : Cond) ∈ jx_W0 := vm_3 (List.mem_of_getElem? (i := 32) rfl)
theorem w_153 : (.methodLink "MoleculeRegistry$Matcher" 58 ⟨"MoleculeRegistry$Graph", "degree", "(II)I"⟩ : Cond) ∈ jx_W0 := vm_3 (List.mem_of_getElem? (i := 33) rfl)
theorem w_154 : (.instanceMethod ⟨"MoleculeRegistry$Graph", "degree", "(II)I"⟩ : Cond) ∈ jx_W0 := vm_3 (List.mem_of_getElem? (i := 34) rfl)
theorem w_155 : (.selects "MoleculeRegistry$Graph" ⟨"MoleculeRegistry$Graph", "degree", "(II)I"⟩ ⟨"MoleculeRegistry$Graph", "degree", "(II)I"⟩ : Cond) ∈ jx_W0 := vm_3 (List.mem_of_getElem? (i := 35) rfl)
theorem w_156 : (.methodLink "MoleculeRegistry$Matcher" 62 ⟨"MoleculeRegistry$Graph", "kindBetween", "(II)I"⟩ : Cond) ∈ jx_W0 := vm_3 (List.mem_of_getElem? (i := 36) rfl)
theorem w_157 : (.instanceMethod ⟨"MoleculeRegistry$Graph", "kindBetween", "(II)I"⟩ : Cond) ∈ jx_W0 := vm_3 (List.mem_of_getElem? (i := 37) rfl)
theorem w_158 : (.selects "MoleculeRegistry$Graph" ⟨"MoleculeRegistry$Graph", "kindBetween", "(II)I"⟩ ⟨"MoleculeRegistry$Graph", "kindBetween", "(II)I"⟩ : Cond) ∈ jx_W0 := vm_3 (List.mem_of_getElem? (i := 38) rfl)
theorem w_159 : (.methodLink "MoleculeRegistry$Matcher" 65 ⟨"MoleculeRegistry$Graph", "boundTo", "(II)I"⟩ : Cond) ∈ jx_W0 := vm_3 (List.mem_of_getElem? (i := 39) rfl)
theorem w_160 : (.instanceMethod ⟨"MoleculeRegistry$Graph", "boundTo", "(II)I"⟩ : Cond) ∈ jx_W0 := vm_4 (List.mem_of_getElem? (i := 0) rfl)
theorem w_161 : (.selects "MoleculeRegistry$Graph" ⟨"MoleculeRegistry$Graph", "boundTo", "(II)I"⟩ ⟨"MoleculeRegistry$Graph", "boundTo", "(II)I"⟩ : Cond) ∈ jx_W0 := vm_4 (List.mem_of_getElem? (i := 1) rfl)
theorem w_162 : (.methodLink "MoleculeRegistry$Reader" 3 ⟨"java/lang/Object", "<init>", "()V"⟩ : Cond) ∈ jx_W0 := vm_4 (List.mem_of_getElem? (i := 2) rfl)
theorem w_163 : (.arrayClass .char : Cond) ∈ jx_W0 := vm_4 (List.mem_of_getElem? (i := 3) rfl)
theorem w_164 : (.fieldLink "MoleculeRegistry$Reader" 9 "MoleculeRegistry$Reader" "text" "[C" : Cond) ∈ jx_W0 := vm_4 (List.mem_of_getElem? (i := 4) rfl)
theorem w_165 : (.fieldLink "MoleculeRegistry$Reader" 15 "MoleculeRegistry$Reader" "codes" "[I" : Cond) ∈ jx_W0 := vm_4 (List.mem_of_getElem? (i := 5) rfl)
theorem w_166 : (.fieldLink "MoleculeRegistry$Reader" 19 "MoleculeRegistry$Reader" "written" "[I" : Cond) ∈ jx_W0 := vm_4 (List.mem_of_getElem? (i := 6) rfl)
theorem w_167 : (.fieldLink "MoleculeRegistry$Reader" 22 "MoleculeRegistry$Reader" "bondFirst" "[I" : Cond) ∈ jx_W0 := vm_4 (List.mem_of_getElem? (i := 7) rfl)
theorem w_168 : (.fieldLink "MoleculeRegistry$Reader" 25 "MoleculeRegistry$Reader" "bondSecond" "[I" : Cond) ∈ jx_W0 := vm_4 (List.mem_of_getElem? (i := 8) rfl)
theorem w_169 : (.fieldLink "MoleculeRegistry$Reader" 28 "MoleculeRegistry$Reader" "bondKind" "[I" : Cond) ∈ jx_W0 := vm_4 (List.mem_of_getElem? (i := 9) rfl)
theorem w_170 : (.fieldLink "MoleculeRegistry$Reader" 31 "MoleculeRegistry$Reader" "openAtom" "[I" : Cond) ∈ jx_W0 := vm_4 (List.mem_of_getElem? (i := 10) rfl)
theorem w_171 : (.fieldLink "MoleculeRegistry$Reader" 34 "MoleculeRegistry$Reader" "openLink" "[I" : Cond) ∈ jx_W0 := vm_4 (List.mem_of_getElem? (i := 11) rfl)
theorem w_172 : (.fieldLink "MoleculeRegistry$Reader" 37 "MoleculeRegistry$Reader" "branches" "[I" : Cond) ∈ jx_W0 := vm_4 (List.mem_of_getElem? (i := 12) rfl)
theorem w_173 : (.methodLink "MoleculeRegistry$Reader" 40 ⟨"java/lang/Math", "min", "(II)I"⟩ : Cond) ∈ jx_W0 := vm_4 (List.mem_of_getElem? (i := 13) rfl)
theorem w_174 : (.static ⟨"java/lang/Math", "min", "(II)I"⟩ : Cond) ∈ jx_W0 := vm_4 (List.mem_of_getElem? (i := 14) rfl)
theorem w_175 : (.initialized "java/lang/Math" : Cond) ∈ jx_W0 := vm_4 (List.mem_of_getElem? (i := 15) rfl)
theorem w_176 : (.fieldLink "MoleculeRegistry$Reader" 46 "MoleculeRegistry$Reader" "length" "I" : Cond) ∈ jx_W0 := vm_4 (List.mem_of_getElem? (i := 16) rfl)
theorem w_177 : (.methodLink "MoleculeRegistry$Reader" 50 ⟨"java/lang/System", "arraycopy", "(Ljava/lang/Object;ILjava/lang/Object;II)V"⟩ : Cond) ∈ jx_W0 := vm_4 (List.mem_of_getElem? (i := 17) rfl)
theorem w_178 : (.fieldLink "MoleculeRegistry$Reader" 56 "MoleculeRegistry$Reader" "asPattern" "Z" : Cond) ∈ jx_W0 := vm_4 (List.mem_of_getElem? (i := 18) rfl)
theorem w_179 : (.fieldLink "MoleculeRegistry$Reader" 60 "MoleculeRegistry$Reader" "position" "I" : Cond) ∈ jx_W0 := vm_4 (List.mem_of_getElem? (i := 19) rfl)
theorem w_180 : (.fieldLink "MoleculeRegistry$Reader" 63 "MoleculeRegistry$Reader" "size" "I" : Cond) ∈ jx_W0 := vm_4 (List.mem_of_getElem? (i := 20) rfl)
theorem w_181 : (.fieldLink "MoleculeRegistry$Reader" 66 "MoleculeRegistry$Reader" "bondCount" "I" : Cond) ∈ jx_W0 := vm_4 (List.mem_of_getElem? (i := 21) rfl)
theorem w_182 : (.fieldLink "MoleculeRegistry$Reader" 69 "MoleculeRegistry$Reader" "depth" "I" : Cond) ∈ jx_W0 := vm_4 (List.mem_of_getElem? (i := 22) rfl)
theorem w_183 : (.methodLink "MoleculeRegistry$Reader" 72 ⟨"java/util/Arrays", "fill", "([II)V"⟩ : Cond) ∈ jx_W0 := vm_4 (List.mem_of_getElem? (i := 23) rfl)
theorem w_184 : (.methodLink "MoleculeRegistry$Reader" 91 ⟨"MoleculeRegistry$Reader", "readLink", "()I"⟩ : Cond) ∈ jx_W0 := vm_4 (List.mem_of_getElem? (i := 24) rfl)
theorem w_185 : (.instanceMethod ⟨"MoleculeRegistry$Reader", "readLink", "()I"⟩ : Cond) ∈ jx_W0 := vm_4 (List.mem_of_getElem? (i := 25) rfl)
theorem w_186 : (.selects "MoleculeRegistry$Reader" ⟨"MoleculeRegistry$Reader", "readLink", "()I"⟩ ⟨"MoleculeRegistry$Reader", "readLink", "()I"⟩ : Cond) ∈ jx_W0 := vm_4 (List.mem_of_getElem? (i := 26) rfl)
theorem w_187 : (.methodLink "MoleculeRegistry$Reader" 95 ⟨"MoleculeRegistry$Reader", "readAtom", "()Z"⟩ : Cond) ∈ jx_W0 := vm_4 (List.mem_of_getElem? (i := 27) rfl)
theorem w_188 : (.instanceMethod ⟨"MoleculeRegistry$Reader", "readAtom", "()Z"⟩ : Cond) ∈ jx_W0 := vm_4 (List.mem_of_getElem? (i := 28) rfl)
theorem w_189 : (.selects "MoleculeRegistry$Reader" ⟨"MoleculeRegistry$Reader", "readAtom", "()Z"⟩ ⟨"MoleculeRegistry$Reader", "readAtom", "()Z"⟩ : Cond) ∈ jx_W0 := vm_4 (List.mem_of_getElem? (i := 29) rfl)
theorem w_190 : (.methodLink "MoleculeRegistry$Reader" 99 ⟨"MoleculeRegistry$Reader", "bind", "(III)Z"⟩ : Cond) ∈ jx_W0 := vm_4 (List.mem_of_getElem? (i := 30) rfl)
theorem w_191 : (.instanceMethod ⟨"MoleculeRegistry$Reader", "bind", "(III)Z"⟩ : Cond) ∈ jx_W0 := vm_4 (List.mem_of_getElem? (i := 31) rfl)
theorem w_192 : (.selects "MoleculeRegistry$Reader" ⟨"MoleculeRegistry$Reader", "bind", "(III)Z"⟩ ⟨"MoleculeRegistry$Reader", "bind", "(III)Z"⟩ : Cond) ∈ jx_W0 := vm_4 (List.mem_of_getElem? (i := 32) rfl)
theorem w_193 : (.methodLink "MoleculeRegistry$Reader" 103 ⟨"MoleculeRegistry$Reader", "readClosures", "(I)Z"⟩ : Cond) ∈ jx_W0 := vm_4 (List.mem_of_getElem? (i := 33) rfl)
theorem w_194 : (.instanceMethod ⟨"MoleculeRegistry$Reader", "readClosures", "(I)Z"⟩ : Cond) ∈ jx_W0 := vm_4 (List.mem_of_getElem? (i := 34) rfl)
theorem w_195 : (.selects "MoleculeRegistry$Reader" ⟨"MoleculeRegistry$Reader", "readClosures", "(I)Z"⟩ ⟨"MoleculeRegistry$Reader", "readClosures", "(I)Z"⟩ : Cond) ∈ jx_W0 := vm_4 (List.mem_of_getElem? (i := 35) rfl)
theorem w_196 : (.methodLink "MoleculeRegistry$Reader" 107 ⟨"MoleculeRegistry$Reader", "readPartEnds", "(I)I"⟩ : Cond) ∈ jx_W0 := vm_4 (List.mem_of_getElem? (i := 36) rfl)
theorem w_197 : (.instanceMethod ⟨"MoleculeRegistry$Reader", "readPartEnds", "(I)I"⟩ : Cond) ∈ jx_W0 := vm_4 (List.mem_of_getElem? (i := 37) rfl)
theorem w_198 : (.selects "MoleculeRegistry$Reader" ⟨"MoleculeRegistry$Reader", "readPartEnds", "(I)I"⟩ ⟨"MoleculeRegistry$Reader", "readPartEnds", "(I)I"⟩ : Cond) ∈ jx_W0 := vm_4 (List.mem_of_getElem? (i := 38) rfl)
theorem w_199 : (.methodLink "MoleculeRegistry$Reader" 111 ⟨"MoleculeRegistry$Reader", "readPartStart", "(I)V"⟩ : Cond) ∈ jx_W0 := vm_4 (List.mem_of_getElem? (i := 39) rfl)
theorem w_200 : (.instanceMethod ⟨"MoleculeRegistry$Reader", "readPartStart", "(I)V"⟩ : Cond) ∈ jx_W0 := vm_5 (List.mem_of_getElem? (i := 0) rfl)
theorem w_201 : (.selects "MoleculeRegistry$Reader" ⟨"MoleculeRegistry$Reader", "readPartStart", "(I)V"⟩ ⟨"MoleculeRegistry$Reader", "readPartStart", "(I)V"⟩ : Cond) ∈ jx_W0 := vm_5 (List.mem_of_getElem? (i := 1) rfl)
theorem w_202 : (.methodLink "MoleculeRegistry$Reader" 118 ⟨"MoleculeRegistry$Reader", "takes", "(C)Z"⟩ : Cond) ∈ jx_W0 := vm_5 (List.mem_of_getElem? (i := 2) rfl)
theorem w_203 : (.instanceMethod ⟨"MoleculeRegistry$Reader", "takes", "(C)Z"⟩ : Cond) ∈ jx_W0 := vm_5 (List.mem_of_getElem? (i := 3) rfl)
theorem w_204 : (.selects "MoleculeRegistry$Reader" ⟨"MoleculeRegistry$Reader", "takes", "(C)Z"⟩ ⟨"MoleculeRegistry$Reader", "takes", "(C)Z"⟩ : Cond) ∈ jx_W0 := vm_5 (List.mem_of_getElem? (i := 4) rfl)
theorem w_205 : (.methodLink "MoleculeRegistry$Reader" 114 ⟨"MoleculeRegistry$Reader", "here", "()C"⟩ : Cond) ∈ jx_W0 := vm_5 (List.mem_of_getElem? (i := 5) rfl)
theorem w_206 : (.instanceMethod ⟨"MoleculeRegistry$Reader", "here", "()C"⟩ : Cond) ∈ jx_W0 := vm_5 (List.mem_of_getElem? (i := 6) rfl)
theorem w_207 : (.selects "MoleculeRegistry$Reader" ⟨"MoleculeRegistry$Reader", "here", "()C"⟩ ⟨"MoleculeRegistry$Reader", "here", "()C"⟩ : Cond) ∈ jx_W0 := vm_5 (List.mem_of_getElem? (i := 7) rfl)
theorem w_208 : (.methodLink "MoleculeRegistry$Reader" 133 ⟨"MoleculeRegistry$Reader", "readBrackets", "()Z"⟩ : Cond) ∈ jx_W0 := vm_5 (List.mem_of_getElem? (i := 8) rfl)
theorem w_209 : (.instanceMethod ⟨"MoleculeRegistry$Reader", "readBrackets", "()Z"⟩ : Cond) ∈ jx_W0 := vm_5 (List.mem_of_getElem? (i := 9) rfl)
theorem w_210 : (.selects "MoleculeRegistry$Reader" ⟨"MoleculeRegistry$Reader", "readBrackets", "()Z"⟩ ⟨"MoleculeRegistry$Reader", "readBrackets", "()Z"⟩ : Cond) ∈ jx_W0 := vm_5 (List.mem_of_getElem? (i := 10) rfl)
theorem w_211 : (.methodLink "MoleculeRegistry$Reader" 136 ⟨"MoleculeRegistry$Reader", "addAtom", "(II)Z"⟩ : Cond) ∈ jx_W0 := vm_5 (List.mem_of_getElem? (i := 11) rfl)
theorem w_212 : (.instanceMethod ⟨"MoleculeRegistry$Reader", "addAtom", "(II)Z"⟩ : Cond) ∈ jx_W0 := vm_5 (List.mem_of_getElem? (i := 12) rfl)
theorem w_213 : (.selects "MoleculeRegistry$Reader" ⟨"MoleculeRegistry$Reader", "addAtom", "(II)Z"⟩ ⟨"MoleculeRegistry$Reader", "addAtom", "(II)Z"⟩ : Cond) ∈ jx_W0 := vm_5 (List.mem_of_getElem? (i := 13) rfl)
theorem w_214 : (.methodLink "MoleculeRegistry$Reader" 141 ⟨"java/lang/String", "indexOf", "(I)I"⟩ : Cond) ∈ jx_W0 := vm_5 (List.mem_of_getElem? (i := 14) rfl)
theorem w_215 : (.methodLink "MoleculeRegistry$Reader" 148 ⟨"MoleculeRegistry$Reader", "readList", "(C)Z"⟩ : Cond) ∈ jx_W0 := vm_5 (List.mem_of_getElem? (i := 15) rfl)
theorem w_216 : (.instanceMethod ⟨"MoleculeRegistry$Reader", "readList", "(C)Z"⟩ : Cond) ∈ jx_W0 := vm_5 (List.mem_of_getElem? (i := 16) rfl)
theorem w_217 : (.selects "MoleculeRegistry$Reader" ⟨"MoleculeRegistry$Reader", "readList", "(C)Z"⟩ ⟨"MoleculeRegistry$Reader", "readList", "(C)Z"⟩ : Cond) ∈ jx_W0 := vm_5 (List.mem_of_getElem? (i := 17) rfl)
theorem w_218 : (.methodLink "MoleculeRegistry$Reader" 151 ⟨"MoleculeRegistry$Reader", "readHydrogens", "()I"⟩ : Cond) ∈ jx_W0 := vm_5 (List.mem_of_getElem? (i := 18) rfl)
theorem w_219 : (.instanceMethod ⟨"MoleculeRegistry$Reader", "readHydrogens", "()I"⟩ : Cond) ∈ jx_W0 := vm_5 (List.mem_of_getElem? (i := 19) rfl)
theorem w_220 : (.selects "MoleculeRegistry$Reader" ⟨"MoleculeRegistry$Reader", "readHydrogens", "()I"⟩ ⟨"MoleculeRegistry$Reader", "readHydrogens", "()I"⟩ : Cond) ∈ jx_W0 := vm_5 (List.mem_of_getElem? (i := 20) rfl)
theorem w_221 : (.methodLink "MoleculeRegistry$Reader" 154 ⟨"MoleculeRegistry$Reader", "readCharge", "()I"⟩ : Cond) ∈ jx_W0 := vm_5 (List.mem_of_getElem? (i := 21) rfl)
theorem w_222 : (.instanceMethod ⟨"MoleculeRegistry$Reader", "readCharge", "()I"⟩ : Cond) ∈ jx_W0 := vm_5 (List.mem_of_getElem? (i := 22) rfl)
theorem w_223 : (.selects "MoleculeRegistry$Reader" ⟨"MoleculeRegistry$Reader", "readCharge", "()I"⟩ ⟨"MoleculeRegistry$Reader", "readCharge", "()I"⟩ : Cond) ∈ jx_W0 := vm_5 (List.mem_of_getElem? (i := 23) rfl)
theorem w_224 : (.methodLink "MoleculeRegistry$Reader" 125 ⟨"MoleculeRegistry$Reader", "kindFor", "(III)I"⟩ : Cond) ∈ jx_W0 := vm_5 (List.mem_of_getElem? (i := 24) rfl)
theorem w_225 : (.instanceMethod ⟨"MoleculeRegistry$Reader", "kindFor", "(III)I"⟩ : Cond) ∈ jx_W0 := vm_5 (List.mem_of_getElem? (i := 25) rfl)
theorem w_226 : (.selects "MoleculeRegistry$Reader" ⟨"MoleculeRegistry$Reader", "kindFor", "(III)I"⟩ ⟨"MoleculeRegistry$Reader", "kindFor", "(III)I"⟩ : Cond) ∈ jx_W0 := vm_5 (List.mem_of_getElem? (i := 26) rfl)
theorem w_227 : (.methodLink "MoleculeRegistry$Reader" 129 ⟨"MoleculeRegistry$Reader", "areBound", "(II)Z"⟩ : Cond) ∈ jx_W0 := vm_5 (List.mem_of_getElem? (i := 27) rfl)
theorem w_228 : (.instanceMethod ⟨"MoleculeRegistry$Reader", "areBound", "(II)Z"⟩ : Cond) ∈ jx_W0 := vm_5 (List.mem_of_getElem? (i := 28) rfl)
theorem w_229 : (.selects "MoleculeRegistry$Reader" ⟨"MoleculeRegistry$Reader", "areBound", "(II)Z"⟩ ⟨"MoleculeRegistry$Reader", "areBound", "(II)Z"⟩ : Cond) ∈ jx_W0 := vm_5 (List.mem_of_getElem? (i := 29) rfl)
theorem w_230 : (.methodLink "MoleculeRegistry$Reader" 122 ⟨"MoleculeRegistry$Reader", "openOrClose", "(III)Z"⟩ : Cond) ∈ jx_W0 := vm_5 (List.mem_of_getElem? (i := 30) rfl)
theorem w_231 : (.instanceMethod ⟨"MoleculeRegistry$Reader", "openOrClose", "(III)Z"⟩ : Cond) ∈ jx_W0 := vm_5 (List.mem_of_getElem? (i := 31) rfl)
theorem w_232 : (.selects "MoleculeRegistry$Reader" ⟨"MoleculeRegistry$Reader", "openOrClose", "(III)Z"⟩ ⟨"MoleculeRegistry$Reader", "openOrClose", "(III)Z"⟩ : Cond) ∈ jx_W0 := vm_5 (List.mem_of_getElem? (i := 32) rfl)
theorem w_233 : (.methodLink "MoleculeRegistry$Reader" 78 ⟨"MoleculeRegistry$Graph", "clear", "()V"⟩ : Cond) ∈ jx_W0 := vm_5 (List.mem_of_getElem? (i := 33) rfl)
theorem w_234 : (.instanceMethod ⟨"MoleculeRegistry$Graph", "clear", "()V"⟩ : Cond) ∈ jx_W0 := vm_5 (List.mem_of_getElem? (i := 34) rfl)
theorem w_235 : (.selects "MoleculeRegistry$Graph" ⟨"MoleculeRegistry$Graph", "clear", "()V"⟩ ⟨"MoleculeRegistry$Graph", "clear", "()V"⟩ : Cond) ∈ jx_W0 := vm_5 (List.mem_of_getElem? (i := 35) rfl)
theorem w_236 : (.methodLink "MoleculeRegistry$Reader" 83 ⟨"MoleculeRegistry$Graph", "add", "(I)V"⟩ : Cond) ∈ jx_W0 := vm_5 (List.mem_of_getElem? (i := 36) rfl)
theorem w_237 : (.instanceMethod ⟨"MoleculeRegistry$Graph", "add", "(I)V"⟩ : Cond) ∈ jx_W0 := vm_5 (List.mem_of_getElem? (i := 37) rfl)
theorem w_238 : (.selects "MoleculeRegistry$Graph" ⟨"MoleculeRegistry$Graph", "add", "(I)V"⟩ ⟨"MoleculeRegistry$Graph", "add", "(I)V"⟩ : Cond) ∈ jx_W0 := vm_5 (List.mem_of_getElem? (i := 38) rfl)
theorem w_239 : (.methodLink "MoleculeRegistry$Reader" 87 ⟨"MoleculeRegistry$Graph", "join", "(III)V"⟩ : Cond) ∈ jx_W0 := vm_5 (List.mem_of_getElem? (i := 39) rfl)
theorem w_240 : (.instanceMethod ⟨"MoleculeRegistry$Graph", "join", "(III)V"⟩ : Cond) ∈ jx_W0 := vm_6 (List.mem_of_getElem? (i := 0) rfl)
theorem w_241 : (.selects "MoleculeRegistry$Graph" ⟨"MoleculeRegistry$Graph", "join", "(III)V"⟩ ⟨"MoleculeRegistry$Graph", "join", "(III)V"⟩ : Cond) ∈ jx_W0 := vm_6 (List.mem_of_getElem? (i := 1) rfl)
theorem w_242 : (.methodLink "MoleculeRegistry$Shelf" 3 ⟨"java/lang/Object", "<init>", "()V"⟩ : Cond) ∈ jx_W0 := vm_6 (List.mem_of_getElem? (i := 2) rfl)
theorem w_243 : (.classLink "MoleculeRegistry$Shelf" 9 "MoleculeRegistry$Graph" : Cond) ∈ jx_W0 := vm_6 (List.mem_of_getElem? (i := 3) rfl)
theorem w_244 : (.fieldLink "MoleculeRegistry$Shelf" 11 "MoleculeRegistry$Shelf" "molecules" "[LMoleculeRegistry$Graph;" : Cond) ∈ jx_W0 := vm_6 (List.mem_of_getElem? (i := 4) rfl)
theorem w_245 : (.fieldLink "MoleculeRegistry$Shelf" 17 "MoleculeRegistry$Shelf" "ids" "[I" : Cond) ∈ jx_W0 := vm_6 (List.mem_of_getElem? (i := 5) rfl)
theorem w_246 : (.methodLinkNest "MoleculeRegistry$Shelf" 21 ⟨"MoleculeRegistry$Graph", "<init>", "()V"⟩ "MoleculeRegistry" : Cond) ∈ jx_W0 := vm_6 (List.mem_of_getElem? (i := 6) rfl)
theorem w_247 : (.fieldLink "MoleculeRegistry$Shelf" 22 "MoleculeRegistry$Shelf" "size" "I" : Cond) ∈ jx_W0 := vm_6 (List.mem_of_getElem? (i := 7) rfl)
theorem w_248 : (.methodLink "MoleculeRegistry$Shelf" 33 ⟨"MoleculeRegistry$Shelf", "slotOf", "(I)I"⟩ : Cond) ∈ jx_W0 := vm_6 (List.mem_of_getElem? (i := 8) rfl)
theorem w_249 : (.instanceMethod ⟨"MoleculeRegistry$Shelf", "slotOf", "(I)I"⟩ : Cond) ∈ jx_W0 := vm_6 (List.mem_of_getElem? (i := 9) rfl)
theorem w_250 : (.selects "MoleculeRegistry$Shelf" ⟨"MoleculeRegistry$Shelf", "slotOf", "(I)I"⟩ ⟨"MoleculeRegistry$Shelf", "slotOf", "(I)I"⟩ : Cond) ∈ jx_W0 := vm_6 (List.mem_of_getElem? (i := 10) rfl)
theorem w_251 : (.methodLink "MoleculeRegistry$Shelf" 26 ⟨"MoleculeRegistry$Graph", "copyFrom", "(LMoleculeRegistry$Graph;)V"⟩ : Cond) ∈ jx_W0 := vm_6 (List.mem_of_getElem? (i := 11) rfl)
theorem w_252 : (.fieldLink "MoleculeRegistry$Shelf" 30 "MoleculeRegistry$Shelf" "lastId" "I" : Cond) ∈ jx_W0 := vm_6 (List.mem_of_getElem? (i := 12) rfl)
theorem w_253 : (.methodLink "MoleculeRegistry" 3 ⟨"java/lang/Object", "<init>", "()V"⟩ : Cond) ∈ jx_W0 := vm_6 (List.mem_of_getElem? (i := 13) rfl)
theorem w_254 : (.fieldLink "MoleculeRegistry" 9 "MoleculeRegistry" "buffer" "[C" : Cond) ∈ jx_W0 := vm_6 (List.mem_of_getElem? (i := 14) rfl)
theorem w_255 : (.classLink "MoleculeRegistry" 13 "MoleculeRegistry$Reader" : Cond) ∈ jx_W0 := vm_6 (List.mem_of_getElem? (i := 15) rfl)
theorem w_256 : (.instantiable "MoleculeRegistry$Reader" 15 : Cond) ∈ jx_W0 := vm_6 (List.mem_of_getElem? (i := 16) rfl)
theorem w_257 : (.initialized "MoleculeRegistry$Reader" : Cond) ∈ jx_W0 := vm_6 (List.mem_of_getElem? (i := 17) rfl)
theorem w_258 : (.methodLinkNest "MoleculeRegistry" 15 ⟨"MoleculeRegistry$Reader", "<init>", "()V"⟩ "MoleculeRegistry" : Cond) ∈ jx_W0 := vm_6 (List.mem_of_getElem? (i := 18) rfl)
theorem w_259 : (.code ⟨"MoleculeRegistry$Reader", "<init>", "()V"⟩ prog_6_method_1_code 1 none : Cond) ∈ jx_W0 := vm_6 (List.mem_of_getElem? (i := 19) rfl)
theorem w_260 : (.instanceMethod ⟨"MoleculeRegistry$Reader", "<init>", "()V"⟩ : Cond) ∈ jx_W0 := vm_6 (List.mem_of_getElem? (i := 20) rfl)
theorem w_261 : (.fieldLink "MoleculeRegistry" 16 "MoleculeRegistry" "reader" "LMoleculeRegistry$Reader;" : Cond) ∈ jx_W0 := vm_6 (List.mem_of_getElem? (i := 21) rfl)
theorem w_262 : (.classLink "MoleculeRegistry" 20 "MoleculeRegistry$Graph" : Cond) ∈ jx_W0 := vm_6 (List.mem_of_getElem? (i := 22) rfl)
theorem w_263 : (.methodLinkNest "MoleculeRegistry" 22 ⟨"MoleculeRegistry$Graph", "<init>", "()V"⟩ "MoleculeRegistry" : Cond) ∈ jx_W0 := vm_6 (List.mem_of_getElem? (i := 23) rfl)
theorem w_264 : (.fieldLink "MoleculeRegistry" 23 "MoleculeRegistry" "read" "LMoleculeRegistry$Graph;" : Cond) ∈ jx_W0 := vm_6 (List.mem_of_getElem? (i := 24) rfl)
theorem w_265 : (.classLink "MoleculeRegistry" 27 "MoleculeRegistry$Matcher" : Cond) ∈ jx_W0 := vm_6 (List.mem_of_getElem? (i := 25) rfl)
theorem w_266 : (.instantiable "MoleculeRegistry$Matcher" 2 : Cond) ∈ jx_W0 := vm_6 (List.mem_of_getElem? (i := 26) rfl)
theorem w_267 : (.methodLinkNest "MoleculeRegistry" 29 ⟨"MoleculeRegistry$Matcher", "<init>", "()V"⟩ "MoleculeRegistry" : Cond) ∈ jx_W0 := vm_6 (List.mem_of_getElem? (i := 27) rfl)
theorem w_268 : (.code ⟨"MoleculeRegistry$Matcher", "<init>", "()V"⟩ prog_5_method_1_code 1 none : Cond) ∈ jx_W0 := vm_6 (List.mem_of_getElem? (i := 28) rfl)
theorem w_269 : (.instanceMethod ⟨"MoleculeRegistry$Matcher", "<init>", "()V"⟩ : Cond) ∈ jx_W0 := vm_6 (List.mem_of_getElem? (i := 29) rfl)
theorem w_270 : (.fieldLink "MoleculeRegistry" 30 "MoleculeRegistry" "matcher" "LMoleculeRegistry$Matcher;" : Cond) ∈ jx_W0 := vm_6 (List.mem_of_getElem? (i := 30) rfl)
theorem w_271 : (.classLink "MoleculeRegistry" 34 "MoleculeRegistry$Shelf" : Cond) ∈ jx_W0 := vm_6 (List.mem_of_getElem? (i := 31) rfl)
theorem w_272 : (.instantiable "MoleculeRegistry$Shelf" 4 : Cond) ∈ jx_W0 := vm_6 (List.mem_of_getElem? (i := 32) rfl)
theorem w_273 : (.initialized "MoleculeRegistry$Shelf" : Cond) ∈ jx_W0 := vm_6 (List.mem_of_getElem? (i := 33) rfl)
theorem w_274 : (.methodLink "MoleculeRegistry" 36 ⟨"MoleculeRegistry$Shelf", "<init>", "()V"⟩ : Cond) ∈ jx_W0 := vm_6 (List.mem_of_getElem? (i := 34) rfl)
theorem w_275 : (.code ⟨"MoleculeRegistry$Shelf", "<init>", "()V"⟩ prog_7_method_1_code 2 none : Cond) ∈ jx_W0 := vm_6 (List.mem_of_getElem? (i := 35) rfl)
theorem w_276 : (.instanceMethod ⟨"MoleculeRegistry$Shelf", "<init>", "()V"⟩ : Cond) ∈ jx_W0 := vm_6 (List.mem_of_getElem? (i := 36) rfl)
theorem w_277 : (.fieldLink "MoleculeRegistry" 37 "MoleculeRegistry" "shelf" "LMoleculeRegistry$Shelf;" : Cond) ∈ jx_W0 := vm_6 (List.mem_of_getElem? (i := 37) rfl)
theorem w_278 : (.classLink "MoleculeRegistry" 41 "MoleculeRegistry$Log" : Cond) ∈ jx_W0 := vm_6 (List.mem_of_getElem? (i := 38) rfl)
theorem w_279 : (.instantiable "MoleculeRegistry$Log" 4 : Cond) ∈ jx_W0 := vm_6 (List.mem_of_getElem? (i := 39) rfl)
theorem w_280 : (.initialized "MoleculeRegistry$Log" : Cond) ∈ jx_W0 := vm_7 (List.mem_of_getElem? (i := 0) rfl)
theorem w_281 : (.methodLinkNest "MoleculeRegistry" 43 ⟨"MoleculeRegistry$Log", "<init>", "()V"⟩ "MoleculeRegistry" : Cond) ∈ jx_W0 := vm_7 (List.mem_of_getElem? (i := 1) rfl)
theorem w_282 : (.code ⟨"MoleculeRegistry$Log", "<init>", "()V"⟩ prog_4_method_1_code 1 none : Cond) ∈ jx_W0 := vm_7 (List.mem_of_getElem? (i := 2) rfl)
theorem w_283 : (.instanceMethod ⟨"MoleculeRegistry$Log", "<init>", "()V"⟩ : Cond) ∈ jx_W0 := vm_7 (List.mem_of_getElem? (i := 3) rfl)
theorem w_284 : (.fieldLink "MoleculeRegistry" 44 "MoleculeRegistry" "log" "LMoleculeRegistry$Log;" : Cond) ∈ jx_W0 := vm_7 (List.mem_of_getElem? (i := 4) rfl)
theorem w_285 : (.fieldLink "MoleculeRegistry" 48 "MoleculeRegistry" "hits" "[I" : Cond) ∈ jx_W0 := vm_7 (List.mem_of_getElem? (i := 5) rfl)
theorem w_286 : (.fieldLink "MoleculeRegistry" 52 "MoleculeRegistry" "toldFailure" "I" : Cond) ∈ jx_W0 := vm_7 (List.mem_of_getElem? (i := 6) rfl)
theorem w_287 : (.methodLink "MoleculeRegistry" 56 ⟨"MoleculeRegistry", "byteAt", "(JI)I"⟩ : Cond) ∈ jx_W0 := vm_7 (List.mem_of_getElem? (i := 7) rfl)
theorem w_288 : (.static ⟨"MoleculeRegistry", "byteAt", "(JI)I"⟩ : Cond) ∈ jx_W0 := vm_7 (List.mem_of_getElem? (i := 8) rfl)
theorem w_289 : (.fieldLink "MoleculeRegistry" 60 "MoleculeRegistry" "typed" "I" : Cond) ∈ jx_W0 := vm_7 (List.mem_of_getElem? (i := 9) rfl)
theorem w_290 : (.methodLink "MoleculeRegistry" 63 ⟨"MoleculeRegistry", "append", "(J)V"⟩ : Cond) ∈ jx_W0 := vm_7 (List.mem_of_getElem? (i := 10) rfl)
theorem w_291 : (.instanceMethod ⟨"MoleculeRegistry", "append", "(J)V"⟩ : Cond) ∈ jx_W0 := vm_7 (List.mem_of_getElem? (i := 11) rfl)
theorem w_292 : (.selects "MoleculeRegistry" ⟨"MoleculeRegistry", "append", "(J)V"⟩ ⟨"MoleculeRegistry", "append", "(J)V"⟩ : Cond) ∈ jx_W0 := vm_7 (List.mem_of_getElem? (i := 12) rfl)
theorem w_293 : (.fieldLink "MoleculeRegistry" 92 "MoleculeRegistry" "hitCount" "I" : Cond) ∈ jx_W0 := vm_7 (List.mem_of_getElem? (i := 13) rfl)
theorem w_294 : (.fieldLink "MoleculeRegistry" 113 "MoleculeRegistry" "down" "Z" : Cond) ∈ jx_W0 := vm_7 (List.mem_of_getElem? (i := 14) rfl)
theorem w_295 : (.fieldLinkNest "MoleculeRegistry" 117 "MoleculeRegistry$Log" "marked" "Z" "MoleculeRegistry" : Cond) ∈ jx_W0 := vm_7 (List.mem_of_getElem? (i := 15) rfl)
theorem w_296 : (.methodLink "MoleculeRegistry" 120 ⟨"MoleculeRegistry", "carryOut", "()V"⟩ : Cond) ∈ jx_W0 := vm_7 (List.mem_of_getElem? (i := 16) rfl)
theorem w_297 : (.instanceMethod ⟨"MoleculeRegistry", "carryOut", "()V"⟩ : Cond) ∈ jx_W0 := vm_7 (List.mem_of_getElem? (i := 17) rfl)
theorem w_298 : (.selects "MoleculeRegistry" ⟨"MoleculeRegistry", "carryOut", "()V"⟩ ⟨"MoleculeRegistry", "carryOut", "()V"⟩ : Cond) ∈ jx_W0 := vm_7 (List.mem_of_getElem? (i := 18) rfl)
theorem w_299 : (.methodLink "MoleculeRegistry" 123 ⟨"MoleculeRegistry$Log", "clear", "()V"⟩ : Cond) ∈ jx_W0 := vm_7 (List.mem_of_getElem? (i := 19) rfl)
theorem w_300 : (.instanceMethod ⟨"MoleculeRegistry$Log", "clear", "()V"⟩ : Cond) ∈ jx_W0 := vm_7 (List.mem_of_getElem? (i := 20) rfl)
theorem w_301 : (.selects "MoleculeRegistry$Log" ⟨"MoleculeRegistry$Log", "clear", "()V"⟩ ⟨"MoleculeRegistry$Log", "clear", "()V"⟩ : Cond) ∈ jx_W0 := vm_7 (List.mem_of_getElem? (i := 21) rfl)
theorem w_302 : (.fieldLinkNest "MoleculeRegistry" 194 "MoleculeRegistry$Log" "id" "I" "MoleculeRegistry" : Cond) ∈ jx_W0 := vm_7 (List.mem_of_getElem? (i := 22) rfl)
theorem w_303 : (.methodLink "MoleculeRegistry" 109 ⟨"MoleculeRegistry$Shelf", "slotOf", "(I)I"⟩ : Cond) ∈ jx_W0 := vm_7 (List.mem_of_getElem? (i := 23) rfl)
theorem w_304 : (.fieldLinkNest "MoleculeRegistry" 197 "MoleculeRegistry$Log" "removing" "Z" "MoleculeRegistry" : Cond) ∈ jx_W0 := vm_7 (List.mem_of_getElem? (i := 24) rfl)
theorem w_305 : (.methodLink "MoleculeRegistry" 200 ⟨"MoleculeRegistry$Shelf", "take", "(I)V"⟩ : Cond) ∈ jx_W0 := vm_7 (List.mem_of_getElem? (i := 25) rfl)
theorem w_306 : (.instanceMethod ⟨"MoleculeRegistry$Shelf", "take", "(I)V"⟩ : Cond) ∈ jx_W0 := vm_7 (List.mem_of_getElem? (i := 26) rfl)
theorem w_307 : (.selects "MoleculeRegistry$Shelf" ⟨"MoleculeRegistry$Shelf", "take", "(I)V"⟩ ⟨"MoleculeRegistry$Shelf", "take", "(I)V"⟩ : Cond) ∈ jx_W0 := vm_7 (List.mem_of_getElem? (i := 27) rfl)
theorem w_308 : (.fieldLinkNest "MoleculeRegistry" 204 "MoleculeRegistry$Log" "molecule" "LMoleculeRegistry$Graph;" "MoleculeRegistry" : Cond) ∈ jx_W0 := vm_7 (List.mem_of_getElem? (i := 28) rfl)
theorem w_309 : (.methodLink "MoleculeRegistry" 207 ⟨"MoleculeRegistry$Shelf", "put", "(ILMoleculeRegistry$Graph;)V"⟩ : Cond) ∈ jx_W0 := vm_7 (List.mem_of_getElem? (i := 29) rfl)
theorem w_310 : (.instanceMethod ⟨"MoleculeRegistry$Shelf", "put", "(ILMoleculeRegistry$Graph;)V"⟩ : Cond) ∈ jx_W0 := vm_7 (List.mem_of_getElem? (i := 30) rfl)
theorem w_311 : (.selects "MoleculeRegistry$Shelf" ⟨"MoleculeRegistry$Shelf", "put", "(ILMoleculeRegistry$Graph;)V"⟩ ⟨"MoleculeRegistry$Shelf", "put", "(ILMoleculeRegistry$Graph;)V"⟩ : Cond) ∈ jx_W0 := vm_7 (List.mem_of_getElem? (i := 31) rfl)
theorem w_312 : (.fieldLinkNest "MoleculeRegistry" 75 "MoleculeRegistry$Shelf" "size" "I" "MoleculeRegistry" : Cond) ∈ jx_W0 := vm_7 (List.mem_of_getElem? (i := 32) rfl)
theorem w_313 : (.methodLink "MoleculeRegistry" 126 ⟨"MoleculeRegistry", "visible", "(I)LMoleculeRegistry$Graph;"⟩ : Cond) ∈ jx_W0 := vm_7 (List.mem_of_getElem? (i := 33) rfl)
theorem w_314 : (.instanceMethod ⟨"MoleculeRegistry", "visible", "(I)LMoleculeRegistry$Graph;"⟩ : Cond) ∈ jx_W0 := vm_7 (List.mem_of_getElem? (i := 34) rfl)
theorem w_315 : (.selects "MoleculeRegistry" ⟨"MoleculeRegistry", "visible", "(I)LMoleculeRegistry$Graph;"⟩ ⟨"MoleculeRegistry", "visible", "(I)LMoleculeRegistry$Graph;"⟩ : Cond) ∈ jx_W0 := vm_7 (List.mem_of_getElem? (i := 35) rfl)
theorem w_316 : (.fieldLinkNest "MoleculeRegistry" 130 "MoleculeRegistry$Graph" "size" "I" "MoleculeRegistry" : Cond) ∈ jx_W0 := vm_7 (List.mem_of_getElem? (i := 36) rfl)
theorem w_317 : (.fieldLinkNest "MoleculeRegistry" 95 "MoleculeRegistry$Shelf" "molecules" "[LMoleculeRegistry$Graph;" "MoleculeRegistry" : Cond) ∈ jx_W0 := vm_7 (List.mem_of_getElem? (i := 37) rfl)
theorem w_318 : (.methodLink "MoleculeRegistry" 131 ⟨"MoleculeRegistry$Graph", "has", "(I)Z"⟩ : Cond) ∈ jx_W0 := vm_7 (List.mem_of_getElem? (i := 38) rfl)
theorem w_319 : (.fieldLinkNest "MoleculeRegistry" 135 "MoleculeRegistry$Graph" "codes" "[I" "MoleculeRegistry" : Cond) ∈ jx_W0 := vm_7 (List.mem_of_getElem? (i := 39) rfl)
theorem w_320 : (.methodLink "MoleculeRegistry" 138 ⟨"MoleculeRegistry$Graph", "kindBetween", "(II)I"⟩ : Cond) ∈ jx_W0 := vm_8 (List.mem_of_getElem? (i := 0) rfl)
theorem w_321 : (.methodLink "MoleculeRegistry" 67 ⟨"MoleculeRegistry", "readBuffer", "(Z)V"⟩ : Cond) ∈ jx_W0 := vm_8 (List.mem_of_getElem? (i := 1) rfl)
theorem w_322 : (.instanceMethod ⟨"MoleculeRegistry", "readBuffer", "(Z)V"⟩ : Cond) ∈ jx_W0 := vm_8 (List.mem_of_getElem? (i := 2) rfl)
theorem w_323 : (.selects "MoleculeRegistry" ⟨"MoleculeRegistry", "readBuffer", "(Z)V"⟩ ⟨"MoleculeRegistry", "readBuffer", "(Z)V"⟩ : Cond) ∈ jx_W0 := vm_8 (List.mem_of_getElem? (i := 3) rfl)
theorem w_324 : (.methodLink "MoleculeRegistry" 71 ⟨"MoleculeRegistry", "idOfSame", "()I"⟩ : Cond) ∈ jx_W0 := vm_8 (List.mem_of_getElem? (i := 4) rfl)
theorem w_325 : (.instanceMethod ⟨"MoleculeRegistry", "idOfSame", "()I"⟩ : Cond) ∈ jx_W0 := vm_8 (List.mem_of_getElem? (i := 5) rfl)
theorem w_326 : (.selects "MoleculeRegistry" ⟨"MoleculeRegistry", "idOfSame", "()I"⟩ ⟨"MoleculeRegistry", "idOfSame", "()I"⟩ : Cond) ∈ jx_W0 := vm_8 (List.mem_of_getElem? (i := 6) rfl)
theorem w_327 : (.classLink "MoleculeRegistry" 78 "java/lang/IndexOutOfBoundsException" : Cond) ∈ jx_W0 := vm_8 (List.mem_of_getElem? (i := 7) rfl)
theorem w_328 : (.instantiable "java/lang/IndexOutOfBoundsException" 6 : Cond) ∈ jx_W0 := vm_8 (List.mem_of_getElem? (i := 8) rfl)
theorem w_329 : (.initialized "java/lang/IndexOutOfBoundsException" : Cond) ∈ jx_W0 := vm_8 (List.mem_of_getElem? (i := 9) rfl)
theorem w_330 : (.fieldLinkNest "MoleculeRegistry" 85 "MoleculeRegistry$Shelf" "lastId" "I" "MoleculeRegistry" : Cond) ∈ jx_W0 := vm_8 (List.mem_of_getElem? (i := 10) rfl)
theorem w_331 : (.methodLink "MoleculeRegistry" 88 ⟨"MoleculeRegistry", "change", "(ZI)Z"⟩ : Cond) ∈ jx_W0 := vm_8 (List.mem_of_getElem? (i := 11) rfl)
theorem w_332 : (.instanceMethod ⟨"MoleculeRegistry", "change", "(ZI)Z"⟩ : Cond) ∈ jx_W0 := vm_8 (List.mem_of_getElem? (i := 12) rfl)
theorem w_333 : (.selects "MoleculeRegistry" ⟨"MoleculeRegistry", "change", "(ZI)Z"⟩ ⟨"MoleculeRegistry", "change", "(ZI)Z"⟩ : Cond) ∈ jx_W0 := vm_8 (List.mem_of_getElem? (i := 13) rfl)
theorem w_334 : (.methodLink "MoleculeRegistry" 106 ⟨"MoleculeRegistry", "refuseWhenDown", "()V"⟩ : Cond) ∈ jx_W0 := vm_8 (List.mem_of_getElem? (i := 14) rfl)
theorem w_335 : (.instanceMethod ⟨"MoleculeRegistry", "refuseWhenDown", "()V"⟩ : Cond) ∈ jx_W0 := vm_8 (List.mem_of_getElem? (i := 15) rfl)
theorem w_336 : (.selects "MoleculeRegistry" ⟨"MoleculeRegistry", "refuseWhenDown", "()V"⟩ ⟨"MoleculeRegistry", "refuseWhenDown", "()V"⟩ : Cond) ∈ jx_W0 := vm_8 (List.mem_of_getElem? (i := 16) rfl)
theorem w_337 : (.methodLink "MoleculeRegistry" 147 ⟨"MoleculeRegistry$Reader", "start", "([CIZ)V"⟩ : Cond) ∈ jx_W0 := vm_8 (List.mem_of_getElem? (i := 17) rfl)
theorem w_338 : (.instanceMethod ⟨"MoleculeRegistry$Reader", "start", "([CIZ)V"⟩ : Cond) ∈ jx_W0 := vm_8 (List.mem_of_getElem? (i := 18) rfl)
theorem w_339 : (.selects "MoleculeRegistry$Reader" ⟨"MoleculeRegistry$Reader", "start", "([CIZ)V"⟩ ⟨"MoleculeRegistry$Reader", "start", "([CIZ)V"⟩ : Cond) ∈ jx_W0 := vm_8 (List.mem_of_getElem? (i := 19) rfl)
theorem w_340 : (.methodLink "MoleculeRegistry" 151 ⟨"MoleculeRegistry$Reader", "readAtoms", "()Z"⟩ : Cond) ∈ jx_W0 := vm_8 (List.mem_of_getElem? (i := 20) rfl)
theorem w_341 : (.instanceMethod ⟨"MoleculeRegistry$Reader", "readAtoms", "()Z"⟩ : Cond) ∈ jx_W0 := vm_8 (List.mem_of_getElem? (i := 21) rfl)
theorem w_342 : (.selects "MoleculeRegistry$Reader" ⟨"MoleculeRegistry$Reader", "readAtoms", "()Z"⟩ ⟨"MoleculeRegistry$Reader", "readAtoms", "()Z"⟩ : Cond) ∈ jx_W0 := vm_8 (List.mem_of_getElem? (i := 22) rfl)
theorem w_343 : (.methodLink "MoleculeRegistry" 155 ⟨"MoleculeRegistry$Reader", "aDigitIsOpen", "()Z"⟩ : Cond) ∈ jx_W0 := vm_8 (List.mem_of_getElem? (i := 23) rfl)
theorem w_344 : (.instanceMethod ⟨"MoleculeRegistry$Reader", "aDigitIsOpen", "()Z"⟩ : Cond) ∈ jx_W0 := vm_8 (List.mem_of_getElem? (i := 24) rfl)
theorem w_345 : (.selects "MoleculeRegistry$Reader" ⟨"MoleculeRegistry$Reader", "aDigitIsOpen", "()Z"⟩ ⟨"MoleculeRegistry$Reader", "aDigitIsOpen", "()Z"⟩ : Cond) ∈ jx_W0 := vm_8 (List.mem_of_getElem? (i := 25) rfl)
theorem w_346 : (.classLink "MoleculeRegistry" 158 "java/lang/IllegalArgumentException" : Cond) ∈ jx_W0 := vm_8 (List.mem_of_getElem? (i := 26) rfl)
theorem w_347 : (.instantiable "java/lang/IllegalArgumentException" 6 : Cond) ∈ jx_W0 := vm_8 (List.mem_of_getElem? (i := 27) rfl)
theorem w_348 : (.initialized "java/lang/IllegalArgumentException" : Cond) ∈ jx_W0 := vm_8 (List.mem_of_getElem? (i := 28) rfl)
theorem w_349 : (.fieldLinkNest "MoleculeRegistry" 163 "MoleculeRegistry$Reader" "size" "I" "MoleculeRegistry" : Cond) ∈ jx_W0 := vm_8 (List.mem_of_getElem? (i := 29) rfl)
theorem w_350 : (.classLink "MoleculeRegistry" 164 "java/lang/UnsupportedOperationException" : Cond) ∈ jx_W0 := vm_8 (List.mem_of_getElem? (i := 30) rfl)
theorem w_351 : (.instantiable "java/lang/UnsupportedOperationException" 6 : Cond) ∈ jx_W0 := vm_8 (List.mem_of_getElem? (i := 31) rfl)
theorem w_352 : (.initialized "java/lang/UnsupportedOperationException" : Cond) ∈ jx_W0 := vm_8 (List.mem_of_getElem? (i := 32) rfl)
theorem w_353 : (.methodLink "MoleculeRegistry" 169 ⟨"MoleculeRegistry$Reader", "fill", "(LMoleculeRegistry$Graph;)V"⟩ : Cond) ∈ jx_W0 := vm_8 (List.mem_of_getElem? (i := 33) rfl)
theorem w_354 : (.instanceMethod ⟨"MoleculeRegistry$Reader", "fill", "(LMoleculeRegistry$Graph;)V"⟩ : Cond) ∈ jx_W0 := vm_8 (List.mem_of_getElem? (i := 34) rfl)
theorem w_355 : (.selects "MoleculeRegistry$Reader" ⟨"MoleculeRegistry$Reader", "fill", "(LMoleculeRegistry$Graph;)V"⟩ ⟨"MoleculeRegistry$Reader", "fill", "(LMoleculeRegistry$Graph;)V"⟩ : Cond) ∈ jx_W0 := vm_8 (List.mem_of_getElem? (i := 35) rfl)
theorem w_356 : (.fieldLinkNest "MoleculeRegistry" 173 "MoleculeRegistry$Reader" "written" "[I" "MoleculeRegistry" : Cond) ∈ jx_W0 := vm_8 (List.mem_of_getElem? (i := 36) rfl)
theorem w_357 : (.methodLink "MoleculeRegistry" 176 ⟨"MoleculeRegistry$Chemistry", "settle", "(LMoleculeRegistry$Graph;[I)Z"⟩ : Cond) ∈ jx_W0 := vm_8 (List.mem_of_getElem? (i := 37) rfl)
theorem w_358 : (.static ⟨"MoleculeRegistry$Chemistry", "settle", "(LMoleculeRegistry$Graph;[I)Z"⟩ : Cond) ∈ jx_W0 := vm_8 (List.mem_of_getElem? (i := 38) rfl)
theorem w_359 : (.initialized "MoleculeRegistry$Chemistry" : Cond) ∈ jx_W0 := vm_8 (List.mem_of_getElem? (i := 39) rfl)
theorem w_360 : (.classLink "MoleculeRegistry" 182 "java/lang/ArithmeticException" : Cond) ∈ jx_W0 := vm_9 (List.mem_of_getElem? (i := 0) rfl)
theorem w_361 : (.instantiable "java/lang/ArithmeticException" 6 : Cond) ∈ jx_W0 := vm_9 (List.mem_of_getElem? (i := 1) rfl)
theorem w_362 : (.initialized "java/lang/ArithmeticException" : Cond) ∈ jx_W0 := vm_9 (List.mem_of_getElem? (i := 2) rfl)
theorem w_363 : (.classLink "MoleculeRegistry" 142 "java/lang/IllegalStateException" : Cond) ∈ jx_W0 := vm_9 (List.mem_of_getElem? (i := 3) rfl)
theorem w_364 : (.instantiable "java/lang/IllegalStateException" 6 : Cond) ∈ jx_W0 := vm_9 (List.mem_of_getElem? (i := 4) rfl)
theorem w_365 : (.initialized "java/lang/IllegalStateException" : Cond) ∈ jx_W0 := vm_9 (List.mem_of_getElem? (i := 5) rfl)
theorem w_366 : (.methodLink "MoleculeRegistry" 187 ⟨"MoleculeRegistry$Matcher", "areSame", "(LMoleculeRegistry$Graph;LMoleculeRegistry$Graph;)Z"⟩ : Cond) ∈ jx_W0 := vm_9 (List.mem_of_getElem? (i := 6) rfl)
theorem w_367 : (.instanceMethod ⟨"MoleculeRegistry$Matcher", "areSame", "(LMoleculeRegistry$Graph;LMoleculeRegistry$Graph;)Z"⟩ : Cond) ∈ jx_W0 := vm_9 (List.mem_of_getElem? (i := 7) rfl)
theorem w_368 : (.selects "MoleculeRegistry$Matcher" ⟨"MoleculeRegistry$Matcher", "areSame", "(LMoleculeRegistry$Graph;LMoleculeRegistry$Graph;)Z"⟩ ⟨"MoleculeRegistry$Matcher", "areSame", "(LMoleculeRegistry$Graph;LMoleculeRegistry$Graph;)Z"⟩ : Cond) ∈ jx_W0 := vm_9 (List.mem_of_getElem? (i := 8) rfl)
theorem w_369 : (.fieldLinkNest "MoleculeRegistry" 103 "MoleculeRegistry$Shelf" "ids" "[I" "MoleculeRegistry" : Cond) ∈ jx_W0 := vm_9 (List.mem_of_getElem? (i := 9) rfl)
theorem w_370 : (.methodLink "MoleculeRegistry" 190 ⟨"MoleculeRegistry$Log", "write", "(ZILMoleculeRegistry$Graph;)V"⟩ : Cond) ∈ jx_W0 := vm_9 (List.mem_of_getElem? (i := 10) rfl)
theorem w_371 : (.instanceMethod ⟨"MoleculeRegistry$Log", "write", "(ZILMoleculeRegistry$Graph;)V"⟩ : Cond) ∈ jx_W0 := vm_9 (List.mem_of_getElem? (i := 11) rfl)
theorem w_372 : (.selects "MoleculeRegistry$Log" ⟨"MoleculeRegistry$Log", "write", "(ZILMoleculeRegistry$Graph;)V"⟩ ⟨"MoleculeRegistry$Log", "write", "(ZILMoleculeRegistry$Graph;)V"⟩ : Cond) ∈ jx_W0 := vm_9 (List.mem_of_getElem? (i := 12) rfl)
theorem w_373 : (.methodLink "MoleculeRegistry" 99 ⟨"MoleculeRegistry$Matcher", "isIn", "(LMoleculeRegistry$Graph;LMoleculeRegistry$Graph;)Z"⟩ : Cond) ∈ jx_W0 := vm_9 (List.mem_of_getElem? (i := 13) rfl)
theorem w_374 : (.instanceMethod ⟨"MoleculeRegistry$Matcher", "isIn", "(LMoleculeRegistry$Graph;LMoleculeRegistry$Graph;)Z"⟩ : Cond) ∈ jx_W0 := vm_9 (List.mem_of_getElem? (i := 14) rfl)
theorem w_375 : (.selects "MoleculeRegistry$Matcher" ⟨"MoleculeRegistry$Matcher", "isIn", "(LMoleculeRegistry$Graph;LMoleculeRegistry$Graph;)Z"⟩ ⟨"MoleculeRegistry$Matcher", "isIn", "(LMoleculeRegistry$Graph;LMoleculeRegistry$Graph;)Z"⟩ : Cond) ∈ jx_W0 := vm_9 (List.mem_of_getElem? (i := 15) rfl)
theorem w_376 : (.methodLink "MoleculeRegistryModel" 1 ⟨"java/lang/Object", "<init>", "()V"⟩ : Cond) ∈ jx_W0 := vm_9 (List.mem_of_getElem? (i := 16) rfl)
theorem w_377 : (.fieldLink "MoleculeRegistryModel" 7 "MoleculeRegistryModel" "buf" "[I" : Cond) ∈ jx_W0 := vm_9 (List.mem_of_getElem? (i := 17) rfl)
theorem w_378 : (.fieldLink "MoleculeRegistryModel" 13 "MoleculeRegistryModel" "element" "[I" : Cond) ∈ jx_W0 := vm_9 (List.mem_of_getElem? (i := 18) rfl)
theorem w_379 : (.arrayClass .boolean : Cond) ∈ jx_W0 := vm_9 (List.mem_of_getElem? (i := 19) rfl)
theorem w_380 : (.fieldLink "MoleculeRegistryModel" 16 "MoleculeRegistryModel" "aromatic" "[Z" : Cond) ∈ jx_W0 := vm_9 (List.mem_of_getElem? (i := 20) rfl)
theorem w_381 : (.fieldLink "MoleculeRegistryModel" 20 "MoleculeRegistryModel" "hydrogens" "[I" : Cond) ∈ jx_W0 := vm_9 (List.mem_of_getElem? (i := 21) rfl)
theorem w_382 : (.fieldLink "MoleculeRegistryModel" 23 "MoleculeRegistryModel" "charge" "[I" : Cond) ∈ jx_W0 := vm_9 (List.mem_of_getElem? (i := 22) rfl)
theorem w_383 : (.fieldLink "MoleculeRegistryModel" 26 "MoleculeRegistryModel" "bracket" "[Z" : Cond) ∈ jx_W0 := vm_9 (List.mem_of_getElem? (i := 23) rfl)
theorem w_384 : (.fieldLink "MoleculeRegistryModel" 29 "MoleculeRegistryModel" "list" "[I" : Cond) ∈ jx_W0 := vm_9 (List.mem_of_getElem? (i := 24) rfl)
theorem w_385 : (.fieldLink "MoleculeRegistryModel" 32 "MoleculeRegistryModel" "bonds" "[I" : Cond) ∈ jx_W0 := vm_9 (List.mem_of_getElem? (i := 25) rfl)
theorem w_386 : (.fieldLink "MoleculeRegistryModel" 35 "MoleculeRegistryModel" "back" "[I" : Cond) ∈ jx_W0 := vm_9 (List.mem_of_getElem? (i := 26) rfl)
theorem w_387 : (.fieldLink "MoleculeRegistryModel" 38 "MoleculeRegistryModel" "opener" "[I" : Cond) ∈ jx_W0 := vm_9 (List.mem_of_getElem? (i := 27) rfl)
theorem w_388 : (.fieldLink "MoleculeRegistryModel" 41 "MoleculeRegistryModel" "openLink" "[I" : Cond) ∈ jx_W0 := vm_9 (List.mem_of_getElem? (i := 28) rfl)
theorem w_389 : (.fieldLink "MoleculeRegistryModel" 44 "MoleculeRegistryModel" "ids" "[I" : Cond) ∈ jx_W0 := vm_9 (List.mem_of_getElem? (i := 29) rfl)
theorem w_390 : (.fieldLink "MoleculeRegistryModel" 47 "MoleculeRegistryModel" "sizes" "[I" : Cond) ∈ jx_W0 := vm_9 (List.mem_of_getElem? (i := 30) rfl)
theorem w_391 : (.fieldLink "MoleculeRegistryModel" 50 "MoleculeRegistryModel" "elements" "[I" : Cond) ∈ jx_W0 := vm_9 (List.mem_of_getElem? (i := 31) rfl)
theorem w_392 : (.fieldLink "MoleculeRegistryModel" 53 "MoleculeRegistryModel" "aromatics" "[Z" : Cond) ∈ jx_W0 := vm_9 (List.mem_of_getElem? (i := 32) rfl)
theorem w_393 : (.fieldLink "MoleculeRegistryModel" 56 "MoleculeRegistryModel" "hydrogenCounts" "[I" : Cond) ∈ jx_W0 := vm_9 (List.mem_of_getElem? (i := 33) rfl)
theorem w_394 : (.fieldLink "MoleculeRegistryModel" 59 "MoleculeRegistryModel" "charges" "[I" : Cond) ∈ jx_W0 := vm_9 (List.mem_of_getElem? (i := 34) rfl)
theorem w_395 : (.fieldLink "MoleculeRegistryModel" 62 "MoleculeRegistryModel" "allBonds" "[I" : Cond) ∈ jx_W0 := vm_9 (List.mem_of_getElem? (i := 35) rfl)
theorem w_396 : (.fieldLink "MoleculeRegistryModel" 65 "MoleculeRegistryModel" "put" "[I" : Cond) ∈ jx_W0 := vm_9 (List.mem_of_getElem? (i := 36) rfl)
theorem w_397 : (.fieldLink "MoleculeRegistryModel" 68 "MoleculeRegistryModel" "taken" "[Z" : Cond) ∈ jx_W0 := vm_9 (List.mem_of_getElem? (i := 37) rfl)
theorem w_398 : (.fieldLink "MoleculeRegistryModel" 71 "MoleculeRegistryModel" "storeElement" "[I" : Cond) ∈ jx_W0 := vm_9 (List.mem_of_getElem? (i := 38) rfl)
theorem w_399 : (.fieldLink "MoleculeRegistryModel" 74 "MoleculeRegistryModel" "storeAromatic" "[Z" : Cond) ∈ jx_W0 := vm_9 (List.mem_of_getElem? (i := 39) rfl)
theorem w_400 : (.fieldLink "MoleculeRegistryModel" 77 "MoleculeRegistryModel" "storeHydrogens" "[I" : Cond) ∈ jx_W0 := vm_10 (List.mem_of_getElem? (i := 0) rfl)
theorem w_401 : (.fieldLink "MoleculeRegistryModel" 80 "MoleculeRegistryModel" "storeCharge" "[I" : Cond) ∈ jx_W0 := vm_10 (List.mem_of_getElem? (i := 1) rfl)
theorem w_402 : (.fieldLink "MoleculeRegistryModel" 83 "MoleculeRegistryModel" "storeBonds" "[I" : Cond) ∈ jx_W0 := vm_10 (List.mem_of_getElem? (i := 2) rfl)
theorem w_403 : (.fieldLink "MoleculeRegistryModel" 86 "MoleculeRegistryModel" "foundIds" "[I" : Cond) ∈ jx_W0 := vm_10 (List.mem_of_getElem? (i := 3) rfl)
theorem w_404 : (.fieldLink "MoleculeRegistryModel" 89 "MoleculeRegistryModel" "thrown" "I" : Cond) ∈ jx_W0 := vm_10 (List.mem_of_getElem? (i := 4) rfl)
theorem w_405 : (.fieldLink "MoleculeRegistryModel" 93 "MoleculeRegistryModel" "size" "I" : Cond) ∈ jx_W0 := vm_10 (List.mem_of_getElem? (i := 5) rfl)
theorem w_406 : (.fieldLink "MoleculeRegistryModel" 201 "MoleculeRegistryModel" "down" "Z" : Cond) ∈ jx_W0 := vm_10 (List.mem_of_getElem? (i := 6) rfl)
theorem w_407 : (.methodLink "MoleculeRegistryModel" 210 ⟨"MoleculeRegistryModel", "raise", "(I)I"⟩ : Cond) ∈ jx_W0 := vm_10 (List.mem_of_getElem? (i := 7) rfl)
theorem w_408 : (.instanceMethod ⟨"MoleculeRegistryModel", "raise", "(I)I"⟩ : Cond) ∈ jx_W0 := vm_10 (List.mem_of_getElem? (i := 8) rfl)
theorem w_409 : (.selects "MoleculeRegistryModel" ⟨"MoleculeRegistryModel", "raise", "(I)I"⟩ ⟨"MoleculeRegistryModel", "raise", "(I)I"⟩ : Cond) ∈ jx_W0 := vm_10 (List.mem_of_getElem? (i := 9) rfl)
theorem w_410 : (.methodLink "MoleculeRegistryModel" 213 ⟨"MoleculeRegistryModel", "wrongness", "()I"⟩ : Cond) ∈ jx_W0 := vm_10 (List.mem_of_getElem? (i := 10) rfl)
theorem w_411 : (.instanceMethod ⟨"MoleculeRegistryModel", "wrongness", "()I"⟩ : Cond) ∈ jx_W0 := vm_10 (List.mem_of_getElem? (i := 11) rfl)
theorem w_412 : (.selects "MoleculeRegistryModel" ⟨"MoleculeRegistryModel", "wrongness", "()I"⟩ ⟨"MoleculeRegistryModel", "wrongness", "()I"⟩ : Cond) ∈ jx_W0 := vm_10 (List.mem_of_getElem? (i := 12) rfl)
theorem w_413 : (.methodLink "MoleculeRegistryModel" 216 ⟨"MoleculeRegistryModel", "same", "()I"⟩ : Cond) ∈ jx_W0 := vm_10 (List.mem_of_getElem? (i := 13) rfl)
theorem w_414 : (.instanceMethod ⟨"MoleculeRegistryModel", "same", "()I"⟩ : Cond) ∈ jx_W0 := vm_10 (List.mem_of_getElem? (i := 14) rfl)
theorem w_415 : (.selects "MoleculeRegistryModel" ⟨"MoleculeRegistryModel", "same", "()I"⟩ ⟨"MoleculeRegistryModel", "same", "()I"⟩ : Cond) ∈ jx_W0 := vm_10 (List.mem_of_getElem? (i := 15) rfl)
theorem w_416 : (.fieldLink "MoleculeRegistryModel" 169 "MoleculeRegistryModel" "count" "I" : Cond) ∈ jx_W0 := vm_10 (List.mem_of_getElem? (i := 16) rfl)
theorem w_417 : (.methodLink "MoleculeRegistryModel" 219 ⟨"MoleculeRegistryModel", "keepText", "()V"⟩ : Cond) ∈ jx_W0 := vm_10 (List.mem_of_getElem? (i := 17) rfl)
theorem w_418 : (.instanceMethod ⟨"MoleculeRegistryModel", "keepText", "()V"⟩ : Cond) ∈ jx_W0 := vm_10 (List.mem_of_getElem? (i := 18) rfl)
theorem w_419 : (.selects "MoleculeRegistryModel" ⟨"MoleculeRegistryModel", "keepText", "()V"⟩ ⟨"MoleculeRegistryModel", "keepText", "()V"⟩ : Cond) ∈ jx_W0 := vm_10 (List.mem_of_getElem? (i := 19) rfl)
theorem w_420 : (.fieldLink "MoleculeRegistryModel" 185 "MoleculeRegistryModel" "lastId" "I" : Cond) ∈ jx_W0 := vm_10 (List.mem_of_getElem? (i := 20) rfl)
theorem w_421 : (.methodLink "MoleculeRegistryModel" 222 ⟨"MoleculeRegistryModel", "change", "(II)Z"⟩ : Cond) ∈ jx_W0 := vm_10 (List.mem_of_getElem? (i := 21) rfl)
theorem w_422 : (.instanceMethod ⟨"MoleculeRegistryModel", "change", "(II)Z"⟩ : Cond) ∈ jx_W0 := vm_10 (List.mem_of_getElem? (i := 22) rfl)
theorem w_423 : (.selects "MoleculeRegistryModel" ⟨"MoleculeRegistryModel", "change", "(II)Z"⟩ ⟨"MoleculeRegistryModel", "change", "(II)Z"⟩ : Cond) ∈ jx_W0 := vm_10 (List.mem_of_getElem? (i := 23) rfl)
theorem w_424 : (.methodLink "MoleculeRegistryModel" 153 ⟨"MoleculeRegistryModel", "read", "(Z)Z"⟩ : Cond) ∈ jx_W0 := vm_10 (List.mem_of_getElem? (i := 24) rfl)
theorem w_425 : (.instanceMethod ⟨"MoleculeRegistryModel", "read", "(Z)Z"⟩ : Cond) ∈ jx_W0 := vm_10 (List.mem_of_getElem? (i := 25) rfl)
theorem w_426 : (.selects "MoleculeRegistryModel" ⟨"MoleculeRegistryModel", "read", "(Z)Z"⟩ ⟨"MoleculeRegistryModel", "read", "(Z)Z"⟩ : Cond) ∈ jx_W0 := vm_10 (List.mem_of_getElem? (i := 26) rfl)
theorem w_427 : (.fieldLink "MoleculeRegistryModel" 96 "MoleculeRegistryModel" "many" "I" : Cond) ∈ jx_W0 := vm_10 (List.mem_of_getElem? (i := 27) rfl)
theorem w_428 : (.methodLink "MoleculeRegistryModel" 156 ⟨"MoleculeRegistryModel", "valences", "()Z"⟩ : Cond) ∈ jx_W0 := vm_10 (List.mem_of_getElem? (i := 28) rfl)
theorem w_429 : (.instanceMethod ⟨"MoleculeRegistryModel", "valences", "()Z"⟩ : Cond) ∈ jx_W0 := vm_10 (List.mem_of_getElem? (i := 29) rfl)
theorem w_430 : (.selects "MoleculeRegistryModel" ⟨"MoleculeRegistryModel", "valences", "()Z"⟩ ⟨"MoleculeRegistryModel", "valences", "()Z"⟩ : Cond) ∈ jx_W0 := vm_10 (List.mem_of_getElem? (i := 30) rfl)
theorem w_431 : (.methodLink "MoleculeRegistryModel" 159 ⟨"MoleculeRegistryModel", "matching", "()Z"⟩ : Cond) ∈ jx_W0 := vm_10 (List.mem_of_getElem? (i := 31) rfl)
theorem w_432 : (.instanceMethod ⟨"MoleculeRegistryModel", "matching", "()Z"⟩ : Cond) ∈ jx_W0 := vm_10 (List.mem_of_getElem? (i := 32) rfl)
theorem w_433 : (.selects "MoleculeRegistryModel" ⟨"MoleculeRegistryModel", "matching", "()Z"⟩ ⟨"MoleculeRegistryModel", "matching", "()Z"⟩ : Cond) ∈ jx_W0 := vm_10 (List.mem_of_getElem? (i := 33) rfl)
theorem w_434 : (.fieldLink "MoleculeRegistryModel" 99 "MoleculeRegistryModel" "at" "I" : Cond) ∈ jx_W0 := vm_10 (List.mem_of_getElem? (i := 34) rfl)
theorem w_435 : (.fieldLink "MoleculeRegistryModel" 120 "MoleculeRegistryModel" "good" "Z" : Cond) ∈ jx_W0 := vm_10 (List.mem_of_getElem? (i := 35) rfl)
theorem w_436 : (.methodLink "MoleculeRegistryModel" 102 ⟨"MoleculeRegistryModel", "ch", "(I)I"⟩ : Cond) ∈ jx_W0 := vm_10 (List.mem_of_getElem? (i := 36) rfl)
theorem w_437 : (.instanceMethod ⟨"MoleculeRegistryModel", "ch", "(I)I"⟩ : Cond) ∈ jx_W0 := vm_10 (List.mem_of_getElem? (i := 37) rfl)
theorem w_438 : (.selects "MoleculeRegistryModel" ⟨"MoleculeRegistryModel", "ch", "(I)I"⟩ ⟨"MoleculeRegistryModel", "ch", "(I)I"⟩ : Cond) ∈ jx_W0 := vm_10 (List.mem_of_getElem? (i := 38) rfl)
theorem w_439 : (.methodLink "MoleculeRegistryModel" 124 ⟨"MoleculeRegistryModel", "linkOf", "(IZ)I"⟩ : Cond) ∈ jx_W0 := vm_10 (List.mem_of_getElem? (i := 39) rfl)
theorem w_440 : (.static ⟨"MoleculeRegistryModel", "linkOf", "(IZ)I"⟩ : Cond) ∈ jx_W0 := vm_11 (List.mem_of_getElem? (i := 0) rfl)
theorem w_441 : (.methodLink "MoleculeRegistryModel" 132 ⟨"MoleculeRegistryModel", "atom", "(Z)Z"⟩ : Cond) ∈ jx_W0 := vm_11 (List.mem_of_getElem? (i := 1) rfl)
theorem w_442 : (.instanceMethod ⟨"MoleculeRegistryModel", "atom", "(Z)Z"⟩ : Cond) ∈ jx_W0 := vm_11 (List.mem_of_getElem? (i := 2) rfl)
theorem w_443 : (.selects "MoleculeRegistryModel" ⟨"MoleculeRegistryModel", "atom", "(Z)Z"⟩ ⟨"MoleculeRegistryModel", "atom", "(Z)Z"⟩ : Cond) ∈ jx_W0 := vm_11 (List.mem_of_getElem? (i := 3) rfl)
theorem w_444 : (.methodLink "MoleculeRegistryModel" 128 ⟨"MoleculeRegistryModel", "bind", "(III)V"⟩ : Cond) ∈ jx_W0 := vm_11 (List.mem_of_getElem? (i := 4) rfl)
theorem w_445 : (.instanceMethod ⟨"MoleculeRegistryModel", "bind", "(III)V"⟩ : Cond) ∈ jx_W0 := vm_11 (List.mem_of_getElem? (i := 5) rfl)
theorem w_446 : (.selects "MoleculeRegistryModel" ⟨"MoleculeRegistryModel", "bind", "(III)V"⟩ ⟨"MoleculeRegistryModel", "bind", "(III)V"⟩ : Cond) ∈ jx_W0 := vm_11 (List.mem_of_getElem? (i := 6) rfl)
theorem w_447 : (.methodLink "MoleculeRegistryModel" 136 ⟨"MoleculeRegistryModel", "closures", "(IZ)V"⟩ : Cond) ∈ jx_W0 := vm_11 (List.mem_of_getElem? (i := 7) rfl)
theorem w_448 : (.instanceMethod ⟨"MoleculeRegistryModel", "closures", "(IZ)V"⟩ : Cond) ∈ jx_W0 := vm_11 (List.mem_of_getElem? (i := 8) rfl)
theorem w_449 : (.selects "MoleculeRegistryModel" ⟨"MoleculeRegistryModel", "closures", "(IZ)V"⟩ ⟨"MoleculeRegistryModel", "closures", "(IZ)V"⟩ : Cond) ∈ jx_W0 := vm_11 (List.mem_of_getElem? (i := 9) rfl)
theorem w_450 : (.methodLink "MoleculeRegistryModel" 106 ⟨"MoleculeRegistryModel", "placeOf", "(I)I"⟩ : Cond) ∈ jx_W0 := vm_11 (List.mem_of_getElem? (i := 10) rfl)
theorem w_451 : (.static ⟨"MoleculeRegistryModel", "placeOf", "(I)I"⟩ : Cond) ∈ jx_W0 := vm_11 (List.mem_of_getElem? (i := 11) rfl)
theorem w_452 : (.methodLink "MoleculeRegistryModel" 109 ⟨"MoleculeRegistryModel", "newAtom", "(IZ)V"⟩ : Cond) ∈ jx_W0 := vm_11 (List.mem_of_getElem? (i := 12) rfl)
theorem w_453 : (.instanceMethod ⟨"MoleculeRegistryModel", "newAtom", "(IZ)V"⟩ : Cond) ∈ jx_W0 := vm_11 (List.mem_of_getElem? (i := 13) rfl)
theorem w_454 : (.selects "MoleculeRegistryModel" ⟨"MoleculeRegistryModel", "newAtom", "(IZ)V"⟩ ⟨"MoleculeRegistryModel", "newAtom", "(IZ)V"⟩ : Cond) ∈ jx_W0 := vm_11 (List.mem_of_getElem? (i := 14) rfl)
theorem w_455 : (.methodLink "MoleculeRegistryModel" 113 ⟨"MoleculeRegistryModel", "several", "()Z"⟩ : Cond) ∈ jx_W0 := vm_11 (List.mem_of_getElem? (i := 15) rfl)
theorem w_456 : (.instanceMethod ⟨"MoleculeRegistryModel", "several", "()Z"⟩ : Cond) ∈ jx_W0 := vm_11 (List.mem_of_getElem? (i := 16) rfl)
theorem w_457 : (.selects "MoleculeRegistryModel" ⟨"MoleculeRegistryModel", "several", "()Z"⟩ ⟨"MoleculeRegistryModel", "several", "()Z"⟩ : Cond) ∈ jx_W0 := vm_11 (List.mem_of_getElem? (i := 17) rfl)
theorem w_458 : (.methodLink "MoleculeRegistryModel" 117 ⟨"MoleculeRegistryModel", "one", "()Z"⟩ : Cond) ∈ jx_W0 := vm_11 (List.mem_of_getElem? (i := 18) rfl)
theorem w_459 : (.instanceMethod ⟨"MoleculeRegistryModel", "one", "()Z"⟩ : Cond) ∈ jx_W0 := vm_11 (List.mem_of_getElem? (i := 19) rfl)
theorem w_460 : (.selects "MoleculeRegistryModel" ⟨"MoleculeRegistryModel", "one", "()Z"⟩ ⟨"MoleculeRegistryModel", "one", "()Z"⟩ : Cond) ∈ jx_W0 := vm_11 (List.mem_of_getElem? (i := 20) rfl)
theorem w_461 : (.methodLink "MoleculeRegistryModel" 139 ⟨"MoleculeRegistryModel", "orders", "(I)I"⟩ : Cond) ∈ jx_W0 := vm_11 (List.mem_of_getElem? (i := 21) rfl)
theorem w_462 : (.instanceMethod ⟨"MoleculeRegistryModel", "orders", "(I)I"⟩ : Cond) ∈ jx_W0 := vm_11 (List.mem_of_getElem? (i := 22) rfl)
theorem w_463 : (.selects "MoleculeRegistryModel" ⟨"MoleculeRegistryModel", "orders", "(I)I"⟩ ⟨"MoleculeRegistryModel", "orders", "(I)I"⟩ : Cond) ∈ jx_W0 := vm_11 (List.mem_of_getElem? (i := 23) rfl)
theorem w_464 : (.methodLink "MoleculeRegistryModel" 142 ⟨"MoleculeRegistryModel", "most", "(I)I"⟩ : Cond) ∈ jx_W0 := vm_11 (List.mem_of_getElem? (i := 24) rfl)
theorem w_465 : (.instanceMethod ⟨"MoleculeRegistryModel", "most", "(I)I"⟩ : Cond) ∈ jx_W0 := vm_11 (List.mem_of_getElem? (i := 25) rfl)
theorem w_466 : (.selects "MoleculeRegistryModel" ⟨"MoleculeRegistryModel", "most", "(I)I"⟩ ⟨"MoleculeRegistryModel", "most", "(I)I"⟩ : Cond) ∈ jx_W0 := vm_11 (List.mem_of_getElem? (i := 26) rfl)
theorem w_467 : (.methodLink "MoleculeRegistryModel" 145 ⟨"MoleculeRegistryModel", "pairs", "(I)Z"⟩ : Cond) ∈ jx_W0 := vm_11 (List.mem_of_getElem? (i := 27) rfl)
theorem w_468 : (.instanceMethod ⟨"MoleculeRegistryModel", "pairs", "(I)Z"⟩ : Cond) ∈ jx_W0 := vm_11 (List.mem_of_getElem? (i := 28) rfl)
theorem w_469 : (.selects "MoleculeRegistryModel" ⟨"MoleculeRegistryModel", "pairs", "(I)Z"⟩ ⟨"MoleculeRegistryModel", "pairs", "(I)Z"⟩ : Cond) ∈ jx_W0 := vm_11 (List.mem_of_getElem? (i := 29) rfl)
theorem w_470 : (.methodLink "MoleculeRegistryModel" 149 ⟨"MoleculeRegistryModel", "free", "()I"⟩ : Cond) ∈ jx_W0 := vm_11 (List.mem_of_getElem? (i := 30) rfl)
theorem w_471 : (.instanceMethod ⟨"MoleculeRegistryModel", "free", "()I"⟩ : Cond) ∈ jx_W0 := vm_11 (List.mem_of_getElem? (i := 31) rfl)
theorem w_472 : (.selects "MoleculeRegistryModel" ⟨"MoleculeRegistryModel", "free", "()I"⟩ ⟨"MoleculeRegistryModel", "free", "()I"⟩ : Cond) ∈ jx_W0 := vm_11 (List.mem_of_getElem? (i := 32) rfl)
theorem w_473 : (.methodLink "MoleculeRegistryModel" 172 ⟨"MoleculeRegistryModel", "canBePut", "(IZ)Z"⟩ : Cond) ∈ jx_W0 := vm_11 (List.mem_of_getElem? (i := 33) rfl)
theorem w_474 : (.instanceMethod ⟨"MoleculeRegistryModel", "canBePut", "(IZ)Z"⟩ : Cond) ∈ jx_W0 := vm_11 (List.mem_of_getElem? (i := 34) rfl)
theorem w_475 : (.selects "MoleculeRegistryModel" ⟨"MoleculeRegistryModel", "canBePut", "(IZ)Z"⟩ ⟨"MoleculeRegistryModel", "canBePut", "(IZ)Z"⟩ : Cond) ∈ jx_W0 := vm_11 (List.mem_of_getElem? (i := 35) rfl)
theorem w_476 : (.methodLink "MoleculeRegistryModel" 166 ⟨"MoleculeRegistryModel", "agrees", "(IIIZ)Z"⟩ : Cond) ∈ jx_W0 := vm_11 (List.mem_of_getElem? (i := 36) rfl)
theorem w_477 : (.instanceMethod ⟨"MoleculeRegistryModel", "agrees", "(IIIZ)Z"⟩ : Cond) ∈ jx_W0 := vm_11 (List.mem_of_getElem? (i := 37) rfl)
theorem w_478 : (.selects "MoleculeRegistryModel" ⟨"MoleculeRegistryModel", "agrees", "(IIIZ)Z"⟩ ⟨"MoleculeRegistryModel", "agrees", "(IIIZ)Z"⟩ : Cond) ∈ jx_W0 := vm_11 (List.mem_of_getElem? (i := 38) rfl)
theorem w_479 : (.methodLink "MoleculeRegistryModel" 162 ⟨"MoleculeRegistryModel", "fits", "(IIIZ)Z"⟩ : Cond) ∈ jx_W0 := vm_11 (List.mem_of_getElem? (i := 39) rfl)
theorem w_480 : (.instanceMethod ⟨"MoleculeRegistryModel", "fits", "(IIIZ)Z"⟩ : Cond) ∈ jx_W0 := vm_12 (List.mem_of_getElem? (i := 0) rfl)
theorem w_481 : (.selects "MoleculeRegistryModel" ⟨"MoleculeRegistryModel", "fits", "(IIIZ)Z"⟩ ⟨"MoleculeRegistryModel", "fits", "(IIIZ)Z"⟩ : Cond) ∈ jx_W0 := vm_12 (List.mem_of_getElem? (i := 1) rfl)
theorem w_482 : (.fieldLink "MoleculeRegistryModel" 176 "MoleculeRegistryModel" "storeSize" "I" : Cond) ∈ jx_W0 := vm_12 (List.mem_of_getElem? (i := 2) rfl)
theorem w_483 : (.fieldLink "MoleculeRegistryModel" 195 "MoleculeRegistryModel" "failure" "I" : Cond) ∈ jx_W0 := vm_12 (List.mem_of_getElem? (i := 3) rfl)
theorem w_484 : (.fieldLink "MoleculeRegistryModel" 198 "MoleculeRegistryModel" "finds" "I" : Cond) ∈ jx_W0 := vm_12 (List.mem_of_getElem? (i := 4) rfl)
theorem w_485 : (.fieldLink "MoleculeRegistryModel" 179 "MoleculeRegistryModel" "logged" "I" : Cond) ∈ jx_W0 := vm_12 (List.mem_of_getElem? (i := 5) rfl)
theorem w_486 : (.fieldLink "MoleculeRegistryModel" 182 "MoleculeRegistryModel" "loggedId" "I" : Cond) ∈ jx_W0 := vm_12 (List.mem_of_getElem? (i := 6) rfl)
theorem w_487 : (.fieldLink "MoleculeRegistryModel" 204 "MoleculeRegistryModel" "done" "Z" : Cond) ∈ jx_W0 := vm_12 (List.mem_of_getElem? (i := 7) rfl)
theorem w_488 : (.methodLink "MoleculeRegistryModel" 207 ⟨"MoleculeRegistryModel", "perform", "()V"⟩ : Cond) ∈ jx_W0 := vm_12 (List.mem_of_getElem? (i := 8) rfl)
theorem w_489 : (.instanceMethod ⟨"MoleculeRegistryModel", "perform", "()V"⟩ : Cond) ∈ jx_W0 := vm_12 (List.mem_of_getElem? (i := 9) rfl)
theorem w_490 : (.selects "MoleculeRegistryModel" ⟨"MoleculeRegistryModel", "perform", "()V"⟩ ⟨"MoleculeRegistryModel", "perform", "()V"⟩ : Cond) ∈ jx_W0 := vm_12 (List.mem_of_getElem? (i := 10) rfl)
theorem w_491 : (.methodLink "MoleculeRegistryModel" 188 ⟨"MoleculeRegistryModel", "placeOfId", "(I)I"⟩ : Cond) ∈ jx_W0 := vm_12 (List.mem_of_getElem? (i := 11) rfl)
theorem w_492 : (.instanceMethod ⟨"MoleculeRegistryModel", "placeOfId", "(I)I"⟩ : Cond) ∈ jx_W0 := vm_12 (List.mem_of_getElem? (i := 12) rfl)
theorem w_493 : (.selects "MoleculeRegistryModel" ⟨"MoleculeRegistryModel", "placeOfId", "(I)I"⟩ ⟨"MoleculeRegistryModel", "placeOfId", "(I)I"⟩ : Cond) ∈ jx_W0 := vm_12 (List.mem_of_getElem? (i := 13) rfl)
theorem w_494 : (.methodLink "MoleculeRegistryModel" 191 ⟨"MoleculeRegistryModel", "copyMolecule", "(II)V"⟩ : Cond) ∈ jx_W0 := vm_12 (List.mem_of_getElem? (i := 14) rfl)
theorem w_495 : (.instanceMethod ⟨"MoleculeRegistryModel", "copyMolecule", "(II)V"⟩ : Cond) ∈ jx_W0 := vm_12 (List.mem_of_getElem? (i := 15) rfl)
theorem w_496 : (.selects "MoleculeRegistryModel" ⟨"MoleculeRegistryModel", "copyMolecule", "(II)V"⟩ ⟨"MoleculeRegistryModel", "copyMolecule", "(II)V"⟩ : Cond) ∈ jx_W0 := vm_12 (List.mem_of_getElem? (i := 16) rfl)
theorem w_497 : (.fieldLinkNest "MoleculeRegistry$Chemistry" 9 "MoleculeRegistry$Graph" "size" "I" "MoleculeRegistry" : Cond) ∈ jx_W0 := vm_12 (List.mem_of_getElem? (i := 17) rfl)
theorem w_498 : (.fieldLinkNest "MoleculeRegistry$Chemistry" 15 "MoleculeRegistry$Graph" "codes" "[I" "MoleculeRegistry" : Cond) ∈ jx_W0 := vm_12 (List.mem_of_getElem? (i := 18) rfl)
theorem w_499 : (.methodLink "MoleculeRegistry$Chemistry" 19 ⟨"MoleculeRegistry$Chemistry", "capacity", "(I)I"⟩ : Cond) ∈ jx_W0 := vm_12 (List.mem_of_getElem? (i := 19) rfl)
theorem w_500 : (.static ⟨"MoleculeRegistry$Chemistry", "capacity", "(I)I"⟩ : Cond) ∈ jx_W0 := vm_12 (List.mem_of_getElem? (i := 20) rfl)
theorem w_501 : (.methodLink "MoleculeRegistry$Chemistry" 25 ⟨"MoleculeRegistry$Chemistry", "orders", "(LMoleculeRegistry$Graph;I)I"⟩ : Cond) ∈ jx_W0 := vm_12 (List.mem_of_getElem? (i := 21) rfl)
theorem w_502 : (.static ⟨"MoleculeRegistry$Chemistry", "orders", "(LMoleculeRegistry$Graph;I)I"⟩ : Cond) ∈ jx_W0 := vm_12 (List.mem_of_getElem? (i := 22) rfl)
theorem w_503 : (.methodLink "MoleculeRegistry$Chemistry" 31 ⟨"MoleculeRegistry$Chemistry", "pairing", "(LMoleculeRegistry$Graph;)I"⟩ : Cond) ∈ jx_W0 := vm_12 (List.mem_of_getElem? (i := 23) rfl)
theorem w_504 : (.static ⟨"MoleculeRegistry$Chemistry", "pairing", "(LMoleculeRegistry$Graph;)I"⟩ : Cond) ∈ jx_W0 := vm_12 (List.mem_of_getElem? (i := 24) rfl)
theorem w_505 : (.methodLink "MoleculeRegistry$Chemistry" 35 ⟨"MoleculeRegistry$Chemistry", "canPair", "(LMoleculeRegistry$Graph;II)Z"⟩ : Cond) ∈ jx_W0 := vm_12 (List.mem_of_getElem? (i := 25) rfl)
theorem w_506 : (.static ⟨"MoleculeRegistry$Chemistry", "canPair", "(LMoleculeRegistry$Graph;II)Z"⟩ : Cond) ∈ jx_W0 := vm_12 (List.mem_of_getElem? (i := 26) rfl)
theorem w_507 : (.methodLink "MoleculeRegistry$Chemistry" 41 ⟨"java/lang/String", "indexOf", "(I)I"⟩ : Cond) ∈ jx_W0 := vm_12 (List.mem_of_getElem? (i := 27) rfl)
theorem w_508 : (.fieldLinkNest "MoleculeRegistry$Chemistry" 46 "MoleculeRegistry" "VALENCES" "[I" "MoleculeRegistry" : Cond) ∈ jx_W0 := vm_12 (List.mem_of_getElem? (i := 28) rfl)
theorem w_509 : (.methodLink "MoleculeRegistry$Chemistry" 49 ⟨"MoleculeRegistry$Graph", "degree", "(II)I"⟩ : Cond) ∈ jx_W0 := vm_12 (List.mem_of_getElem? (i := 29) rfl)
theorem w_510 : (.methodLink "MoleculeRegistry$Chemistry" 53 ⟨"MoleculeRegistry$Chemistry", "pairs", "(I)Z"⟩ : Cond) ∈ jx_W0 := vm_12 (List.mem_of_getElem? (i := 30) rfl)
theorem w_511 : (.static ⟨"MoleculeRegistry$Chemistry", "pairs", "(I)Z"⟩ : Cond) ∈ jx_W0 := vm_12 (List.mem_of_getElem? (i := 31) rfl)
theorem w_512 : (.methodLink "MoleculeRegistry$Chemistry" 57 ⟨"MoleculeRegistry$Graph", "boundTo", "(II)I"⟩ : Cond) ∈ jx_W0 := vm_12 (List.mem_of_getElem? (i := 32) rfl)
theorem w_513 : (.methodLink "MoleculeRegistryLaw" 7 ⟨"MoleculeRegistry", "register", "()I"⟩ : Cond) ∈ jx_W0 := vm_12 (List.mem_of_getElem? (i := 33) rfl)
theorem w_514 : (.instanceMethod ⟨"MoleculeRegistry", "register", "()I"⟩ : Cond) ∈ jx_W0 := vm_12 (List.mem_of_getElem? (i := 34) rfl)
theorem w_515 : (.selects "MoleculeRegistry" ⟨"MoleculeRegistry", "register", "()I"⟩ ⟨"MoleculeRegistry", "register", "()I"⟩ : Cond) ∈ jx_W0 := vm_12 (List.mem_of_getElem? (i := 35) rfl)
theorem w_516 : (.methodLink "MoleculeRegistryLaw" 23 ⟨"MoleculeRegistry", "lookup", "()I"⟩ : Cond) ∈ jx_W0 := vm_12 (List.mem_of_getElem? (i := 36) rfl)
theorem w_517 : (.instanceMethod ⟨"MoleculeRegistry", "lookup", "()I"⟩ : Cond) ∈ jx_W0 := vm_12 (List.mem_of_getElem? (i := 37) rfl)
theorem w_518 : (.selects "MoleculeRegistry" ⟨"MoleculeRegistry", "lookup", "()I"⟩ ⟨"MoleculeRegistry", "lookup", "()I"⟩ : Cond) ∈ jx_W0 := vm_12 (List.mem_of_getElem? (i := 38) rfl)
theorem w_519 : (.methodLink "MoleculeRegistryLaw" 26 ⟨"MoleculeRegistry", "search", "()I"⟩ : Cond) ∈ jx_W0 := vm_12 (List.mem_of_getElem? (i := 39) rfl)
theorem w_520 : (.instanceMethod ⟨"MoleculeRegistry", "search", "()I"⟩ : Cond) ∈ jx_W0 := vm_13 (List.mem_of_getElem? (i := 0) rfl)
theorem w_521 : (.selects "MoleculeRegistry" ⟨"MoleculeRegistry", "search", "()I"⟩ ⟨"MoleculeRegistry", "search", "()I"⟩ : Cond) ∈ jx_W0 := vm_13 (List.mem_of_getElem? (i := 1) rfl)
theorem w_522 : (.methodLink "MoleculeRegistryLaw" 29 ⟨"MoleculeRegistry", "remove", "(I)I"⟩ : Cond) ∈ jx_W0 := vm_13 (List.mem_of_getElem? (i := 2) rfl)
theorem w_523 : (.instanceMethod ⟨"MoleculeRegistry", "remove", "(I)I"⟩ : Cond) ∈ jx_W0 := vm_13 (List.mem_of_getElem? (i := 3) rfl)
theorem w_524 : (.selects "MoleculeRegistry" ⟨"MoleculeRegistry", "remove", "(I)I"⟩ ⟨"MoleculeRegistry", "remove", "(I)I"⟩ : Cond) ∈ jx_W0 := vm_13 (List.mem_of_getElem? (i := 4) rfl)
theorem w_525 : (.constant "java/lang/Integer" 265 1431655765 : Cond) ∈ jx_W0 := vm_13 (List.mem_of_getElem? (i := 5) rfl)
theorem w_526 : (.constant "java/lang/Integer" 266 858993459 : Cond) ∈ jx_W0 := vm_13 (List.mem_of_getElem? (i := 6) rfl)
theorem w_527 : (.constant "java/lang/Integer" 267 252645135 : Cond) ∈ jx_W0 := vm_13 (List.mem_of_getElem? (i := 7) rfl)
theorem w_528 : (.methodLink "java/lang/String" 633 ⟨"java/lang/String", "indexOf", "(II)I"⟩ : Cond) ∈ jx_W0 := vm_13 (List.mem_of_getElem? (i := 8) rfl)
theorem w_529 : (.instanceMethod ⟨"java/lang/String", "indexOf", "(II)I"⟩ : Cond) ∈ jx_W0 := vm_13 (List.mem_of_getElem? (i := 9) rfl)
theorem w_530 : (.selects "java/lang/String" ⟨"java/lang/String", "indexOf", "(II)I"⟩ ⟨"java/lang/String", "indexOf", "(II)I"⟩ : Cond) ∈ jx_W0 := vm_13 (List.mem_of_getElem? (i := 10) rfl)
theorem w_531 : (.methodLink "java/lang/String" 492 ⟨"java/lang/String", "isLatin1", "()Z"⟩ : Cond) ∈ jx_W0 := vm_13 (List.mem_of_getElem? (i := 11) rfl)
theorem w_532 : (.instanceMethod ⟨"java/lang/String", "isLatin1", "()Z"⟩ : Cond) ∈ jx_W0 := vm_13 (List.mem_of_getElem? (i := 12) rfl)
theorem w_533 : (.selects "java/lang/String" ⟨"java/lang/String", "isLatin1", "()Z"⟩ ⟨"java/lang/String", "isLatin1", "()Z"⟩ : Cond) ∈ jx_W0 := vm_13 (List.mem_of_getElem? (i := 13) rfl)
theorem w_534 : (.fieldLink "java/lang/String" 9 "java/lang/String" "value" "[B" : Cond) ∈ jx_W0 := vm_13 (List.mem_of_getElem? (i := 14) rfl)
theorem w_535 : (.methodLink "java/lang/String" 505 ⟨"java/lang/String", "length", "()I"⟩ : Cond) ∈ jx_W0 := vm_13 (List.mem_of_getElem? (i := 15) rfl)
theorem w_536 : (.instanceMethod ⟨"java/lang/String", "length", "()I"⟩ : Cond) ∈ jx_W0 := vm_13 (List.mem_of_getElem? (i := 16) rfl)
theorem w_537 : (.selects "java/lang/String" ⟨"java/lang/String", "length", "()I"⟩ ⟨"java/lang/String", "length", "()I"⟩ : Cond) ∈ jx_W0 := vm_13 (List.mem_of_getElem? (i := 17) rfl)
theorem w_538 : (.methodLink "java/lang/String" 637 ⟨"java/lang/StringLatin1", "indexOf", "([BIII)I"⟩ : Cond) ∈ jx_W0 := vm_13 (List.mem_of_getElem? (i := 18) rfl)
theorem w_539 : (.static ⟨"java/lang/StringLatin1", "indexOf", "([BIII)I"⟩ : Cond) ∈ jx_W0 := vm_13 (List.mem_of_getElem? (i := 19) rfl)
theorem w_540 : (.initialized "java/lang/StringLatin1" : Cond) ∈ jx_W0 := vm_13 (List.mem_of_getElem? (i := 20) rfl)
theorem w_541 : (.fieldLink "java/lang/String" 38 "java/lang/String" "COMPACT_STRINGS" "Z" : Cond) ∈ jx_W0 := vm_13 (List.mem_of_getElem? (i := 21) rfl)
theorem w_542 : (.fieldLink "java/lang/String" 15 "java/lang/String" "coder" "B" : Cond) ∈ jx_W0 := vm_13 (List.mem_of_getElem? (i := 22) rfl)
theorem w_543 : (.methodLink "java/lang/String" 335 ⟨"java/lang/String", "coder", "()B"⟩ : Cond) ∈ jx_W0 := vm_13 (List.mem_of_getElem? (i := 23) rfl)
theorem w_544 : (.instanceMethod ⟨"java/lang/String", "coder", "()B"⟩ : Cond) ∈ jx_W0 := vm_13 (List.mem_of_getElem? (i := 24) rfl)
theorem w_545 : (.selects "java/lang/String" ⟨"java/lang/String", "coder", "()B"⟩ ⟨"java/lang/String", "coder", "()B"⟩ : Cond) ∈ jx_W0 := vm_13 (List.mem_of_getElem? (i := 25) rfl)
theorem w_546 : (.methodLink "java/lang/StringLatin1" 88 ⟨"java/lang/StringLatin1", "canEncode", "(I)Z"⟩ : Cond) ∈ jx_W0 := vm_13 (List.mem_of_getElem? (i := 26) rfl)
theorem w_547 : (.static ⟨"java/lang/StringLatin1", "canEncode", "(I)Z"⟩ : Cond) ∈ jx_W0 := vm_13 (List.mem_of_getElem? (i := 27) rfl)
theorem w_548 : (.methodLink "java/lang/StringLatin1" 92 ⟨"java/lang/Math", "max", "(II)I"⟩ : Cond) ∈ jx_W0 := vm_13 (List.mem_of_getElem? (i := 28) rfl)
theorem w_549 : (.static ⟨"java/lang/Math", "max", "(II)I"⟩ : Cond) ∈ jx_W0 := vm_13 (List.mem_of_getElem? (i := 29) rfl)
theorem w_550 : (.methodLink "java/lang/StringLatin1" 38 ⟨"java/lang/Math", "min", "(II)I"⟩ : Cond) ∈ jx_W0 := vm_13 (List.mem_of_getElem? (i := 30) rfl)
theorem w_551 : (.methodLink "java/lang/StringLatin1" 95 ⟨"java/lang/StringLatin1", "indexOfChar", "([BIII)I"⟩ : Cond) ∈ jx_W0 := vm_13 (List.mem_of_getElem? (i := 31) rfl)
theorem w_552 : (.static ⟨"java/lang/StringLatin1", "indexOfChar", "([BIII)I"⟩ : Cond) ∈ jx_W0 := vm_13 (List.mem_of_getElem? (i := 32) rfl)
theorem w_553 : (.code ⟨"MoleculeRegistry$Graph", "copyFrom", "(LMoleculeRegistry$Graph;)V"⟩ prog_3_method_3_code 2 none : Cond) ∈ jx_W0 := vm_13 (List.mem_of_getElem? (i := 33) rfl)
theorem w_554 : (.code ⟨"MoleculeRegistry$Graph", "has", "(I)Z"⟩ prog_3_method_7_code 2 (some .boolean) : Cond) ∈ jx_W0 := vm_13 (List.mem_of_getElem? (i := 34) rfl)
theorem w_555 : (.code ⟨"MoleculeRegistry$Graph", "kindBetween", "(II)I"⟩ prog_3_method_8_code 3 (some .int) : Cond) ∈ jx_W0 := vm_13 (List.mem_of_getElem? (i := 35) rfl)
theorem w_556 : (.code ⟨"MoleculeRegistry$Graph", "clear", "()V"⟩ prog_3_method_2_code 1 none : Cond) ∈ jx_W0 := vm_13 (List.mem_of_getElem? (i := 36) rfl)
theorem w_557 : (.code ⟨"MoleculeRegistry$Graph", "add", "(I)V"⟩ prog_3_method_4_code 2 none : Cond) ∈ jx_W0 := vm_13 (List.mem_of_getElem? (i := 37) rfl)
theorem w_558 : (.code ⟨"MoleculeRegistry$Graph", "join", "(III)V"⟩ prog_3_method_5_code 4 none : Cond) ∈ jx_W0 := vm_13 (List.mem_of_getElem? (i := 38) rfl)
theorem w_559 : (.code ⟨"MoleculeRegistry$Graph", "joinOneWay", "(III)V"⟩ prog_3_method_6_code 4 none : Cond) ∈ jx_W0 := vm_13 (List.mem_of_getElem? (i := 39) rfl)
theorem w_560 : (.code ⟨"MoleculeRegistry$Graph", "degree", "(II)I"⟩ prog_3_method_10_code 3 (some .int) : Cond) ∈ jx_W0 := vm_14 (List.mem_of_getElem? (i := 0) rfl)
theorem w_561 : (.code ⟨"MoleculeRegistry$Graph", "boundTo", "(II)I"⟩ prog_3_method_9_code 3 (some .int) : Cond) ∈ jx_W0 := vm_14 (List.mem_of_getElem? (i := 1) rfl)
theorem w_562 : (.code ⟨"MoleculeRegistry$Log", "clear", "()V"⟩ prog_4_method_3_code 1 none : Cond) ∈ jx_W0 := vm_14 (List.mem_of_getElem? (i := 2) rfl)
theorem w_563 : (.code ⟨"MoleculeRegistry$Log", "write", "(ZILMoleculeRegistry$Graph;)V"⟩ prog_4_method_2_code 4 none : Cond) ∈ jx_W0 := vm_14 (List.mem_of_getElem? (i := 3) rfl)
theorem w_564 : (.code ⟨"MoleculeRegistry$Matcher", "areSame", "(LMoleculeRegistry$Graph;LMoleculeRegistry$Graph;)Z"⟩ prog_5_method_2_code 3 (some .boolean) : Cond) ∈ jx_W0 := vm_14 (List.mem_of_getElem? (i := 4) rfl)
theorem w_565 : (.code ⟨"MoleculeRegistry$Matcher", "findChoices", "(LMoleculeRegistry$Graph;LMoleculeRegistry$Graph;I)Z"⟩ prog_5_method_5_code 6 (some .boolean) : Cond) ∈ jx_W0 := vm_14 (List.mem_of_getElem? (i := 5) rfl)
theorem w_566 : (.code ⟨"MoleculeRegistry$Matcher", "fits", "(II)Z"⟩ prog_5_method_6_code 3 (some .boolean) : Cond) ∈ jx_W0 := vm_14 (List.mem_of_getElem? (i := 6) rfl)
theorem w_567 : (.code ⟨"MoleculeRegistry$Matcher", "hasBondsFor", "(LMoleculeRegistry$Graph;ILMoleculeRegistry$Graph;I)Z"⟩ prog_5_method_7_code 5 (some .boolean) : Cond) ∈ jx_W0 := vm_14 (List.mem_of_getElem? (i := 7) rfl)
theorem w_568 : (.code ⟨"MoleculeRegistry$Matcher", "everyAtom", "(LMoleculeRegistry$Graph;)I"⟩ prog_5_method_4_code 1 (some .int) : Cond) ∈ jx_W0 := vm_14 (List.mem_of_getElem? (i := 8) rfl)
theorem w_569 : (.code ⟨"MoleculeRegistry$Matcher", "canPlace", "(LMoleculeRegistry$Graph;LMoleculeRegistry$Graph;II)Z"⟩ prog_5_method_8_code 8 (some .boolean) : Cond) ∈ jx_W0 := vm_14 (List.mem_of_getElem? (i := 9) rfl)
theorem w_570 : (.code ⟨"MoleculeRegistry$Matcher", "isIn", "(LMoleculeRegistry$Graph;LMoleculeRegistry$Graph;)Z"⟩ prog_5_method_3_code 3 (some .boolean) : Cond) ∈ jx_W0 := vm_14 (List.mem_of_getElem? (i := 10) rfl)
theorem w_571 : (.code ⟨"MoleculeRegistry$Reader", "start", "([CIZ)V"⟩ prog_6_method_2_code 4 none : Cond) ∈ jx_W0 := vm_14 (List.mem_of_getElem? (i := 11) rfl)
theorem w_572 : (.code ⟨"MoleculeRegistry$Reader", "readAtoms", "()Z"⟩ prog_6_method_4_code 5 (some .boolean) : Cond) ∈ jx_W0 := vm_14 (List.mem_of_getElem? (i := 12) rfl)
theorem w_573 : (.code ⟨"MoleculeRegistry$Reader", "readLink", "()I"⟩ prog_6_method_9_code 1 (some .int) : Cond) ∈ jx_W0 := vm_14 (List.mem_of_getElem? (i := 13) rfl)
theorem w_574 : (.code ⟨"MoleculeRegistry$Reader", "takes", "(C)Z"⟩ prog_6_method_8_code 3 (some .boolean) : Cond) ∈ jx_W0 := vm_14 (List.mem_of_getElem? (i := 14) rfl)
theorem w_575 : (.code ⟨"MoleculeRegistry$Reader", "readAtom", "()Z"⟩ prog_6_method_16_code 2 (some .boolean) : Cond) ∈ jx_W0 := vm_14 (List.mem_of_getElem? (i := 15) rfl)
theorem w_576 : (.code ⟨"MoleculeRegistry$Reader", "here", "()C"⟩ prog_6_method_7_code 1 (some .char) : Cond) ∈ jx_W0 := vm_14 (List.mem_of_getElem? (i := 16) rfl)
theorem w_577 : (.code ⟨"MoleculeRegistry$Reader", "readBrackets", "()Z"⟩ prog_6_method_18_code 4 (some .boolean) : Cond) ∈ jx_W0 := vm_14 (List.mem_of_getElem? (i := 17) rfl)
theorem w_578 : (.code ⟨"MoleculeRegistry$Reader", "readList", "(C)Z"⟩ prog_6_method_19_code 5 (some .boolean) : Cond) ∈ jx_W0 := vm_14 (List.mem_of_getElem? (i := 18) rfl)
theorem w_579 : (.code ⟨"MoleculeRegistry$Reader", "addAtom", "(II)Z"⟩ prog_6_method_17_code 3 (some .boolean) : Cond) ∈ jx_W0 := vm_14 (List.mem_of_getElem? (i := 19) rfl)
theorem w_580 : (.code ⟨"MoleculeRegistry$Reader", "readHydrogens", "()I"⟩ prog_6_method_20_code 2 (some .int) : Cond) ∈ jx_W0 := vm_14 (List.mem_of_getElem? (i := 20) rfl)
theorem w_581 : (.code ⟨"MoleculeRegistry$Reader", "readCharge", "()I"⟩ prog_6_method_21_code 1 (some .int) : Cond) ∈ jx_W0 := vm_14 (List.mem_of_getElem? (i := 21) rfl)
theorem w_582 : (.code ⟨"MoleculeRegistry$Reader", "bind", "(III)Z"⟩ prog_6_method_13_code 5 (some .boolean) : Cond) ∈ jx_W0 := vm_14 (List.mem_of_getElem? (i := 22) rfl)
theorem w_583 : (.code ⟨"MoleculeRegistry$Reader", "kindFor", "(III)I"⟩ prog_6_method_15_code 5 (some .int) : Cond) ∈ jx_W0 := vm_14 (List.mem_of_getElem? (i := 23) rfl)
theorem w_584 : (.code ⟨"MoleculeRegistry$Reader", "areBound", "(II)Z"⟩ prog_6_method_14_code 5 (some .boolean) : Cond) ∈ jx_W0 := vm_14 (List.mem_of_getElem? (i := 24) rfl)
theorem w_585 : (.code ⟨"MoleculeRegistry$Reader", "readClosures", "(I)Z"⟩ prog_6_method_10_code 6 (some .boolean) : Cond) ∈ jx_W0 := vm_14 (List.mem_of_getElem? (i := 25) rfl)
theorem w_586 : (.code ⟨"MoleculeRegistry$Reader", "openOrClose", "(III)Z"⟩ prog_6_method_11_code 6 (some .boolean) : Cond) ∈ jx_W0 := vm_14 (List.mem_of_getElem? (i := 26) rfl)
theorem w_587 : (.code ⟨"MoleculeRegistry$Reader", "readPartEnds", "(I)I"⟩ prog_6_method_5_code 4 (some .int) : Cond) ∈ jx_W0 := vm_14 (List.mem_of_getElem? (i := 27) rfl)
theorem w_588 : (.code ⟨"MoleculeRegistry$Reader", "readPartStart", "(I)V"⟩ prog_6_method_6_code 2 none : Cond) ∈ jx_W0 := vm_14 (List.mem_of_getElem? (i := 28) rfl)
theorem w_589 : (.code ⟨"MoleculeRegistry$Reader", "aDigitIsOpen", "()Z"⟩ prog_6_method_12_code 2 (some .boolean) : Cond) ∈ jx_W0 := vm_14 (List.mem_of_getElem? (i := 29) rfl)
theorem w_590 : (.code ⟨"MoleculeRegistry$Reader", "fill", "(LMoleculeRegistry$Graph;)V"⟩ prog_6_method_3_code 3 none : Cond) ∈ jx_W0 := vm_14 (List.mem_of_getElem? (i := 30) rfl)
theorem w_591 : (.code ⟨"MoleculeRegistry$Shelf", "slotOf", "(I)I"⟩ prog_7_method_2_code 3 (some .int) : Cond) ∈ jx_W0 := vm_14 (List.mem_of_getElem? (i := 31) rfl)
theorem w_592 : (.code ⟨"MoleculeRegistry$Shelf", "take", "(I)V"⟩ prog_7_method_4_code 5 none : Cond) ∈ jx_W0 := vm_14 (List.mem_of_getElem? (i := 32) rfl)
theorem w_593 : (.code ⟨"MoleculeRegistry$Shelf", "put", "(ILMoleculeRegistry$Graph;)V"⟩ prog_7_method_3_code 3 none : Cond) ∈ jx_W0 := vm_14 (List.mem_of_getElem? (i := 33) rfl)
theorem w_594 : (.code ⟨"MoleculeRegistry", "type", "(J)Z"⟩ prog_1_method_2_code 6 (some .boolean) : Cond) ∈ jx_W0 := vm_14 (List.mem_of_getElem? (i := 34) rfl)
theorem w_595 : (.code ⟨"MoleculeRegistry", "byteAt", "(JI)I"⟩ prog_1_method_3_code 3 (some .int) : Cond) ∈ jx_W0 := vm_14 (List.mem_of_getElem? (i := 35) rfl)
theorem w_596 : (.code ⟨"MoleculeRegistry", "append", "(J)V"⟩ prog_1_method_4_code 5 none : Cond) ∈ jx_W0 := vm_14 (List.mem_of_getElem? (i := 36) rfl)
theorem w_597 : (.code ⟨"MoleculeRegistry", "wipe", "()V"⟩ prog_1_method_5_code 1 none : Cond) ∈ jx_W0 := vm_14 (List.mem_of_getElem? (i := 37) rfl)
theorem w_598 : (.code ⟨"MoleculeRegistry", "found", "(I)I"⟩ prog_1_method_9_code 2 (some .int) : Cond) ∈ jx_W0 := vm_14 (List.mem_of_getElem? (i := 38) rfl)
theorem w_599 : (.code ⟨"MoleculeRegistry", "fail", "(I)Z"⟩ prog_1_method_11_code 2 (some .boolean) : Cond) ∈ jx_W0 := vm_14 (List.mem_of_getElem? (i := 39) rfl)
theorem w_600 : (.code ⟨"MoleculeRegistry", "recover", "()I"⟩ prog_1_method_12_code 2 (some .int) : Cond) ∈ jx_W0 := vm_15 (List.mem_of_getElem? (i := 0) rfl)
theorem w_601 : (.code ⟨"MoleculeRegistry", "carryOut", "()V"⟩ prog_1_method_22_code 2 none : Cond) ∈ jx_W0 := vm_15 (List.mem_of_getElem? (i := 1) rfl)
theorem w_602 : (.code ⟨"MoleculeRegistry", "count", "()I"⟩ prog_1_method_13_code 1 (some .int) : Cond) ∈ jx_W0 := vm_15 (List.mem_of_getElem? (i := 2) rfl)
theorem w_603 : (.code ⟨"MoleculeRegistry", "atoms", "(I)I"⟩ prog_1_method_14_code 3 (some .int) : Cond) ∈ jx_W0 := vm_15 (List.mem_of_getElem? (i := 3) rfl)
theorem w_604 : (.code ⟨"MoleculeRegistry", "visible", "(I)LMoleculeRegistry$Graph;"⟩ prog_1_method_17_code 3 (some (.object "MoleculeRegistry$Graph")) : Cond) ∈ jx_W0 := vm_15 (List.mem_of_getElem? (i := 4) rfl)
theorem w_605 : (.code ⟨"MoleculeRegistry", "atom", "(II)I"⟩ prog_1_method_15_code 4 (some .int) : Cond) ∈ jx_W0 := vm_15 (List.mem_of_getElem? (i := 5) rfl)
theorem w_606 : (.code ⟨"MoleculeRegistry", "bond", "(III)I"⟩ prog_1_method_16_code 5 (some .int) : Cond) ∈ jx_W0 := vm_15 (List.mem_of_getElem? (i := 6) rfl)
theorem w_607 : (.code ⟨"MoleculeRegistry", "register", "()I"⟩ prog_1_method_6_code 3 (some .int) : Cond) ∈ jx_W0 := vm_15 (List.mem_of_getElem? (i := 7) rfl)
theorem w_608 : (.code ⟨"MoleculeRegistry", "readBuffer", "(Z)V"⟩ prog_1_method_19_code 2 none : Cond) ∈ jx_W0 := vm_15 (List.mem_of_getElem? (i := 8) rfl)
theorem w_609 : (.code ⟨"MoleculeRegistry", "refuseWhenDown", "()V"⟩ prog_1_method_18_code 1 none : Cond) ∈ jx_W0 := vm_15 (List.mem_of_getElem? (i := 9) rfl)
theorem w_610 : (.code ⟨"MoleculeRegistry", "idOfSame", "()I"⟩ prog_1_method_20_code 2 (some .int) : Cond) ∈ jx_W0 := vm_15 (List.mem_of_getElem? (i := 10) rfl)
theorem w_611 : (.code ⟨"MoleculeRegistry", "change", "(ZI)Z"⟩ prog_1_method_21_code 4 (some .boolean) : Cond) ∈ jx_W0 := vm_15 (List.mem_of_getElem? (i := 11) rfl)
theorem w_612 : (.code ⟨"MoleculeRegistry", "lookup", "()I"⟩ prog_1_method_7_code 1 (some .int) : Cond) ∈ jx_W0 := vm_15 (List.mem_of_getElem? (i := 12) rfl)
theorem w_613 : (.code ⟨"MoleculeRegistry", "search", "()I"⟩ prog_1_method_8_code 2 (some .int) : Cond) ∈ jx_W0 := vm_15 (List.mem_of_getElem? (i := 13) rfl)
theorem w_614 : (.code ⟨"MoleculeRegistry", "remove", "(I)I"⟩ prog_1_method_10_code 2 (some .int) : Cond) ∈ jx_W0 := vm_15 (List.mem_of_getElem? (i := 14) rfl)
theorem w_615 : (.code ⟨"MoleculeRegistryModel", "thrown", "()I"⟩ prog_9_method_2_code 1 (some .int) : Cond) ∈ jx_W0 := vm_15 (List.mem_of_getElem? (i := 15) rfl)
theorem w_616 : (.code ⟨"MoleculeRegistryModel", "type", "(J)Z"⟩ prog_9_method_4_code 7 (some .boolean) : Cond) ∈ jx_W0 := vm_15 (List.mem_of_getElem? (i := 16) rfl)
theorem w_617 : (.code ⟨"MoleculeRegistryModel", "wipe", "()V"⟩ prog_9_method_5_code 1 none : Cond) ∈ jx_W0 := vm_15 (List.mem_of_getElem? (i := 17) rfl)
theorem w_618 : (.code ⟨"MoleculeRegistryModel", "register", "()I"⟩ prog_9_method_32_code 4 (some .int) : Cond) ∈ jx_W0 := vm_15 (List.mem_of_getElem? (i := 18) rfl)
theorem w_619 : (.code ⟨"MoleculeRegistryModel", "raise", "(I)I"⟩ prog_9_method_3_code 2 (some .int) : Cond) ∈ jx_W0 := vm_15 (List.mem_of_getElem? (i := 19) rfl)
theorem w_620 : (.code ⟨"MoleculeRegistryModel", "wrongness", "()I"⟩ prog_9_method_22_code 1 (some .int) : Cond) ∈ jx_W0 := vm_15 (List.mem_of_getElem? (i := 20) rfl)
theorem w_621 : (.code ⟨"MoleculeRegistryModel", "read", "(Z)Z"⟩ prog_9_method_15_code 8 (some .boolean) : Cond) ∈ jx_W0 := vm_15 (List.mem_of_getElem? (i := 21) rfl)
theorem w_622 : (.code ⟨"MoleculeRegistryModel", "ch", "(I)I"⟩ prog_9_method_6_code 2 (some .int) : Cond) ∈ jx_W0 := vm_15 (List.mem_of_getElem? (i := 22) rfl)
theorem w_623 : (.code ⟨"MoleculeRegistryModel", "linkOf", "(IZ)I"⟩ prog_9_method_8_code 2 (some .int) : Cond) ∈ jx_W0 := vm_15 (List.mem_of_getElem? (i := 23) rfl)
theorem w_624 : (.code ⟨"MoleculeRegistryModel", "atom", "(Z)Z"⟩ prog_9_method_10_code 3 (some .boolean) : Cond) ∈ jx_W0 := vm_15 (List.mem_of_getElem? (i := 24) rfl)
theorem w_625 : (.code ⟨"MoleculeRegistryModel", "placeOf", "(I)I"⟩ prog_9_method_7_code 1 (some .int) : Cond) ∈ jx_W0 := vm_15 (List.mem_of_getElem? (i := 25) rfl)
theorem w_626 : (.code ⟨"MoleculeRegistryModel", "newAtom", "(IZ)V"⟩ prog_9_method_9_code 4 none : Cond) ∈ jx_W0 := vm_15 (List.mem_of_getElem? (i := 26) rfl)
theorem w_627 : (.code ⟨"MoleculeRegistryModel", "several", "()Z"⟩ prog_9_method_11_code 4 (some .boolean) : Cond) ∈ jx_W0 := vm_15 (List.mem_of_getElem? (i := 27) rfl)
theorem w_628 : (.code ⟨"MoleculeRegistryModel", "one", "()Z"⟩ prog_9_method_12_code 2 (some .boolean) : Cond) ∈ jx_W0 := vm_15 (List.mem_of_getElem? (i := 28) rfl)
theorem w_629 : (.code ⟨"MoleculeRegistryModel", "bind", "(III)V"⟩ prog_9_method_13_code 8 none : Cond) ∈ jx_W0 := vm_15 (List.mem_of_getElem? (i := 29) rfl)
theorem w_630 : (.code ⟨"MoleculeRegistryModel", "closures", "(IZ)V"⟩ prog_9_method_14_code 7 none : Cond) ∈ jx_W0 := vm_15 (List.mem_of_getElem? (i := 30) rfl)
theorem w_631 : (.code ⟨"MoleculeRegistryModel", "valences", "()Z"⟩ prog_9_method_18_code 6 (some .boolean) : Cond) ∈ jx_W0 := vm_15 (List.mem_of_getElem? (i := 31) rfl)
theorem w_632 : (.code ⟨"MoleculeRegistryModel", "orders", "(I)I"⟩ prog_9_method_17_code 6 (some .int) : Cond) ∈ jx_W0 := vm_15 (List.mem_of_getElem? (i := 32) rfl)
theorem w_633 : (.code ⟨"MoleculeRegistryModel", "most", "(I)I"⟩ prog_9_method_16_code 3 (some .int) : Cond) ∈ jx_W0 := vm_15 (List.mem_of_getElem? (i := 33) rfl)
theorem w_634 : (.code ⟨"MoleculeRegistryModel", "matching", "()Z"⟩ prog_9_method_20_code 5 (some .boolean) : Cond) ∈ jx_W0 := vm_15 (List.mem_of_getElem? (i := 34) rfl)
theorem w_635 : (.code ⟨"MoleculeRegistryModel", "pairs", "(I)Z"⟩ prog_9_method_19_code 2 (some .boolean) : Cond) ∈ jx_W0 := vm_15 (List.mem_of_getElem? (i := 35) rfl)
theorem w_636 : (.code ⟨"MoleculeRegistryModel", "free", "()I"⟩ prog_9_method_21_code 2 (some .int) : Cond) ∈ jx_W0 := vm_15 (List.mem_of_getElem? (i := 36) rfl)
theorem w_637 : (.code ⟨"MoleculeRegistryModel", "same", "()I"⟩ prog_9_method_26_code 2 (some .int) : Cond) ∈ jx_W0 := vm_15 (List.mem_of_getElem? (i := 37) rfl)
theorem w_638 : (.code ⟨"MoleculeRegistryModel", "canBePut", "(IZ)Z"⟩ prog_9_method_25_code 5 (some .boolean) : Cond) ∈ jx_W0 := vm_15 (List.mem_of_getElem? (i := 38) rfl)
theorem w_639 : (.code ⟨"MoleculeRegistryModel", "agrees", "(IIIZ)Z"⟩ prog_9_method_24_code 9 (some .boolean) : Cond) ∈ jx_W0 := vm_15 (List.mem_of_getElem? (i := 39) rfl)
theorem w_640 : (.code ⟨"MoleculeRegistryModel", "fits", "(IIIZ)Z"⟩ prog_9_method_23_code 7 (some .boolean) : Cond) ∈ jx_W0 := vm_16 (List.mem_of_getElem? (i := 0) rfl)
theorem w_641 : (.code ⟨"MoleculeRegistryModel", "keepText", "()V"⟩ prog_9_method_27_code 3 none : Cond) ∈ jx_W0 := vm_16 (List.mem_of_getElem? (i := 1) rfl)
theorem w_642 : (.code ⟨"MoleculeRegistryModel", "change", "(II)Z"⟩ prog_9_method_30_code 4 (some .boolean) : Cond) ∈ jx_W0 := vm_16 (List.mem_of_getElem? (i := 2) rfl)
theorem w_643 : (.code ⟨"MoleculeRegistryModel", "perform", "()V"⟩ prog_9_method_28_code 4 none : Cond) ∈ jx_W0 := vm_16 (List.mem_of_getElem? (i := 3) rfl)
theorem w_644 : (.code ⟨"MoleculeRegistryModel", "placeOfId", "(I)I"⟩ prog_9_method_31_code 3 (some .int) : Cond) ∈ jx_W0 := vm_16 (List.mem_of_getElem? (i := 4) rfl)
theorem w_645 : (.code ⟨"MoleculeRegistryModel", "copyMolecule", "(II)V"⟩ prog_9_method_29_code 4 none : Cond) ∈ jx_W0 := vm_16 (List.mem_of_getElem? (i := 5) rfl)
theorem w_646 : (.code ⟨"MoleculeRegistryModel", "lookup", "()I"⟩ prog_9_method_33_code 3 (some .int) : Cond) ∈ jx_W0 := vm_16 (List.mem_of_getElem? (i := 6) rfl)
theorem w_647 : (.code ⟨"MoleculeRegistryModel", "search", "()I"⟩ prog_9_method_34_code 2 (some .int) : Cond) ∈ jx_W0 := vm_16 (List.mem_of_getElem? (i := 7) rfl)
theorem w_648 : (.code ⟨"MoleculeRegistryModel", "found", "(I)I"⟩ prog_9_method_35_code 2 (some .int) : Cond) ∈ jx_W0 := vm_16 (List.mem_of_getElem? (i := 8) rfl)
theorem w_649 : (.code ⟨"MoleculeRegistryModel", "remove", "(I)I"⟩ prog_9_method_36_code 2 (some .int) : Cond) ∈ jx_W0 := vm_16 (List.mem_of_getElem? (i := 9) rfl)
theorem w_650 : (.code ⟨"MoleculeRegistryModel", "fail", "(I)Z"⟩ prog_9_method_37_code 2 (some .boolean) : Cond) ∈ jx_W0 := vm_16 (List.mem_of_getElem? (i := 10) rfl)
theorem w_651 : (.code ⟨"MoleculeRegistryModel", "recover", "()I"⟩ prog_9_method_38_code 1 (some .int) : Cond) ∈ jx_W0 := vm_16 (List.mem_of_getElem? (i := 11) rfl)
theorem w_652 : (.code ⟨"MoleculeRegistryModel", "count", "()I"⟩ prog_9_method_39_code 1 (some .int) : Cond) ∈ jx_W0 := vm_16 (List.mem_of_getElem? (i := 12) rfl)
theorem w_653 : (.code ⟨"MoleculeRegistryModel", "atoms", "(I)I"⟩ prog_9_method_40_code 3 (some .int) : Cond) ∈ jx_W0 := vm_16 (List.mem_of_getElem? (i := 13) rfl)
theorem w_654 : (.code ⟨"MoleculeRegistryModel", "atom", "(II)I"⟩ prog_9_method_41_code 5 (some .int) : Cond) ∈ jx_W0 := vm_16 (List.mem_of_getElem? (i := 14) rfl)
theorem w_655 : (.code ⟨"MoleculeRegistryModel", "bond", "(III)I"⟩ prog_9_method_42_code 5 (some .int) : Cond) ∈ jx_W0 := vm_16 (List.mem_of_getElem? (i := 15) rfl)
theorem w_656 : (.code ⟨"MoleculeRegistry$Chemistry", "settle", "(LMoleculeRegistry$Graph;[I)Z"⟩ prog_2_method_2_code 5 (some .boolean) : Cond) ∈ jx_W0 := vm_16 (List.mem_of_getElem? (i := 16) rfl)
theorem w_657 : (.code ⟨"MoleculeRegistry$Chemistry", "capacity", "(I)I"⟩ prog_2_method_3_code 4 (some .int) : Cond) ∈ jx_W0 := vm_16 (List.mem_of_getElem? (i := 17) rfl)
theorem w_658 : (.code ⟨"MoleculeRegistry$Chemistry", "orders", "(LMoleculeRegistry$Graph;I)I"⟩ prog_2_method_4_code 4 (some .int) : Cond) ∈ jx_W0 := vm_16 (List.mem_of_getElem? (i := 18) rfl)
theorem w_659 : (.code ⟨"MoleculeRegistry$Chemistry", "pairs", "(I)Z"⟩ prog_2_method_5_code 2 (some .boolean) : Cond) ∈ jx_W0 := vm_16 (List.mem_of_getElem? (i := 19) rfl)
theorem w_660 : (.code ⟨"MoleculeRegistry$Chemistry", "pairing", "(LMoleculeRegistry$Graph;)I"⟩ prog_2_method_6_code 3 (some .int) : Cond) ∈ jx_W0 := vm_16 (List.mem_of_getElem? (i := 20) rfl)
theorem w_661 : (.code ⟨"MoleculeRegistry$Chemistry", "canPair", "(LMoleculeRegistry$Graph;II)Z"⟩ prog_2_method_7_code 6 (some .boolean) : Cond) ∈ jx_W0 := vm_16 (List.mem_of_getElem? (i := 21) rfl)
theorem w_662 : (.codeWith ⟨"MoleculeRegistryLaw", "register", "(LMoleculeRegistry;[J)I"⟩ method_3_code 3 (some .int) [(0, 8, 11, 13), (0, 8, 14, 15), (0, 8, 17, 17), (0, 8, 20, 19), (0, 8, 23, 21)] : Cond) ∈ jx_W0 := vm_16 (List.mem_of_getElem? (i := 22) rfl)
theorem w_663 : (.codeWith ⟨"MoleculeRegistryLaw", "lookup", "(LMoleculeRegistry;[J)I"⟩ method_4_code 3 (some .int) [(0, 8, 11, 13), (0, 8, 14, 15), (0, 8, 17, 17), (0, 8, 20, 19)] : Cond) ∈ jx_W0 := vm_16 (List.mem_of_getElem? (i := 23) rfl)
theorem w_664 : (.codeWith ⟨"MoleculeRegistryLaw", "search", "(LMoleculeRegistry;[J)I"⟩ method_5_code 3 (some .int) [(0, 8, 11, 13), (0, 8, 14, 15), (0, 8, 17, 17)] : Cond) ∈ jx_W0 := vm_16 (List.mem_of_getElem? (i := 24) rfl)
theorem w_665 : (.codeWith ⟨"MoleculeRegistryLaw", "remove", "(LMoleculeRegistry;I[J)I"⟩ method_6_code 4 (some .int) [(0, 9, 12, 13)] : Cond) ∈ jx_W0 := vm_16 (List.mem_of_getElem? (i := 25) rfl)
theorem w_666 : (.code ⟨"java/lang/Math", "min", "(II)I"⟩ prog_17_method_69_code 2 (some .int) : Cond) ∈ jx_W0 := vm_16 (List.mem_of_getElem? (i := 26) rfl)
theorem w_667 : (.code ⟨"java/lang/Math", "max", "(II)I"⟩ prog_17_method_65_code 2 (some .int) : Cond) ∈ jx_W0 := vm_16 (List.mem_of_getElem? (i := 27) rfl)
theorem w_668 : (.code ⟨"java/util/Arrays", "fill", "([II)V"⟩ prog_25_method_103_code 4 none : Cond) ∈ jx_W0 := vm_16 (List.mem_of_getElem? (i := 28) rfl)
theorem w_669 : (.code ⟨"java/lang/Integer", "bitCount", "(I)I"⟩ prog_16_method_49_code 1 (some .int) : Cond) ∈ jx_W0 := vm_16 (List.mem_of_getElem? (i := 29) rfl)
theorem w_670 : (.code ⟨"java/lang/String", "indexOf", "(I)I"⟩ prog_19_method_79_code 2 (some .int) : Cond) ∈ jx_W0 := vm_16 (List.mem_of_getElem? (i := 30) rfl)
theorem w_671 : (.code ⟨"java/lang/String", "indexOf", "(II)I"⟩ prog_19_method_80_code 3 (some .int) : Cond) ∈ jx_W0 := vm_16 (List.mem_of_getElem? (i := 31) rfl)
theorem w_672 : (.code ⟨"java/lang/String", "isLatin1", "()Z"⟩ prog_19_method_154_code 1 (some .boolean) : Cond) ∈ jx_W0 := vm_16 (List.mem_of_getElem? (i := 32) rfl)
theorem w_673 : (.code ⟨"java/lang/String", "length", "()I"⟩ prog_19_method_54_code 1 (some .int) : Cond) ∈ jx_W0 := vm_16 (List.mem_of_getElem? (i := 33) rfl)
theorem w_674 : (.code ⟨"java/lang/String", "coder", "()B"⟩ prog_19_method_152_code 1 (some .byte) : Cond) ∈ jx_W0 := vm_16 (List.mem_of_getElem? (i := 34) rfl)
theorem w_675 : (.code ⟨"java/lang/StringLatin1", "canEncode", "(I)Z"⟩ prog_20_method_4_code 1 (some .boolean) : Cond) ∈ jx_W0 := vm_16 (List.mem_of_getElem? (i := 35) rfl)
theorem w_676 : (.code ⟨"java/lang/StringLatin1", "indexOf", "([BIII)I"⟩ prog_20_method_22_code 4 (some .int) : Cond) ∈ jx_W0 := vm_16 (List.mem_of_getElem? (i := 36) rfl)
theorem w_677 : (.code ⟨"java/lang/StringLatin1", "indexOfChar", "([BIII)I"⟩ prog_20_method_23_code 6 (some .int) : Cond) ∈ jx_W0 := vm_16 (List.mem_of_getElem? (i := 37) rfl)
theorem w_678 : (.selects "java/lang/Throwable" ⟨"java/lang/Throwable", "fillInStackTrace", "(I)Ljava/lang/Throwable;"⟩ ⟨"java/lang/Throwable", "fillInStackTrace", "(I)Ljava/lang/Throwable;"⟩ : Cond) ∈ jx_W0 := vm_16 (List.mem_of_getElem? (i := 38) rfl)
theorem w_679 : (.initialized "java/lang/Throwable" : Cond) ∈ jx_W0 := vm_16 (List.mem_of_getElem? (i := 39) rfl)
theorem w_680 : (.initialized "java/lang/Exception" : Cond) ∈ jx_W0 := vm_17 (List.mem_of_getElem? (i := 0) rfl)
theorem w_681 : (.initialized "java/lang/RuntimeException" : Cond) ∈ jx_W0 := vm_17 (List.mem_of_getElem? (i := 1) rfl)
theorem w_682 : (.initialized "java/lang/String" : Cond) ∈ jx_W0 := vm_17 (List.mem_of_getElem? (i := 2) rfl)
theorem w_683 : (.initialized "java/lang/StringUTF16" : Cond) ∈ jx_W0 := vm_17 (List.mem_of_getElem? (i := 3) rfl)
theorem w_684 : (.initialized "jdk/internal/util/Preconditions" : Cond) ∈ jx_W0 := vm_17 (List.mem_of_getElem? (i := 4) rfl)
theorem w_685 : (.initialized "java/lang/Character" : Cond) ∈ jx_W0 := vm_17 (List.mem_of_getElem? (i := 5) rfl)
theorem w_686 : (.laysFinal "MoleculeRegistry$Reader" "MoleculeRegistry$Reader" "text" "[C" : Cond) ∈ jx_W0 := vm_17 (List.mem_of_getElem? (i := 6) rfl)
theorem w_687 : (.lays "MoleculeRegistry$Reader" "MoleculeRegistry$Reader" "length" "I" : Cond) ∈ jx_W0 := vm_17 (List.mem_of_getElem? (i := 7) rfl)
theorem w_688 : (.lays "MoleculeRegistry$Reader" "MoleculeRegistry$Reader" "position" "I" : Cond) ∈ jx_W0 := vm_17 (List.mem_of_getElem? (i := 8) rfl)
theorem w_689 : (.lays "MoleculeRegistry$Reader" "MoleculeRegistry$Reader" "asPattern" "Z" : Cond) ∈ jx_W0 := vm_17 (List.mem_of_getElem? (i := 9) rfl)
theorem w_690 : (.laysFinal "MoleculeRegistry$Reader" "MoleculeRegistry$Reader" "codes" "[I" : Cond) ∈ jx_W0 := vm_17 (List.mem_of_getElem? (i := 10) rfl)
theorem w_691 : (.laysFinal "MoleculeRegistry$Reader" "MoleculeRegistry$Reader" "written" "[I" : Cond) ∈ jx_W0 := vm_17 (List.mem_of_getElem? (i := 11) rfl)
theorem w_692 : (.lays "MoleculeRegistry$Reader" "MoleculeRegistry$Reader" "size" "I" : Cond) ∈ jx_W0 := vm_17 (List.mem_of_getElem? (i := 12) rfl)
theorem w_693 : (.laysFinal "MoleculeRegistry$Reader" "MoleculeRegistry$Reader" "bondFirst" "[I" : Cond) ∈ jx_W0 := vm_17 (List.mem_of_getElem? (i := 13) rfl)
theorem w_694 : (.laysFinal "MoleculeRegistry$Reader" "MoleculeRegistry$Reader" "bondSecond" "[I" : Cond) ∈ jx_W0 := vm_17 (List.mem_of_getElem? (i := 14) rfl)
theorem w_695 : (.laysFinal "MoleculeRegistry$Reader" "MoleculeRegistry$Reader" "bondKind" "[I" : Cond) ∈ jx_W0 := vm_17 (List.mem_of_getElem? (i := 15) rfl)
theorem w_696 : (.lays "MoleculeRegistry$Reader" "MoleculeRegistry$Reader" "bondCount" "I" : Cond) ∈ jx_W0 := vm_17 (List.mem_of_getElem? (i := 16) rfl)
theorem w_697 : (.laysFinal "MoleculeRegistry$Reader" "MoleculeRegistry$Reader" "openAtom" "[I" : Cond) ∈ jx_W0 := vm_17 (List.mem_of_getElem? (i := 17) rfl)
theorem w_698 : (.laysFinal "MoleculeRegistry$Reader" "MoleculeRegistry$Reader" "openLink" "[I" : Cond) ∈ jx_W0 := vm_17 (List.mem_of_getElem? (i := 18) rfl)
theorem w_699 : (.laysFinal "MoleculeRegistry$Reader" "MoleculeRegistry$Reader" "branches" "[I" : Cond) ∈ jx_W0 := vm_17 (List.mem_of_getElem? (i := 19) rfl)
theorem w_700 : (.lays "MoleculeRegistry$Reader" "MoleculeRegistry$Reader" "depth" "I" : Cond) ∈ jx_W0 := vm_17 (List.mem_of_getElem? (i := 20) rfl)
theorem w_701 : (.superclass "MoleculeRegistry$Reader" "java/lang/Object" : Cond) ∈ jx_W0 := vm_17 (List.mem_of_getElem? (i := 21) rfl)
theorem w_702 : (.laysFinal "MoleculeRegistry$Graph" "MoleculeRegistry$Graph" "codes" "[I" : Cond) ∈ jx_W0 := vm_17 (List.mem_of_getElem? (i := 22) rfl)
theorem w_703 : (.laysFinal "MoleculeRegistry$Graph" "MoleculeRegistry$Graph" "kinds" "[I" : Cond) ∈ jx_W0 := vm_17 (List.mem_of_getElem? (i := 23) rfl)
theorem w_704 : (.laysFinal "MoleculeRegistry$Graph" "MoleculeRegistry$Graph" "near" "[I" : Cond) ∈ jx_W0 := vm_17 (List.mem_of_getElem? (i := 24) rfl)
theorem w_705 : (.lays "MoleculeRegistry$Graph" "MoleculeRegistry$Graph" "size" "I" : Cond) ∈ jx_W0 := vm_17 (List.mem_of_getElem? (i := 25) rfl)
theorem w_706 : (.lays "MoleculeRegistry$Graph" "MoleculeRegistry$Graph" "bondCount" "I" : Cond) ∈ jx_W0 := vm_17 (List.mem_of_getElem? (i := 26) rfl)
theorem w_707 : (.superclass "MoleculeRegistry$Graph" "java/lang/Object" : Cond) ∈ jx_W0 := vm_17 (List.mem_of_getElem? (i := 27) rfl)
theorem w_708 : (.laysFinal "MoleculeRegistry$Matcher" "MoleculeRegistry$Matcher" "choices" "[I" : Cond) ∈ jx_W0 := vm_17 (List.mem_of_getElem? (i := 28) rfl)
theorem w_709 : (.laysFinal "MoleculeRegistry$Matcher" "MoleculeRegistry$Matcher" "places" "[I" : Cond) ∈ jx_W0 := vm_17 (List.mem_of_getElem? (i := 29) rfl)
theorem w_710 : (.superclass "MoleculeRegistry$Matcher" "java/lang/Object" : Cond) ∈ jx_W0 := vm_17 (List.mem_of_getElem? (i := 30) rfl)
theorem w_711 : (.laysFinal "MoleculeRegistry$Shelf" "MoleculeRegistry$Shelf" "molecules" "[LMoleculeRegistry$Graph;" : Cond) ∈ jx_W0 := vm_17 (List.mem_of_getElem? (i := 31) rfl)
theorem w_712 : (.laysFinal "MoleculeRegistry$Shelf" "MoleculeRegistry$Shelf" "ids" "[I" : Cond) ∈ jx_W0 := vm_17 (List.mem_of_getElem? (i := 32) rfl)
theorem w_713 : (.lays "MoleculeRegistry$Shelf" "MoleculeRegistry$Shelf" "size" "I" : Cond) ∈ jx_W0 := vm_17 (List.mem_of_getElem? (i := 33) rfl)
theorem w_714 : (.lays "MoleculeRegistry$Shelf" "MoleculeRegistry$Shelf" "lastId" "I" : Cond) ∈ jx_W0 := vm_17 (List.mem_of_getElem? (i := 34) rfl)
theorem w_715 : (.superclass "MoleculeRegistry$Shelf" "java/lang/Object" : Cond) ∈ jx_W0 := vm_17 (List.mem_of_getElem? (i := 35) rfl)
theorem w_716 : (.lays "MoleculeRegistry$Log" "MoleculeRegistry$Log" "marked" "Z" : Cond) ∈ jx_W0 := vm_17 (List.mem_of_getElem? (i := 36) rfl)
theorem w_717 : (.lays "MoleculeRegistry$Log" "MoleculeRegistry$Log" "removing" "Z" : Cond) ∈ jx_W0 := vm_17 (List.mem_of_getElem? (i := 37) rfl)
theorem w_718 : (.lays "MoleculeRegistry$Log" "MoleculeRegistry$Log" "id" "I" : Cond) ∈ jx_W0 := vm_17 (List.mem_of_getElem? (i := 38) rfl)
theorem w_719 : (.laysFinal "MoleculeRegistry$Log" "MoleculeRegistry$Log" "molecule" "LMoleculeRegistry$Graph;" : Cond) ∈ jx_W0 := vm_17 (List.mem_of_getElem? (i := 39) rfl)
theorem w_720 : (.superclass "MoleculeRegistry$Log" "java/lang/Object" : Cond) ∈ jx_W0 := vm_18 (List.mem_of_getElem? (i := 0) rfl)
theorem w_721 : (.laysFinal "MoleculeRegistry" "MoleculeRegistry" "buffer" "[C" : Cond) ∈ jx_W0 := vm_18 (List.mem_of_getElem? (i := 1) rfl)
theorem w_722 : (.lays "MoleculeRegistry" "MoleculeRegistry" "typed" "I" : Cond) ∈ jx_W0 := vm_18 (List.mem_of_getElem? (i := 2) rfl)
theorem w_723 : (.laysFinal "MoleculeRegistry" "MoleculeRegistry" "reader" "LMoleculeRegistry$Reader;" : Cond) ∈ jx_W0 := vm_18 (List.mem_of_getElem? (i := 3) rfl)
theorem w_724 : (.laysFinal "MoleculeRegistry" "MoleculeRegistry" "read" "LMoleculeRegistry$Graph;" : Cond) ∈ jx_W0 := vm_18 (List.mem_of_getElem? (i := 4) rfl)
theorem w_725 : (.laysFinal "MoleculeRegistry" "MoleculeRegistry" "matcher" "LMoleculeRegistry$Matcher;" : Cond) ∈ jx_W0 := vm_18 (List.mem_of_getElem? (i := 5) rfl)
theorem w_726 : (.laysFinal "MoleculeRegistry" "MoleculeRegistry" "shelf" "LMoleculeRegistry$Shelf;" : Cond) ∈ jx_W0 := vm_18 (List.mem_of_getElem? (i := 6) rfl)
theorem w_727 : (.laysFinal "MoleculeRegistry" "MoleculeRegistry" "log" "LMoleculeRegistry$Log;" : Cond) ∈ jx_W0 := vm_18 (List.mem_of_getElem? (i := 7) rfl)
theorem w_728 : (.laysFinal "MoleculeRegistry" "MoleculeRegistry" "hits" "[I" : Cond) ∈ jx_W0 := vm_18 (List.mem_of_getElem? (i := 8) rfl)
theorem w_729 : (.lays "MoleculeRegistry" "MoleculeRegistry" "hitCount" "I" : Cond) ∈ jx_W0 := vm_18 (List.mem_of_getElem? (i := 9) rfl)
theorem w_730 : (.lays "MoleculeRegistry" "MoleculeRegistry" "toldFailure" "I" : Cond) ∈ jx_W0 := vm_18 (List.mem_of_getElem? (i := 10) rfl)
theorem w_731 : (.lays "MoleculeRegistry" "MoleculeRegistry" "down" "Z" : Cond) ∈ jx_W0 := vm_18 (List.mem_of_getElem? (i := 11) rfl)
theorem w_732 : (.superclass "MoleculeRegistry" "java/lang/Object" : Cond) ∈ jx_W0 := vm_18 (List.mem_of_getElem? (i := 12) rfl)
theorem w_733 : (.castable "java/lang/IllegalStateException" "java/lang/IllegalStateException" : Cond) ∈ jx_W0 := vm_18 (List.mem_of_getElem? (i := 13) rfl)
theorem w_734 : (.declares ⟨"java/lang/RuntimeException", "<init>", "()V"⟩ : Cond) ∈ jx_W0 := vm_18 (List.mem_of_getElem? (i := 14) rfl)
theorem w_735 : (.declares ⟨"java/lang/RuntimeException", "<init>", "(Ljava/lang/String;)V"⟩ : Cond) ∈ jx_W0 := vm_18 (List.mem_of_getElem? (i := 15) rfl)
theorem w_736 : (.declares ⟨"java/lang/Exception", "<init>", "()V"⟩ : Cond) ∈ jx_W0 := vm_18 (List.mem_of_getElem? (i := 16) rfl)
theorem w_737 : (.declares ⟨"java/lang/Exception", "<init>", "(Ljava/lang/String;)V"⟩ : Cond) ∈ jx_W0 := vm_18 (List.mem_of_getElem? (i := 17) rfl)
theorem w_738 : (.declares ⟨"java/lang/Throwable", "<init>", "()V"⟩ : Cond) ∈ jx_W0 := vm_18 (List.mem_of_getElem? (i := 18) rfl)
theorem w_739 : (.declares ⟨"java/lang/Throwable", "<init>", "(Ljava/lang/String;)V"⟩ : Cond) ∈ jx_W0 := vm_18 (List.mem_of_getElem? (i := 19) rfl)
theorem w_740 : (.selects "java/lang/IllegalStateException" ⟨"java/lang/Throwable", "fillInStackTrace", "(I)Ljava/lang/Throwable;"⟩ ⟨"java/lang/Throwable", "fillInStackTrace", "(I)Ljava/lang/Throwable;"⟩ : Cond) ∈ jx_W0 := vm_18 (List.mem_of_getElem? (i := 20) rfl)
theorem w_741 : (.selects "java/lang/IllegalStateException" ⟨"java/lang/Throwable", "fillInStackTrace", "()Ljava/lang/Throwable;"⟩ ⟨"java/lang/Throwable", "fillInStackTrace", "()Ljava/lang/Throwable;"⟩ : Cond) ∈ jx_W0 := vm_18 (List.mem_of_getElem? (i := 21) rfl)
theorem w_742 : (.lays "java/lang/IllegalStateException" "java/lang/Throwable" "cause" "Ljava/lang/Throwable;" : Cond) ∈ jx_W0 := vm_18 (List.mem_of_getElem? (i := 22) rfl)
theorem w_743 : (.lays "java/lang/Throwable" "java/lang/Throwable" "cause" "Ljava/lang/Throwable;" : Cond) ∈ jx_W0 := vm_18 (List.mem_of_getElem? (i := 23) rfl)
theorem w_744 : (.lays "java/lang/IllegalStateException" "java/lang/Throwable" "stackTrace" "[Ljava/lang/StackTraceElement;" : Cond) ∈ jx_W0 := vm_18 (List.mem_of_getElem? (i := 24) rfl)
theorem w_745 : (.lays "java/lang/Throwable" "java/lang/Throwable" "stackTrace" "[Ljava/lang/StackTraceElement;" : Cond) ∈ jx_W0 := vm_18 (List.mem_of_getElem? (i := 25) rfl)
theorem w_746 : (.lays "java/lang/IllegalStateException" "java/lang/Throwable" "suppressedExceptions" "Ljava/util/List;" : Cond) ∈ jx_W0 := vm_18 (List.mem_of_getElem? (i := 26) rfl)
theorem w_747 : (.lays "java/lang/Throwable" "java/lang/Throwable" "suppressedExceptions" "Ljava/util/List;" : Cond) ∈ jx_W0 := vm_18 (List.mem_of_getElem? (i := 27) rfl)
theorem w_748 : (.lays "java/lang/IllegalStateException" "java/lang/Throwable" "detailMessage" "Ljava/lang/String;" : Cond) ∈ jx_W0 := vm_18 (List.mem_of_getElem? (i := 28) rfl)
theorem w_749 : (.lays "java/lang/Throwable" "java/lang/Throwable" "detailMessage" "Ljava/lang/String;" : Cond) ∈ jx_W0 := vm_18 (List.mem_of_getElem? (i := 29) rfl)
theorem w_750 : (.lays "java/lang/IllegalStateException" "java/lang/Throwable" "backtrace" "Ljava/lang/Object;" : Cond) ∈ jx_W0 := vm_18 (List.mem_of_getElem? (i := 30) rfl)
theorem w_751 : (.lays "java/lang/Throwable" "java/lang/Throwable" "backtrace" "Ljava/lang/Object;" : Cond) ∈ jx_W0 := vm_18 (List.mem_of_getElem? (i := 31) rfl)
theorem w_752 : (.fieldLink "java/lang/Throwable" 198 "java/lang/Throwable" "backtrace" "Ljava/lang/Object;" : Cond) ∈ jx_W0 := vm_18 (List.mem_of_getElem? (i := 32) rfl)
theorem w_753 : (.superclass "java/lang/Throwable" "java/lang/Object" : Cond) ∈ jx_W0 := vm_18 (List.mem_of_getElem? (i := 33) rfl)
theorem w_754 : (.instanceMethod ⟨"java/lang/Throwable", "<init>", "()V"⟩ : Cond) ∈ jx_W0 := vm_18 (List.mem_of_getElem? (i := 34) rfl)
theorem w_755 : (.code ⟨"java/lang/Throwable", "<init>", "()V"⟩ prog_23_method_1_code 1 none : Cond) ∈ jx_W0 := vm_18 (List.mem_of_getElem? (i := 35) rfl)
theorem w_756 : (.methodLink "java/lang/Throwable" 1 ⟨"java/lang/Object", "<init>", "()V"⟩ : Cond) ∈ jx_W0 := vm_18 (List.mem_of_getElem? (i := 36) rfl)
theorem w_757 : (.fieldLink "java/lang/Throwable" 13 "java/lang/Throwable" "UNASSIGNED_STACK" "[Ljava/lang/StackTraceElement;" : Cond) ∈ jx_W0 := vm_18 (List.mem_of_getElem? (i := 37) rfl)
theorem w_758 : (.fieldLink "java/lang/Throwable" 20 "java/lang/Throwable" "SUPPRESSED_SENTINEL" "Ljava/util/List;" : Cond) ∈ jx_W0 := vm_18 (List.mem_of_getElem? (i := 38) rfl)
theorem w_759 : (.methodLink "java/lang/Throwable" 27 ⟨"java/lang/Throwable", "fillInStackTrace", "()Ljava/lang/Throwable;"⟩ : Cond) ∈ jx_W0 := vm_18 (List.mem_of_getElem? (i := 39) rfl)
theorem w_760 : (.instanceMethod ⟨"java/lang/Throwable", "fillInStackTrace", "()Ljava/lang/Throwable;"⟩ : Cond) ∈ jx_W0 := vm_19 (List.mem_of_getElem? (i := 0) rfl)
theorem w_761 : (.selects "java/lang/ArithmeticException" ⟨"java/lang/Throwable", "fillInStackTrace", "()Ljava/lang/Throwable;"⟩ ⟨"java/lang/Throwable", "fillInStackTrace", "()Ljava/lang/Throwable;"⟩ : Cond) ∈ jx_W0 := vm_19 (List.mem_of_getElem? (i := 1) rfl)
theorem w_762 : (.selects "java/lang/IllegalArgumentException" ⟨"java/lang/Throwable", "fillInStackTrace", "()Ljava/lang/Throwable;"⟩ ⟨"java/lang/Throwable", "fillInStackTrace", "()Ljava/lang/Throwable;"⟩ : Cond) ∈ jx_W0 := vm_19 (List.mem_of_getElem? (i := 2) rfl)
theorem w_763 : (.selects "java/lang/IndexOutOfBoundsException" ⟨"java/lang/Throwable", "fillInStackTrace", "()Ljava/lang/Throwable;"⟩ ⟨"java/lang/Throwable", "fillInStackTrace", "()Ljava/lang/Throwable;"⟩ : Cond) ∈ jx_W0 := vm_19 (List.mem_of_getElem? (i := 3) rfl)
theorem w_764 : (.selects "java/lang/UnsupportedOperationException" ⟨"java/lang/Throwable", "fillInStackTrace", "()Ljava/lang/Throwable;"⟩ ⟨"java/lang/Throwable", "fillInStackTrace", "()Ljava/lang/Throwable;"⟩ : Cond) ∈ jx_W0 := vm_19 (List.mem_of_getElem? (i := 4) rfl)
theorem w_765 : (.codeSync ⟨"java/lang/Throwable", "fillInStackTrace", "()Ljava/lang/Throwable;"⟩ prog_23_method_18_code 1 (some (.object "java/lang/Throwable")) : Cond) ∈ jx_W0 := vm_19 (List.mem_of_getElem? (i := 5) rfl)
theorem w_766 : (.methodLink "java/lang/Throwable" 202 ⟨"java/lang/Throwable", "fillInStackTrace", "(I)Ljava/lang/Throwable;"⟩ : Cond) ∈ jx_W0 := vm_19 (List.mem_of_getElem? (i := 6) rfl)
theorem w_767 : (.instanceMethod ⟨"java/lang/Throwable", "fillInStackTrace", "(I)Ljava/lang/Throwable;"⟩ : Cond) ∈ jx_W0 := vm_19 (List.mem_of_getElem? (i := 7) rfl)
theorem w_768 : (.instantiable "java/lang/Throwable" 6 : Cond) ∈ jx_W0 := vm_19 (List.mem_of_getElem? (i := 8) rfl)
theorem w_769 : (.native ⟨"java/lang/Throwable", "fillInStackTrace", "(I)Ljava/lang/Throwable;"⟩ : Cond) ∈ jx_W0 := vm_19 (List.mem_of_getElem? (i := 9) rfl)
theorem w_770 : (.methodLink "MoleculeRegistry" 146 ⟨"java/lang/IllegalStateException", "<init>", "(Ljava/lang/String;)V"⟩ : Cond) ∈ jx_W0 := vm_19 (List.mem_of_getElem? (i := 10) rfl)
theorem w_771 : (.instanceMethod ⟨"java/lang/IllegalStateException", "<init>", "(Ljava/lang/String;)V"⟩ : Cond) ∈ jx_W0 := vm_19 (List.mem_of_getElem? (i := 11) rfl)
theorem w_772 : (.code ⟨"java/lang/IllegalStateException", "<init>", "(Ljava/lang/String;)V"⟩ prog_14_method_2_code 2 none : Cond) ∈ jx_W0 := vm_19 (List.mem_of_getElem? (i := 12) rfl)
theorem w_773 : (.methodLink "java/lang/IllegalStateException" 7 ⟨"java/lang/RuntimeException", "<init>", "(Ljava/lang/String;)V"⟩ : Cond) ∈ jx_W0 := vm_19 (List.mem_of_getElem? (i := 13) rfl)
theorem w_774 : (.instanceMethod ⟨"java/lang/RuntimeException", "<init>", "(Ljava/lang/String;)V"⟩ : Cond) ∈ jx_W0 := vm_19 (List.mem_of_getElem? (i := 14) rfl)
theorem w_775 : (.code ⟨"java/lang/RuntimeException", "<init>", "(Ljava/lang/String;)V"⟩ prog_18_method_2_code 2 none : Cond) ∈ jx_W0 := vm_19 (List.mem_of_getElem? (i := 15) rfl)
theorem w_776 : (.methodLink "java/lang/RuntimeException" 7 ⟨"java/lang/Exception", "<init>", "(Ljava/lang/String;)V"⟩ : Cond) ∈ jx_W0 := vm_19 (List.mem_of_getElem? (i := 16) rfl)
theorem w_777 : (.instanceMethod ⟨"java/lang/Exception", "<init>", "(Ljava/lang/String;)V"⟩ : Cond) ∈ jx_W0 := vm_19 (List.mem_of_getElem? (i := 17) rfl)
theorem w_778 : (.code ⟨"java/lang/Exception", "<init>", "(Ljava/lang/String;)V"⟩ prog_12_method_2_code 2 none : Cond) ∈ jx_W0 := vm_19 (List.mem_of_getElem? (i := 18) rfl)
theorem w_779 : (.methodLink "java/lang/Exception" 7 ⟨"java/lang/Throwable", "<init>", "(Ljava/lang/String;)V"⟩ : Cond) ∈ jx_W0 := vm_19 (List.mem_of_getElem? (i := 19) rfl)
theorem w_780 : (.instanceMethod ⟨"java/lang/Throwable", "<init>", "(Ljava/lang/String;)V"⟩ : Cond) ∈ jx_W0 := vm_19 (List.mem_of_getElem? (i := 20) rfl)
theorem w_781 : (.code ⟨"java/lang/Throwable", "<init>", "(Ljava/lang/String;)V"⟩ prog_23_method_2_code 2 none : Cond) ∈ jx_W0 := vm_19 (List.mem_of_getElem? (i := 21) rfl)
theorem w_782 : (.fieldLink "java/lang/Throwable" 31 "java/lang/Throwable" "detailMessage" "Ljava/lang/String;" : Cond) ∈ jx_W0 := vm_19 (List.mem_of_getElem? (i := 22) rfl)
theorem w_783 : (.fieldLink "java/lang/Throwable" 7 "java/lang/Throwable" "cause" "Ljava/lang/Throwable;" : Cond) ∈ jx_W0 := vm_19 (List.mem_of_getElem? (i := 23) rfl)
theorem w_784 : (.fieldLink "java/lang/Throwable" 17 "java/lang/Throwable" "stackTrace" "[Ljava/lang/StackTraceElement;" : Cond) ∈ jx_W0 := vm_19 (List.mem_of_getElem? (i := 24) rfl)
theorem w_785 : (.fieldLink "java/lang/Throwable" 24 "java/lang/Throwable" "suppressedExceptions" "Ljava/util/List;" : Cond) ∈ jx_W0 := vm_19 (List.mem_of_getElem? (i := 25) rfl)
theorem w_786 : (.lays "java/lang/IllegalStateException" "java/lang/Throwable" "depth" "I" : Cond) ∈ jx_W0 := vm_19 (List.mem_of_getElem? (i := 26) rfl)
theorem w_787 : (.superclass "java/lang/IllegalStateException" "java/lang/RuntimeException" : Cond) ∈ jx_W0 := vm_19 (List.mem_of_getElem? (i := 27) rfl)
theorem w_788 : (.methodLink "java/lang/String" 640 ⟨"java/lang/StringUTF16", "indexOf", "([BIII)I"⟩ : Cond) ∈ jx_W0 := vm_19 (List.mem_of_getElem? (i := 28) rfl)
theorem w_789 : (.static ⟨"java/lang/StringUTF16", "indexOf", "([BIII)I"⟩ : Cond) ∈ jx_W0 := vm_19 (List.mem_of_getElem? (i := 29) rfl)
theorem w_790 : (.code ⟨"java/lang/StringUTF16", "indexOf", "([BIII)I"⟩ prog_21_method_40_code 4 (some .int) : Cond) ∈ jx_W0 := vm_19 (List.mem_of_getElem? (i := 30) rfl)
theorem w_791 : (.methodLink "java/lang/StringUTF16" 224 ⟨"java/lang/Math", "max", "(II)I"⟩ : Cond) ∈ jx_W0 := vm_19 (List.mem_of_getElem? (i := 31) rfl)
theorem w_792 : (.methodLink "java/lang/StringUTF16" 183 ⟨"java/lang/Math", "min", "(II)I"⟩ : Cond) ∈ jx_W0 := vm_19 (List.mem_of_getElem? (i := 32) rfl)
theorem w_793 : (.methodLink "java/lang/StringUTF16" 228 ⟨"java/lang/StringUTF16", "indexOfChar", "([BIII)I"⟩ : Cond) ∈ jx_W0 := vm_19 (List.mem_of_getElem? (i := 33) rfl)
theorem w_794 : (.static ⟨"java/lang/StringUTF16", "indexOfChar", "([BIII)I"⟩ : Cond) ∈ jx_W0 := vm_19 (List.mem_of_getElem? (i := 34) rfl)
theorem w_795 : (.code ⟨"java/lang/StringUTF16", "indexOfChar", "([BIII)I"⟩ prog_21_method_47_code 4 (some .int) : Cond) ∈ jx_W0 := vm_19 (List.mem_of_getElem? (i := 35) rfl)
theorem w_796 : (.methodLink "java/lang/StringUTF16" 96 ⟨"java/lang/StringUTF16", "checkBoundsBeginEnd", "(II[B)V"⟩ : Cond) ∈ jx_W0 := vm_19 (List.mem_of_getElem? (i := 36) rfl)
theorem w_797 : (.static ⟨"java/lang/StringUTF16", "checkBoundsBeginEnd", "(II[B)V"⟩ : Cond) ∈ jx_W0 := vm_19 (List.mem_of_getElem? (i := 37) rfl)
theorem w_798 : (.code ⟨"java/lang/StringUTF16", "checkBoundsBeginEnd", "(II[B)V"⟩ prog_21_method_93_code 3 none : Cond) ∈ jx_W0 := vm_19 (List.mem_of_getElem? (i := 38) rfl)
theorem w_799 : (.methodLink "java/lang/StringUTF16" 48 ⟨"java/lang/StringUTF16", "length", "([B)I"⟩ : Cond) ∈ jx_W0 := vm_19 (List.mem_of_getElem? (i := 39) rfl)
theorem w_800 : (.static ⟨"java/lang/StringUTF16", "length", "([B)I"⟩ : Cond) ∈ jx_W0 := vm_20 (List.mem_of_getElem? (i := 0) rfl)
theorem w_801 : (.code ⟨"java/lang/StringUTF16", "length", "([B)I"⟩ prog_21_method_6_code 1 (some .int) : Cond) ∈ jx_W0 := vm_20 (List.mem_of_getElem? (i := 1) rfl)
theorem w_802 : (.methodLink "java/lang/StringUTF16" 241 ⟨"java/lang/String", "checkBoundsBeginEnd", "(III)V"⟩ : Cond) ∈ jx_W0 := vm_20 (List.mem_of_getElem? (i := 2) rfl)
theorem w_803 : (.static ⟨"java/lang/String", "checkBoundsBeginEnd", "(III)V"⟩ : Cond) ∈ jx_W0 := vm_20 (List.mem_of_getElem? (i := 3) rfl)
theorem w_804 : (.code ⟨"java/lang/String", "checkBoundsBeginEnd", "(III)V"⟩ prog_19_method_158_code 3 none : Cond) ∈ jx_W0 := vm_20 (List.mem_of_getElem? (i := 4) rfl)
theorem w_805 : (.fieldLink "java/lang/String" 1053 "jdk/internal/util/Preconditions" "SIOOBE_FORMATTER" "Ljava/util/function/BiFunction;" : Cond) ∈ jx_W0 := vm_20 (List.mem_of_getElem? (i := 5) rfl)
theorem w_806 : (.methodLink "java/lang/String" 1062 ⟨"jdk/internal/util/Preconditions", "checkFromToIndex", "(IIILjava/util/function/BiFunction;)I"⟩ : Cond) ∈ jx_W0 := vm_20 (List.mem_of_getElem? (i := 6) rfl)
theorem w_807 : (.static ⟨"jdk/internal/util/Preconditions", "checkFromToIndex", "(IIILjava/util/function/BiFunction;)I"⟩ : Cond) ∈ jx_W0 := vm_20 (List.mem_of_getElem? (i := 7) rfl)
theorem w_808 : (.code ⟨"jdk/internal/util/Preconditions", "checkFromToIndex", "(IIILjava/util/function/BiFunction;)I"⟩ prog_26_method_12_code 4 (some .int) : Cond) ∈ jx_W0 := vm_20 (List.mem_of_getElem? (i := 8) rfl)
theorem w_809 : (.methodLink "java/lang/StringUTF16" 244 ⟨"java/lang/StringUTF16", "indexOfCharUnsafe", "([BIII)I"⟩ : Cond) ∈ jx_W0 := vm_20 (List.mem_of_getElem? (i := 9) rfl)
theorem w_810 : (.static ⟨"java/lang/StringUTF16", "indexOfCharUnsafe", "([BIII)I"⟩ : Cond) ∈ jx_W0 := vm_20 (List.mem_of_getElem? (i := 10) rfl)
theorem w_811 : (.code ⟨"java/lang/StringUTF16", "indexOfCharUnsafe", "([BIII)I"⟩ prog_21_method_48_code 5 (some .int) : Cond) ∈ jx_W0 := vm_20 (List.mem_of_getElem? (i := 11) rfl)
theorem w_812 : (.methodLink "java/lang/StringUTF16" 71 ⟨"java/lang/StringUTF16", "getChar", "([BI)C"⟩ : Cond) ∈ jx_W0 := vm_20 (List.mem_of_getElem? (i := 12) rfl)
theorem w_813 : (.static ⟨"java/lang/StringUTF16", "getChar", "([BI)C"⟩ : Cond) ∈ jx_W0 := vm_20 (List.mem_of_getElem? (i := 13) rfl)
theorem w_814 : (.code ⟨"java/lang/StringUTF16", "getChar", "([BI)C"⟩ prog_21_method_5_code 2 (some .char) : Cond) ∈ jx_W0 := vm_20 (List.mem_of_getElem? (i := 14) rfl)
theorem w_815 : (.fieldLink "java/lang/StringUTF16" 44 "java/lang/StringUTF16" "$assertionsDisabled" "Z" : Cond) ∈ jx_W0 := vm_20 (List.mem_of_getElem? (i := 15) rfl)
theorem w_816 : (.fieldLink "java/lang/StringUTF16" 59 "java/lang/StringUTF16" "HI_BYTE_SHIFT" "I" : Cond) ∈ jx_W0 := vm_20 (List.mem_of_getElem? (i := 16) rfl)
theorem w_817 : (.fieldLink "java/lang/StringUTF16" 63 "java/lang/StringUTF16" "LO_BYTE_SHIFT" "I" : Cond) ∈ jx_W0 := vm_20 (List.mem_of_getElem? (i := 17) rfl)
theorem w_818 : (.methodLink "java/lang/StringUTF16" 232 ⟨"java/lang/StringUTF16", "indexOfSupplementary", "([BIII)I"⟩ : Cond) ∈ jx_W0 := vm_20 (List.mem_of_getElem? (i := 18) rfl)
theorem w_819 : (.static ⟨"java/lang/StringUTF16", "indexOfSupplementary", "([BIII)I"⟩ : Cond) ∈ jx_W0 := vm_20 (List.mem_of_getElem? (i := 19) rfl)
theorem w_820 : (.code ⟨"java/lang/StringUTF16", "indexOfSupplementary", "([BIII)I"⟩ prog_21_method_49_code 7 (some .int) : Cond) ∈ jx_W0 := vm_20 (List.mem_of_getElem? (i := 20) rfl)
theorem w_821 : (.methodLink "java/lang/StringUTF16" 164 ⟨"java/lang/Character", "isValidCodePoint", "(I)Z"⟩ : Cond) ∈ jx_W0 := vm_20 (List.mem_of_getElem? (i := 21) rfl)
theorem w_822 : (.static ⟨"java/lang/Character", "isValidCodePoint", "(I)Z"⟩ : Cond) ∈ jx_W0 := vm_20 (List.mem_of_getElem? (i := 22) rfl)
theorem w_823 : (.code ⟨"java/lang/Character", "isValidCodePoint", "(I)Z"⟩ prog_11_method_11_code 2 (some .boolean) : Cond) ∈ jx_W0 := vm_20 (List.mem_of_getElem? (i := 23) rfl)
theorem w_824 : (.methodLink "java/lang/StringUTF16" 157 ⟨"java/lang/Character", "highSurrogate", "(I)C"⟩ : Cond) ∈ jx_W0 := vm_20 (List.mem_of_getElem? (i := 24) rfl)
theorem w_825 : (.static ⟨"java/lang/Character", "highSurrogate", "(I)C"⟩ : Cond) ∈ jx_W0 := vm_20 (List.mem_of_getElem? (i := 25) rfl)
theorem w_826 : (.code ⟨"java/lang/Character", "highSurrogate", "(I)C"⟩ prog_11_method_28_code 1 (some .char) : Cond) ∈ jx_W0 := vm_20 (List.mem_of_getElem? (i := 26) rfl)
theorem w_827 : (.methodLink "java/lang/StringUTF16" 161 ⟨"java/lang/Character", "lowSurrogate", "(I)C"⟩ : Cond) ∈ jx_W0 := vm_20 (List.mem_of_getElem? (i := 27) rfl)
theorem w_828 : (.static ⟨"java/lang/Character", "lowSurrogate", "(I)C"⟩ : Cond) ∈ jx_W0 := vm_20 (List.mem_of_getElem? (i := 28) rfl)
theorem w_829 : (.code ⟨"java/lang/Character", "lowSurrogate", "(I)C"⟩ prog_11_method_29_code 1 (some .char) : Cond) ∈ jx_W0 := vm_20 (List.mem_of_getElem? (i := 29) rfl)
theorem w_830 : (.castable "java/lang/IllegalArgumentException" "java/lang/IllegalArgumentException" : Cond) ∈ jx_W0 := vm_20 (List.mem_of_getElem? (i := 30) rfl)
theorem w_831 : (.selects "java/lang/IllegalArgumentException" ⟨"java/lang/Throwable", "fillInStackTrace", "(I)Ljava/lang/Throwable;"⟩ ⟨"java/lang/Throwable", "fillInStackTrace", "(I)Ljava/lang/Throwable;"⟩ : Cond) ∈ jx_W0 := vm_20 (List.mem_of_getElem? (i := 31) rfl)
theorem w_832 : (.lays "java/lang/IllegalArgumentException" "java/lang/Throwable" "cause" "Ljava/lang/Throwable;" : Cond) ∈ jx_W0 := vm_20 (List.mem_of_getElem? (i := 32) rfl)
theorem w_833 : (.lays "java/lang/IllegalArgumentException" "java/lang/Throwable" "stackTrace" "[Ljava/lang/StackTraceElement;" : Cond) ∈ jx_W0 := vm_20 (List.mem_of_getElem? (i := 33) rfl)
theorem w_834 : (.lays "java/lang/IllegalArgumentException" "java/lang/Throwable" "suppressedExceptions" "Ljava/util/List;" : Cond) ∈ jx_W0 := vm_20 (List.mem_of_getElem? (i := 34) rfl)
theorem w_835 : (.lays "java/lang/IllegalArgumentException" "java/lang/Throwable" "detailMessage" "Ljava/lang/String;" : Cond) ∈ jx_W0 := vm_20 (List.mem_of_getElem? (i := 35) rfl)
theorem w_836 : (.lays "java/lang/IllegalArgumentException" "java/lang/Throwable" "backtrace" "Ljava/lang/Object;" : Cond) ∈ jx_W0 := vm_20 (List.mem_of_getElem? (i := 36) rfl)
theorem w_837 : (.methodLink "MoleculeRegistry" 162 ⟨"java/lang/IllegalArgumentException", "<init>", "(Ljava/lang/String;)V"⟩ : Cond) ∈ jx_W0 := vm_20 (List.mem_of_getElem? (i := 37) rfl)
theorem w_838 : (.instanceMethod ⟨"java/lang/IllegalArgumentException", "<init>", "(Ljava/lang/String;)V"⟩ : Cond) ∈ jx_W0 := vm_20 (List.mem_of_getElem? (i := 38) rfl)
theorem w_839 : (.code ⟨"java/lang/IllegalArgumentException", "<init>", "(Ljava/lang/String;)V"⟩ prog_13_method_2_code 2 none : Cond) ∈ jx_W0 := vm_20 (List.mem_of_getElem? (i := 39) rfl)
theorem w_840 : (.methodLink "java/lang/IllegalArgumentException" 7 ⟨"java/lang/RuntimeException", "<init>", "(Ljava/lang/String;)V"⟩ : Cond) ∈ jx_W0 := vm_21 (List.mem_of_getElem? (i := 0) rfl)
theorem w_841 : (.lays "java/lang/IllegalArgumentException" "java/lang/Throwable" "depth" "I" : Cond) ∈ jx_W0 := vm_21 (List.mem_of_getElem? (i := 1) rfl)
theorem w_842 : (.superclass "java/lang/IllegalArgumentException" "java/lang/RuntimeException" : Cond) ∈ jx_W0 := vm_21 (List.mem_of_getElem? (i := 2) rfl)
theorem w_843 : (.castable "java/lang/UnsupportedOperationException" "java/lang/UnsupportedOperationException" : Cond) ∈ jx_W0 := vm_21 (List.mem_of_getElem? (i := 3) rfl)
theorem w_844 : (.selects "java/lang/UnsupportedOperationException" ⟨"java/lang/Throwable", "fillInStackTrace", "(I)Ljava/lang/Throwable;"⟩ ⟨"java/lang/Throwable", "fillInStackTrace", "(I)Ljava/lang/Throwable;"⟩ : Cond) ∈ jx_W0 := vm_21 (List.mem_of_getElem? (i := 4) rfl)
theorem w_845 : (.lays "java/lang/UnsupportedOperationException" "java/lang/Throwable" "cause" "Ljava/lang/Throwable;" : Cond) ∈ jx_W0 := vm_21 (List.mem_of_getElem? (i := 5) rfl)
theorem w_846 : (.lays "java/lang/UnsupportedOperationException" "java/lang/Throwable" "stackTrace" "[Ljava/lang/StackTraceElement;" : Cond) ∈ jx_W0 := vm_21 (List.mem_of_getElem? (i := 6) rfl)
theorem w_847 : (.lays "java/lang/UnsupportedOperationException" "java/lang/Throwable" "suppressedExceptions" "Ljava/util/List;" : Cond) ∈ jx_W0 := vm_21 (List.mem_of_getElem? (i := 7) rfl)
theorem w_848 : (.lays "java/lang/UnsupportedOperationException" "java/lang/Throwable" "detailMessage" "Ljava/lang/String;" : Cond) ∈ jx_W0 := vm_21 (List.mem_of_getElem? (i := 8) rfl)
theorem w_849 : (.lays "java/lang/UnsupportedOperationException" "java/lang/Throwable" "backtrace" "Ljava/lang/Object;" : Cond) ∈ jx_W0 := vm_21 (List.mem_of_getElem? (i := 9) rfl)
theorem w_850 : (.methodLink "MoleculeRegistry" 168 ⟨"java/lang/UnsupportedOperationException", "<init>", "(Ljava/lang/String;)V"⟩ : Cond) ∈ jx_W0 := vm_21 (List.mem_of_getElem? (i := 10) rfl)
theorem w_851 : (.instanceMethod ⟨"java/lang/UnsupportedOperationException", "<init>", "(Ljava/lang/String;)V"⟩ : Cond) ∈ jx_W0 := vm_21 (List.mem_of_getElem? (i := 11) rfl)
theorem w_852 : (.code ⟨"java/lang/UnsupportedOperationException", "<init>", "(Ljava/lang/String;)V"⟩ prog_24_method_2_code 2 none : Cond) ∈ jx_W0 := vm_21 (List.mem_of_getElem? (i := 12) rfl)
theorem w_853 : (.methodLink "java/lang/UnsupportedOperationException" 7 ⟨"java/lang/RuntimeException", "<init>", "(Ljava/lang/String;)V"⟩ : Cond) ∈ jx_W0 := vm_21 (List.mem_of_getElem? (i := 13) rfl)
theorem w_854 : (.lays "java/lang/UnsupportedOperationException" "java/lang/Throwable" "depth" "I" : Cond) ∈ jx_W0 := vm_21 (List.mem_of_getElem? (i := 14) rfl)
theorem w_855 : (.superclass "java/lang/UnsupportedOperationException" "java/lang/RuntimeException" : Cond) ∈ jx_W0 := vm_21 (List.mem_of_getElem? (i := 15) rfl)
theorem w_856 : (.castable "java/lang/ArithmeticException" "java/lang/ArithmeticException" : Cond) ∈ jx_W0 := vm_21 (List.mem_of_getElem? (i := 16) rfl)
theorem w_857 : (.selects "java/lang/ArithmeticException" ⟨"java/lang/Throwable", "fillInStackTrace", "(I)Ljava/lang/Throwable;"⟩ ⟨"java/lang/Throwable", "fillInStackTrace", "(I)Ljava/lang/Throwable;"⟩ : Cond) ∈ jx_W0 := vm_21 (List.mem_of_getElem? (i := 17) rfl)
theorem w_858 : (.lays "java/lang/ArithmeticException" "java/lang/Throwable" "cause" "Ljava/lang/Throwable;" : Cond) ∈ jx_W0 := vm_21 (List.mem_of_getElem? (i := 18) rfl)
theorem w_859 : (.lays "java/lang/ArithmeticException" "java/lang/Throwable" "stackTrace" "[Ljava/lang/StackTraceElement;" : Cond) ∈ jx_W0 := vm_21 (List.mem_of_getElem? (i := 19) rfl)
theorem w_860 : (.lays "java/lang/ArithmeticException" "java/lang/Throwable" "suppressedExceptions" "Ljava/util/List;" : Cond) ∈ jx_W0 := vm_21 (List.mem_of_getElem? (i := 20) rfl)
theorem w_861 : (.lays "java/lang/ArithmeticException" "java/lang/Throwable" "detailMessage" "Ljava/lang/String;" : Cond) ∈ jx_W0 := vm_21 (List.mem_of_getElem? (i := 21) rfl)
theorem w_862 : (.lays "java/lang/ArithmeticException" "java/lang/Throwable" "backtrace" "Ljava/lang/Object;" : Cond) ∈ jx_W0 := vm_21 (List.mem_of_getElem? (i := 22) rfl)
theorem w_863 : (.methodLink "MoleculeRegistry" 186 ⟨"java/lang/ArithmeticException", "<init>", "(Ljava/lang/String;)V"⟩ : Cond) ∈ jx_W0 := vm_21 (List.mem_of_getElem? (i := 23) rfl)
theorem w_864 : (.instanceMethod ⟨"java/lang/ArithmeticException", "<init>", "(Ljava/lang/String;)V"⟩ : Cond) ∈ jx_W0 := vm_21 (List.mem_of_getElem? (i := 24) rfl)
theorem w_865 : (.code ⟨"java/lang/ArithmeticException", "<init>", "(Ljava/lang/String;)V"⟩ prog_10_method_2_code 2 none : Cond) ∈ jx_W0 := vm_21 (List.mem_of_getElem? (i := 25) rfl)
theorem w_866 : (.methodLink "java/lang/ArithmeticException" 7 ⟨"java/lang/RuntimeException", "<init>", "(Ljava/lang/String;)V"⟩ : Cond) ∈ jx_W0 := vm_21 (List.mem_of_getElem? (i := 26) rfl)
theorem w_867 : (.lays "java/lang/ArithmeticException" "java/lang/Throwable" "depth" "I" : Cond) ∈ jx_W0 := vm_21 (List.mem_of_getElem? (i := 27) rfl)
theorem w_868 : (.superclass "java/lang/ArithmeticException" "java/lang/RuntimeException" : Cond) ∈ jx_W0 := vm_21 (List.mem_of_getElem? (i := 28) rfl)
theorem w_869 : (.castable "java/lang/IndexOutOfBoundsException" "java/lang/IndexOutOfBoundsException" : Cond) ∈ jx_W0 := vm_21 (List.mem_of_getElem? (i := 29) rfl)
theorem w_870 : (.selects "java/lang/IndexOutOfBoundsException" ⟨"java/lang/Throwable", "fillInStackTrace", "(I)Ljava/lang/Throwable;"⟩ ⟨"java/lang/Throwable", "fillInStackTrace", "(I)Ljava/lang/Throwable;"⟩ : Cond) ∈ jx_W0 := vm_21 (List.mem_of_getElem? (i := 30) rfl)
theorem w_871 : (.lays "java/lang/IndexOutOfBoundsException" "java/lang/Throwable" "cause" "Ljava/lang/Throwable;" : Cond) ∈ jx_W0 := vm_21 (List.mem_of_getElem? (i := 31) rfl)
theorem w_872 : (.lays "java/lang/IndexOutOfBoundsException" "java/lang/Throwable" "stackTrace" "[Ljava/lang/StackTraceElement;" : Cond) ∈ jx_W0 := vm_21 (List.mem_of_getElem? (i := 32) rfl)
theorem w_873 : (.lays "java/lang/IndexOutOfBoundsException" "java/lang/Throwable" "suppressedExceptions" "Ljava/util/List;" : Cond) ∈ jx_W0 := vm_21 (List.mem_of_getElem? (i := 33) rfl)
theorem w_874 : (.lays "java/lang/IndexOutOfBoundsException" "java/lang/Throwable" "detailMessage" "Ljava/lang/String;" : Cond) ∈ jx_W0 := vm_21 (List.mem_of_getElem? (i := 34) rfl)
theorem w_875 : (.lays "java/lang/IndexOutOfBoundsException" "java/lang/Throwable" "backtrace" "Ljava/lang/Object;" : Cond) ∈ jx_W0 := vm_21 (List.mem_of_getElem? (i := 35) rfl)
theorem w_876 : (.methodLink "MoleculeRegistry" 82 ⟨"java/lang/IndexOutOfBoundsException", "<init>", "(Ljava/lang/String;)V"⟩ : Cond) ∈ jx_W0 := vm_21 (List.mem_of_getElem? (i := 36) rfl)
theorem w_877 : (.instanceMethod ⟨"java/lang/IndexOutOfBoundsException", "<init>", "(Ljava/lang/String;)V"⟩ : Cond) ∈ jx_W0 := vm_21 (List.mem_of_getElem? (i := 37) rfl)
theorem w_878 : (.code ⟨"java/lang/IndexOutOfBoundsException", "<init>", "(Ljava/lang/String;)V"⟩ prog_15_method_2_code 2 none : Cond) ∈ jx_W0 := vm_21 (List.mem_of_getElem? (i := 38) rfl)
theorem w_879 : (.methodLink "java/lang/IndexOutOfBoundsException" 7 ⟨"java/lang/RuntimeException", "<init>", "(Ljava/lang/String;)V"⟩ : Cond) ∈ jx_W0 := vm_21 (List.mem_of_getElem? (i := 39) rfl)
theorem w_880 : (.lays "java/lang/IndexOutOfBoundsException" "java/lang/Throwable" "depth" "I" : Cond) ∈ jx_W0 := vm_22 (List.mem_of_getElem? (i := 0) rfl)
theorem w_881 : (.superclass "java/lang/IndexOutOfBoundsException" "java/lang/RuntimeException" : Cond) ∈ jx_W0 := vm_22 (List.mem_of_getElem? (i := 1) rfl)
theorem w_882 : (.lays "MoleculeRegistryModel" "MoleculeRegistryModel" "thrown" "I" : Cond) ∈ jx_W0 := vm_22 (List.mem_of_getElem? (i := 2) rfl)
theorem w_883 : (.lays "MoleculeRegistryModel" "MoleculeRegistryModel" "size" "I" : Cond) ∈ jx_W0 := vm_22 (List.mem_of_getElem? (i := 3) rfl)
theorem w_884 : (.laysFinal "MoleculeRegistryModel" "MoleculeRegistryModel" "buf" "[I" : Cond) ∈ jx_W0 := vm_22 (List.mem_of_getElem? (i := 4) rfl)
theorem w_885 : (.lays "MoleculeRegistryModel" "MoleculeRegistryModel" "at" "I" : Cond) ∈ jx_W0 := vm_22 (List.mem_of_getElem? (i := 5) rfl)
theorem w_886 : (.lays "MoleculeRegistryModel" "MoleculeRegistryModel" "many" "I" : Cond) ∈ jx_W0 := vm_22 (List.mem_of_getElem? (i := 6) rfl)
theorem w_887 : (.laysFinal "MoleculeRegistryModel" "MoleculeRegistryModel" "element" "[I" : Cond) ∈ jx_W0 := vm_22 (List.mem_of_getElem? (i := 7) rfl)
theorem w_888 : (.laysFinal "MoleculeRegistryModel" "MoleculeRegistryModel" "aromatic" "[Z" : Cond) ∈ jx_W0 := vm_22 (List.mem_of_getElem? (i := 8) rfl)
theorem w_889 : (.laysFinal "MoleculeRegistryModel" "MoleculeRegistryModel" "hydrogens" "[I" : Cond) ∈ jx_W0 := vm_22 (List.mem_of_getElem? (i := 9) rfl)
theorem w_890 : (.laysFinal "MoleculeRegistryModel" "MoleculeRegistryModel" "charge" "[I" : Cond) ∈ jx_W0 := vm_22 (List.mem_of_getElem? (i := 10) rfl)
theorem w_891 : (.laysFinal "MoleculeRegistryModel" "MoleculeRegistryModel" "bracket" "[Z" : Cond) ∈ jx_W0 := vm_22 (List.mem_of_getElem? (i := 11) rfl)
theorem w_892 : (.laysFinal "MoleculeRegistryModel" "MoleculeRegistryModel" "list" "[I" : Cond) ∈ jx_W0 := vm_22 (List.mem_of_getElem? (i := 12) rfl)
theorem w_893 : (.laysFinal "MoleculeRegistryModel" "MoleculeRegistryModel" "bonds" "[I" : Cond) ∈ jx_W0 := vm_22 (List.mem_of_getElem? (i := 13) rfl)
theorem w_894 : (.laysFinal "MoleculeRegistryModel" "MoleculeRegistryModel" "back" "[I" : Cond) ∈ jx_W0 := vm_22 (List.mem_of_getElem? (i := 14) rfl)
theorem w_895 : (.laysFinal "MoleculeRegistryModel" "MoleculeRegistryModel" "opener" "[I" : Cond) ∈ jx_W0 := vm_22 (List.mem_of_getElem? (i := 15) rfl)
theorem w_896 : (.laysFinal "MoleculeRegistryModel" "MoleculeRegistryModel" "openLink" "[I" : Cond) ∈ jx_W0 := vm_22 (List.mem_of_getElem? (i := 16) rfl)
theorem w_897 : (.lays "MoleculeRegistryModel" "MoleculeRegistryModel" "good" "Z" : Cond) ∈ jx_W0 := vm_22 (List.mem_of_getElem? (i := 17) rfl)
theorem w_898 : (.lays "MoleculeRegistryModel" "MoleculeRegistryModel" "count" "I" : Cond) ∈ jx_W0 := vm_22 (List.mem_of_getElem? (i := 18) rfl)
theorem w_899 : (.lays "MoleculeRegistryModel" "MoleculeRegistryModel" "lastId" "I" : Cond) ∈ jx_W0 := vm_22 (List.mem_of_getElem? (i := 19) rfl)
theorem w_900 : (.laysFinal "MoleculeRegistryModel" "MoleculeRegistryModel" "ids" "[I" : Cond) ∈ jx_W0 := vm_22 (List.mem_of_getElem? (i := 20) rfl)
theorem w_901 : (.laysFinal "MoleculeRegistryModel" "MoleculeRegistryModel" "sizes" "[I" : Cond) ∈ jx_W0 := vm_22 (List.mem_of_getElem? (i := 21) rfl)
theorem w_902 : (.laysFinal "MoleculeRegistryModel" "MoleculeRegistryModel" "elements" "[I" : Cond) ∈ jx_W0 := vm_22 (List.mem_of_getElem? (i := 22) rfl)
theorem w_903 : (.laysFinal "MoleculeRegistryModel" "MoleculeRegistryModel" "aromatics" "[Z" : Cond) ∈ jx_W0 := vm_22 (List.mem_of_getElem? (i := 23) rfl)
theorem w_904 : (.laysFinal "MoleculeRegistryModel" "MoleculeRegistryModel" "hydrogenCounts" "[I" : Cond) ∈ jx_W0 := vm_22 (List.mem_of_getElem? (i := 24) rfl)
theorem w_905 : (.laysFinal "MoleculeRegistryModel" "MoleculeRegistryModel" "charges" "[I" : Cond) ∈ jx_W0 := vm_22 (List.mem_of_getElem? (i := 25) rfl)
theorem w_906 : (.laysFinal "MoleculeRegistryModel" "MoleculeRegistryModel" "allBonds" "[I" : Cond) ∈ jx_W0 := vm_22 (List.mem_of_getElem? (i := 26) rfl)
theorem w_907 : (.laysFinal "MoleculeRegistryModel" "MoleculeRegistryModel" "put" "[I" : Cond) ∈ jx_W0 := vm_22 (List.mem_of_getElem? (i := 27) rfl)
theorem w_908 : (.laysFinal "MoleculeRegistryModel" "MoleculeRegistryModel" "taken" "[Z" : Cond) ∈ jx_W0 := vm_22 (List.mem_of_getElem? (i := 28) rfl)
theorem w_909 : (.lays "MoleculeRegistryModel" "MoleculeRegistryModel" "failure" "I" : Cond) ∈ jx_W0 := vm_22 (List.mem_of_getElem? (i := 29) rfl)
theorem w_910 : (.lays "MoleculeRegistryModel" "MoleculeRegistryModel" "down" "Z" : Cond) ∈ jx_W0 := vm_22 (List.mem_of_getElem? (i := 30) rfl)
theorem w_911 : (.lays "MoleculeRegistryModel" "MoleculeRegistryModel" "logged" "I" : Cond) ∈ jx_W0 := vm_22 (List.mem_of_getElem? (i := 31) rfl)
theorem w_912 : (.lays "MoleculeRegistryModel" "MoleculeRegistryModel" "loggedId" "I" : Cond) ∈ jx_W0 := vm_22 (List.mem_of_getElem? (i := 32) rfl)
theorem w_913 : (.lays "MoleculeRegistryModel" "MoleculeRegistryModel" "done" "Z" : Cond) ∈ jx_W0 := vm_22 (List.mem_of_getElem? (i := 33) rfl)
theorem w_914 : (.lays "MoleculeRegistryModel" "MoleculeRegistryModel" "storeSize" "I" : Cond) ∈ jx_W0 := vm_22 (List.mem_of_getElem? (i := 34) rfl)
theorem w_915 : (.laysFinal "MoleculeRegistryModel" "MoleculeRegistryModel" "storeElement" "[I" : Cond) ∈ jx_W0 := vm_22 (List.mem_of_getElem? (i := 35) rfl)
theorem w_916 : (.laysFinal "MoleculeRegistryModel" "MoleculeRegistryModel" "storeAromatic" "[Z" : Cond) ∈ jx_W0 := vm_22 (List.mem_of_getElem? (i := 36) rfl)
theorem w_917 : (.laysFinal "MoleculeRegistryModel" "MoleculeRegistryModel" "storeHydrogens" "[I" : Cond) ∈ jx_W0 := vm_22 (List.mem_of_getElem? (i := 37) rfl)
theorem w_918 : (.laysFinal "MoleculeRegistryModel" "MoleculeRegistryModel" "storeCharge" "[I" : Cond) ∈ jx_W0 := vm_22 (List.mem_of_getElem? (i := 38) rfl)
theorem w_919 : (.laysFinal "MoleculeRegistryModel" "MoleculeRegistryModel" "storeBonds" "[I" : Cond) ∈ jx_W0 := vm_22 (List.mem_of_getElem? (i := 39) rfl)
theorem w_920 : (.lays "MoleculeRegistryModel" "MoleculeRegistryModel" "finds" "I" : Cond) ∈ jx_W0 := vm_23 (List.mem_of_getElem? (i := 0) rfl)
theorem w_921 : (.laysFinal "MoleculeRegistryModel" "MoleculeRegistryModel" "foundIds" "[I" : Cond) ∈ jx_W0 := vm_23 (List.mem_of_getElem? (i := 1) rfl)
theorem w_922 : (.superclass "MoleculeRegistryModel" "java/lang/Object" : Cond) ∈ jx_W0 := vm_23 (List.mem_of_getElem? (i := 2) rfl)
theorem w_923 : (.classLink "MoleculeRegistryLaw" 13 "java/lang/IllegalStateException" : Cond) ∈ jx_W0 := vm_23 (List.mem_of_getElem? (i := 3) rfl)
theorem w_924 : (.classLink "MoleculeRegistryLaw" 15 "java/lang/IllegalArgumentException" : Cond) ∈ jx_W0 := vm_23 (List.mem_of_getElem? (i := 4) rfl)
theorem w_925 : (.classLink "MoleculeRegistryLaw" 17 "java/lang/UnsupportedOperationException" : Cond) ∈ jx_W0 := vm_23 (List.mem_of_getElem? (i := 5) rfl)
theorem w_926 : (.classLink "MoleculeRegistryLaw" 19 "java/lang/ArithmeticException" : Cond) ∈ jx_W0 := vm_23 (List.mem_of_getElem? (i := 6) rfl)
theorem w_927 : (.classLink "MoleculeRegistryLaw" 21 "java/lang/IndexOutOfBoundsException" : Cond) ∈ jx_W0 := vm_23 (List.mem_of_getElem? (i := 7) rfl)
abbrev jx_mk (D : va_G) (c0 c1 c2 c3 c4 : ClassId) (H0 : Heap) (ga : Nat → Nat) (L : Nat) (xs : Nat → Int32) : jx_X := (D, jx_cls, [(c0, .int), (c1, .char), (c2, .boolean), (c3, .long), (c4, .object "MoleculeRegistry$Graph")], H0, ga, jx_gl L xs, jx_W0, jx_G0 H0 ga)
theorem jx_sub {ws big : List Cond} (is : List Nat) (h : ws = is.filterMap (fun i => big[i]?)) : ∀ w ∈ ws, w ∈ big := by
  intro w hw
  rw [h] at hw
  obtain ⟨i, -, hi⟩ := List.mem_filterMap.mp hw
  exact List.mem_of_getElem? hi
theorem jx_dc {b : ByteArray} {dl : List (Nat × Instr × Nat)} (h : ∀ q ∈ dl, decode b q.1 = .ok q.2) (j : Nat) {pc : Nat} {i : Instr × Nat} (hj : dl[j]? = some (pc, i)) : decode b pc = .ok i := h (pc, i) (List.mem_of_getElem? hj)
def jx_All (X : jx_X) (mt : Nat → jx_D) (md : jx_D) (K : List (Nat × jx_O)) : Prop := ∀ q ∈ K, jx_S X mt md q.1 q.2
theorem jx_an {X : jx_X} {mt : Nat → jx_D} {md : jx_D} : jx_All X mt md [] := fun _ h => by cases h
theorem jx_ac {X : jx_X} {mt : Nat → jx_D} {md : jx_D} {pc : Nat} {op : jx_O} {K : List (Nat × jx_O)} (h : jx_S X mt md pc op) (k : jx_All X mt md K) : jx_All X mt md ((pc, op) :: K) := List.forall_mem_cons.mpr ⟨h, k⟩
theorem jx_aa {X : jx_X} {mt : Nat → jx_D} {md : jx_D} {K K' : List (Nat × jx_O)} (h : jx_All X mt md K) (k : jx_All X mt md K') : jx_All X mt md (K ++ K') := List.forall_mem_append.mpr ⟨h, k⟩
def md_0 : jx_D := (⟨"MoleculeRegistryLaw", "law", "([I)Z"⟩, code, 7, (some .boolean), [])
def md_1 : jx_D := (⟨"MoleculeRegistry$Graph", "<init>", "()V"⟩, prog_3_method_1_code, 1, none, [])
def md_2 : jx_D := (⟨"MoleculeRegistry$Graph", "copyFrom", "(LMoleculeRegistry$Graph;)V"⟩, prog_3_method_3_code, 2, none, [])
def md_3 : jx_D := (⟨"MoleculeRegistry$Graph", "has", "(I)Z"⟩, prog_3_method_7_code, 2, (some .boolean), [])
def md_4 : jx_D := (⟨"MoleculeRegistry$Graph", "kindBetween", "(II)I"⟩, prog_3_method_8_code, 3, (some .int), [])
def md_5 : jx_D := (⟨"MoleculeRegistry$Graph", "clear", "()V"⟩, prog_3_method_2_code, 1, none, [])
def md_6 : jx_D := (⟨"MoleculeRegistry$Graph", "add", "(I)V"⟩, prog_3_method_4_code, 2, none, [])
def md_7 : jx_D := (⟨"MoleculeRegistry$Graph", "join", "(III)V"⟩, prog_3_method_5_code, 4, none, [])
def md_8 : jx_D := (⟨"MoleculeRegistry$Graph", "joinOneWay", "(III)V"⟩, prog_3_method_6_code, 4, none, [])
def md_9 : jx_D := (⟨"MoleculeRegistry$Graph", "degree", "(II)I"⟩, prog_3_method_10_code, 3, (some .int), [])
def md_10 : jx_D := (⟨"MoleculeRegistry$Graph", "boundTo", "(II)I"⟩, prog_3_method_9_code, 3, (some .int), [])
def md_11 : jx_D := (⟨"MoleculeRegistry$Log", "<init>", "()V"⟩, prog_4_method_1_code, 1, none, [])
def md_12 : jx_D := (⟨"MoleculeRegistry$Log", "clear", "()V"⟩, prog_4_method_3_code, 1, none, [])
def md_13 : jx_D := (⟨"MoleculeRegistry$Log", "write", "(ZILMoleculeRegistry$Graph;)V"⟩, prog_4_method_2_code, 4, none, [])
def md_14 : jx_D := (⟨"MoleculeRegistry$Matcher", "<init>", "()V"⟩, prog_5_method_1_code, 1, none, [])
def md_15 : jx_D := (⟨"MoleculeRegistry$Matcher", "areSame", "(LMoleculeRegistry$Graph;LMoleculeRegistry$Graph;)Z"⟩, prog_5_method_2_code, 3, (some .boolean), [])
def md_16 : jx_D := (⟨"MoleculeRegistry$Matcher", "findChoices", "(LMoleculeRegistry$Graph;LMoleculeRegistry$Graph;I)Z"⟩, prog_5_method_5_code, 6, (some .boolean), [])
def md_17 : jx_D := (⟨"MoleculeRegistry$Matcher", "fits", "(II)Z"⟩, prog_5_method_6_code, 3, (some .boolean), [])
def md_18 : jx_D := (⟨"MoleculeRegistry$Matcher", "hasBondsFor", "(LMoleculeRegistry$Graph;ILMoleculeRegistry$Graph;I)Z"⟩, prog_5_method_7_code, 5, (some .boolean), [])
def md_19 : jx_D := (⟨"MoleculeRegistry$Matcher", "everyAtom", "(LMoleculeRegistry$Graph;)I"⟩, prog_5_method_4_code, 1, (some .int), [])
def md_20 : jx_D := (⟨"MoleculeRegistry$Matcher", "canPlace", "(LMoleculeRegistry$Graph;LMoleculeRegistry$Graph;II)Z"⟩, prog_5_method_8_code, 8, (some .boolean), [])
def md_21 : jx_D := (⟨"MoleculeRegistry$Matcher", "isIn", "(LMoleculeRegistry$Graph;LMoleculeRegistry$Graph;)Z"⟩, prog_5_method_3_code, 3, (some .boolean), [])
def md_22 : jx_D := (⟨"MoleculeRegistry$Reader", "<init>", "()V"⟩, prog_6_method_1_code, 1, none, [])
def md_23 : jx_D := (⟨"MoleculeRegistry$Reader", "start", "([CIZ)V"⟩, prog_6_method_2_code, 4, none, [])
def md_24 : jx_D := (⟨"MoleculeRegistry$Reader", "readAtoms", "()Z"⟩, prog_6_method_4_code, 5, (some .boolean), [])
def md_25 : jx_D := (⟨"MoleculeRegistry$Reader", "readLink", "()I"⟩, prog_6_method_9_code, 1, (some .int), [])
def md_26 : jx_D := (⟨"MoleculeRegistry$Reader", "takes", "(C)Z"⟩, prog_6_method_8_code, 3, (some .boolean), [])
def md_27 : jx_D := (⟨"MoleculeRegistry$Reader", "readAtom", "()Z"⟩, prog_6_method_16_code, 2, (some .boolean), [])
def md_28 : jx_D := (⟨"MoleculeRegistry$Reader", "here", "()C"⟩, prog_6_method_7_code, 1, (some .char), [])
def md_29 : jx_D := (⟨"MoleculeRegistry$Reader", "readBrackets", "()Z"⟩, prog_6_method_18_code, 4, (some .boolean), [])
def md_30 : jx_D := (⟨"MoleculeRegistry$Reader", "readList", "(C)Z"⟩, prog_6_method_19_code, 5, (some .boolean), [])
def md_31 : jx_D := (⟨"MoleculeRegistry$Reader", "addAtom", "(II)Z"⟩, prog_6_method_17_code, 3, (some .boolean), [])
def md_32 : jx_D := (⟨"MoleculeRegistry$Reader", "readHydrogens", "()I"⟩, prog_6_method_20_code, 2, (some .int), [])
def md_33 : jx_D := (⟨"MoleculeRegistry$Reader", "readCharge", "()I"⟩, prog_6_method_21_code, 1, (some .int), [])
def md_34 : jx_D := (⟨"MoleculeRegistry$Reader", "bind", "(III)Z"⟩, prog_6_method_13_code, 5, (some .boolean), [])
def md_35 : jx_D := (⟨"MoleculeRegistry$Reader", "kindFor", "(III)I"⟩, prog_6_method_15_code, 5, (some .int), [])
def md_36 : jx_D := (⟨"MoleculeRegistry$Reader", "areBound", "(II)Z"⟩, prog_6_method_14_code, 5, (some .boolean), [])
def md_37 : jx_D := (⟨"MoleculeRegistry$Reader", "readClosures", "(I)Z"⟩, prog_6_method_10_code, 6, (some .boolean), [])
def md_38 : jx_D := (⟨"MoleculeRegistry$Reader", "openOrClose", "(III)Z"⟩, prog_6_method_11_code, 6, (some .boolean), [])
def md_39 : jx_D := (⟨"MoleculeRegistry$Reader", "readPartEnds", "(I)I"⟩, prog_6_method_5_code, 4, (some .int), [])
def md_40 : jx_D := (⟨"MoleculeRegistry$Reader", "readPartStart", "(I)V"⟩, prog_6_method_6_code, 2, none, [])
def md_41 : jx_D := (⟨"MoleculeRegistry$Reader", "aDigitIsOpen", "()Z"⟩, prog_6_method_12_code, 2, (some .boolean), [])
def md_42 : jx_D := (⟨"MoleculeRegistry$Reader", "fill", "(LMoleculeRegistry$Graph;)V"⟩, prog_6_method_3_code, 3, none, [])
def md_43 : jx_D := (⟨"MoleculeRegistry$Shelf", "<init>", "()V"⟩, prog_7_method_1_code, 2, none, [])
def md_44 : jx_D := (⟨"MoleculeRegistry$Shelf", "slotOf", "(I)I"⟩, prog_7_method_2_code, 3, (some .int), [])
def md_45 : jx_D := (⟨"MoleculeRegistry$Shelf", "take", "(I)V"⟩, prog_7_method_4_code, 5, none, [])
def md_46 : jx_D := (⟨"MoleculeRegistry$Shelf", "put", "(ILMoleculeRegistry$Graph;)V"⟩, prog_7_method_3_code, 3, none, [])
def md_47 : jx_D := (⟨"MoleculeRegistry", "<init>", "()V"⟩, prog_1_method_1_code, 1, none, [])
def md_48 : jx_D := (⟨"MoleculeRegistry", "type", "(J)Z"⟩, prog_1_method_2_code, 6, (some .boolean), [])
def md_49 : jx_D := (⟨"MoleculeRegistry", "byteAt", "(JI)I"⟩, prog_1_method_3_code, 3, (some .int), [])
def md_50 : jx_D := (⟨"MoleculeRegistry", "append", "(J)V"⟩, prog_1_method_4_code, 5, none, [])
def md_51 : jx_D := (⟨"MoleculeRegistry", "wipe", "()V"⟩, prog_1_method_5_code, 1, none, [])
def md_52 : jx_D := (⟨"MoleculeRegistry", "found", "(I)I"⟩, prog_1_method_9_code, 2, (some .int), [])
def md_53 : jx_D := (⟨"MoleculeRegistry", "fail", "(I)Z"⟩, prog_1_method_11_code, 2, (some .boolean), [])
def md_54 : jx_D := (⟨"MoleculeRegistry", "recover", "()I"⟩, prog_1_method_12_code, 2, (some .int), [])
def md_55 : jx_D := (⟨"MoleculeRegistry", "carryOut", "()V"⟩, prog_1_method_22_code, 2, none, [])
def md_56 : jx_D := (⟨"MoleculeRegistry", "count", "()I"⟩, prog_1_method_13_code, 1, (some .int), [])
def md_57 : jx_D := (⟨"MoleculeRegistry", "atoms", "(I)I"⟩, prog_1_method_14_code, 3, (some .int), [])
def md_58 : jx_D := (⟨"MoleculeRegistry", "visible", "(I)LMoleculeRegistry$Graph;"⟩, prog_1_method_17_code, 3, (some (.object "MoleculeRegistry$Graph")), [])
def md_59 : jx_D := (⟨"MoleculeRegistry", "atom", "(II)I"⟩, prog_1_method_15_code, 4, (some .int), [])
def md_60 : jx_D := (⟨"MoleculeRegistry", "bond", "(III)I"⟩, prog_1_method_16_code, 5, (some .int), [])
def md_61 : jx_D := (⟨"MoleculeRegistry", "register", "()I"⟩, prog_1_method_6_code, 3, (some .int), [])
def md_62 : jx_D := (⟨"MoleculeRegistry", "readBuffer", "(Z)V"⟩, prog_1_method_19_code, 2, none, [])
def md_63 : jx_D := (⟨"MoleculeRegistry", "refuseWhenDown", "()V"⟩, prog_1_method_18_code, 1, none, [])
def md_64 : jx_D := (⟨"MoleculeRegistry", "idOfSame", "()I"⟩, prog_1_method_20_code, 2, (some .int), [])
def md_65 : jx_D := (⟨"MoleculeRegistry", "change", "(ZI)Z"⟩, prog_1_method_21_code, 4, (some .boolean), [])
def md_66 : jx_D := (⟨"MoleculeRegistry", "lookup", "()I"⟩, prog_1_method_7_code, 1, (some .int), [])
def md_67 : jx_D := (⟨"MoleculeRegistry", "search", "()I"⟩, prog_1_method_8_code, 2, (some .int), [])
def md_68 : jx_D := (⟨"MoleculeRegistry", "remove", "(I)I"⟩, prog_1_method_10_code, 2, (some .int), [])
def md_69 : jx_D := (⟨"MoleculeRegistryModel", "<init>", "()V"⟩, prog_9_method_1_code, 1, none, [])
def md_70 : jx_D := (⟨"MoleculeRegistryModel", "thrown", "()I"⟩, prog_9_method_2_code, 1, (some .int), [])
def md_71 : jx_D := (⟨"MoleculeRegistryModel", "type", "(J)Z"⟩, prog_9_method_4_code, 7, (some .boolean), [])
def md_72 : jx_D := (⟨"MoleculeRegistryModel", "wipe", "()V"⟩, prog_9_method_5_code, 1, none, [])
def md_73 : jx_D := (⟨"MoleculeRegistryModel", "register", "()I"⟩, prog_9_method_32_code, 4, (some .int), [])
def md_74 : jx_D := (⟨"MoleculeRegistryModel", "raise", "(I)I"⟩, prog_9_method_3_code, 2, (some .int), [])
def md_75 : jx_D := (⟨"MoleculeRegistryModel", "wrongness", "()I"⟩, prog_9_method_22_code, 1, (some .int), [])
def md_76 : jx_D := (⟨"MoleculeRegistryModel", "read", "(Z)Z"⟩, prog_9_method_15_code, 8, (some .boolean), [])
def md_77 : jx_D := (⟨"MoleculeRegistryModel", "ch", "(I)I"⟩, prog_9_method_6_code, 2, (some .int), [])
def md_78 : jx_D := (⟨"MoleculeRegistryModel", "linkOf", "(IZ)I"⟩, prog_9_method_8_code, 2, (some .int), [])
def md_79 : jx_D := (⟨"MoleculeRegistryModel", "atom", "(Z)Z"⟩, prog_9_method_10_code, 3, (some .boolean), [])
def md_80 : jx_D := (⟨"MoleculeRegistryModel", "placeOf", "(I)I"⟩, prog_9_method_7_code, 1, (some .int), [])
def md_81 : jx_D := (⟨"MoleculeRegistryModel", "newAtom", "(IZ)V"⟩, prog_9_method_9_code, 4, none, [])
def md_82 : jx_D := (⟨"MoleculeRegistryModel", "several", "()Z"⟩, prog_9_method_11_code, 4, (some .boolean), [])
def md_83 : jx_D := (⟨"MoleculeRegistryModel", "one", "()Z"⟩, prog_9_method_12_code, 2, (some .boolean), [])
def md_84 : jx_D := (⟨"MoleculeRegistryModel", "bind", "(III)V"⟩, prog_9_method_13_code, 8, none, [])
def md_85 : jx_D := (⟨"MoleculeRegistryModel", "closures", "(IZ)V"⟩, prog_9_method_14_code, 7, none, [])
def md_86 : jx_D := (⟨"MoleculeRegistryModel", "valences", "()Z"⟩, prog_9_method_18_code, 6, (some .boolean), [])
def md_87 : jx_D := (⟨"MoleculeRegistryModel", "orders", "(I)I"⟩, prog_9_method_17_code, 6, (some .int), [])
def md_88 : jx_D := (⟨"MoleculeRegistryModel", "most", "(I)I"⟩, prog_9_method_16_code, 3, (some .int), [])
def md_89 : jx_D := (⟨"MoleculeRegistryModel", "matching", "()Z"⟩, prog_9_method_20_code, 5, (some .boolean), [])
def md_90 : jx_D := (⟨"MoleculeRegistryModel", "pairs", "(I)Z"⟩, prog_9_method_19_code, 2, (some .boolean), [])
def md_91 : jx_D := (⟨"MoleculeRegistryModel", "free", "()I"⟩, prog_9_method_21_code, 2, (some .int), [])
def md_92 : jx_D := (⟨"MoleculeRegistryModel", "same", "()I"⟩, prog_9_method_26_code, 2, (some .int), [])
def md_93 : jx_D := (⟨"MoleculeRegistryModel", "canBePut", "(IZ)Z"⟩, prog_9_method_25_code, 5, (some .boolean), [])
def md_94 : jx_D := (⟨"MoleculeRegistryModel", "agrees", "(IIIZ)Z"⟩, prog_9_method_24_code, 9, (some .boolean), [])
def md_95 : jx_D := (⟨"MoleculeRegistryModel", "fits", "(IIIZ)Z"⟩, prog_9_method_23_code, 7, (some .boolean), [])
def md_96 : jx_D := (⟨"MoleculeRegistryModel", "keepText", "()V"⟩, prog_9_method_27_code, 3, none, [])
def md_97 : jx_D := (⟨"MoleculeRegistryModel", "change", "(II)Z"⟩, prog_9_method_30_code, 4, (some .boolean), [])
def md_98 : jx_D := (⟨"MoleculeRegistryModel", "perform", "()V"⟩, prog_9_method_28_code, 4, none, [])
def md_99 : jx_D := (⟨"MoleculeRegistryModel", "placeOfId", "(I)I"⟩, prog_9_method_31_code, 3, (some .int), [])
def md_100 : jx_D := (⟨"MoleculeRegistryModel", "copyMolecule", "(II)V"⟩, prog_9_method_29_code, 4, none, [])
def md_101 : jx_D := (⟨"MoleculeRegistryModel", "lookup", "()I"⟩, prog_9_method_33_code, 3, (some .int), [])
def md_102 : jx_D := (⟨"MoleculeRegistryModel", "search", "()I"⟩, prog_9_method_34_code, 2, (some .int), [])
def md_103 : jx_D := (⟨"MoleculeRegistryModel", "found", "(I)I"⟩, prog_9_method_35_code, 2, (some .int), [])
def md_104 : jx_D := (⟨"MoleculeRegistryModel", "remove", "(I)I"⟩, prog_9_method_36_code, 2, (some .int), [])
def md_105 : jx_D := (⟨"MoleculeRegistryModel", "fail", "(I)Z"⟩, prog_9_method_37_code, 2, (some .boolean), [])
def md_106 : jx_D := (⟨"MoleculeRegistryModel", "recover", "()I"⟩, prog_9_method_38_code, 1, (some .int), [])
def md_107 : jx_D := (⟨"MoleculeRegistryModel", "count", "()I"⟩, prog_9_method_39_code, 1, (some .int), [])
def md_108 : jx_D := (⟨"MoleculeRegistryModel", "atoms", "(I)I"⟩, prog_9_method_40_code, 3, (some .int), [])
def md_109 : jx_D := (⟨"MoleculeRegistryModel", "atom", "(II)I"⟩, prog_9_method_41_code, 5, (some .int), [])
def md_110 : jx_D := (⟨"MoleculeRegistryModel", "bond", "(III)I"⟩, prog_9_method_42_code, 5, (some .int), [])
def md_111 : jx_D := (⟨"MoleculeRegistry$Chemistry", "settle", "(LMoleculeRegistry$Graph;[I)Z"⟩, prog_2_method_2_code, 5, (some .boolean), [])
def md_112 : jx_D := (⟨"MoleculeRegistry$Chemistry", "capacity", "(I)I"⟩, prog_2_method_3_code, 4, (some .int), [])
def md_113 : jx_D := (⟨"MoleculeRegistry$Chemistry", "orders", "(LMoleculeRegistry$Graph;I)I"⟩, prog_2_method_4_code, 4, (some .int), [])
def md_114 : jx_D := (⟨"MoleculeRegistry$Chemistry", "pairs", "(I)Z"⟩, prog_2_method_5_code, 2, (some .boolean), [])
def md_115 : jx_D := (⟨"MoleculeRegistry$Chemistry", "pairing", "(LMoleculeRegistry$Graph;)I"⟩, prog_2_method_6_code, 3, (some .int), [])
def md_116 : jx_D := (⟨"MoleculeRegistry$Chemistry", "canPair", "(LMoleculeRegistry$Graph;II)Z"⟩, prog_2_method_7_code, 6, (some .boolean), [])
def md_117 : jx_D := (⟨"MoleculeRegistryLaw", "register", "(LMoleculeRegistry;[J)I"⟩, method_3_code, 3, (some .int), [((0, 8, 11, 13), "java/lang/IllegalStateException"), ((0, 8, 14, 15), "java/lang/IllegalArgumentException"), ((0, 8, 17, 17), "java/lang/UnsupportedOperationException"), ((0, 8, 20, 19), "java/lang/ArithmeticException"), ((0, 8, 23, 21), "java/lang/IndexOutOfBoundsException")])
def md_118 : jx_D := (⟨"MoleculeRegistryLaw", "lookup", "(LMoleculeRegistry;[J)I"⟩, method_4_code, 3, (some .int), [((0, 8, 11, 13), "java/lang/IllegalStateException"), ((0, 8, 14, 15), "java/lang/IllegalArgumentException"), ((0, 8, 17, 17), "java/lang/UnsupportedOperationException"), ((0, 8, 20, 19), "java/lang/ArithmeticException")])
def md_119 : jx_D := (⟨"MoleculeRegistryLaw", "search", "(LMoleculeRegistry;[J)I"⟩, method_5_code, 3, (some .int), [((0, 8, 11, 13), "java/lang/IllegalStateException"), ((0, 8, 14, 15), "java/lang/IllegalArgumentException"), ((0, 8, 17, 17), "java/lang/UnsupportedOperationException")])
def md_120 : jx_D := (⟨"MoleculeRegistryLaw", "remove", "(LMoleculeRegistry;I[J)I"⟩, method_6_code, 4, (some .int), [((0, 9, 12, 13), "java/lang/IllegalStateException")])
def md_121 : jx_D := (⟨"java/lang/Math", "min", "(II)I"⟩, prog_17_method_69_code, 2, (some .int), [])
def md_122 : jx_D := (⟨"java/lang/Math", "max", "(II)I"⟩, prog_17_method_65_code, 2, (some .int), [])
def md_123 : jx_D := (⟨"java/util/Arrays", "fill", "([II)V"⟩, prog_25_method_103_code, 4, none, [])
def md_124 : jx_D := (⟨"java/lang/Integer", "bitCount", "(I)I"⟩, prog_16_method_49_code, 1, (some .int), [])
def md_125 : jx_D := (⟨"java/lang/String", "indexOf", "(I)I"⟩, prog_19_method_79_code, 2, (some .int), [])
def md_126 : jx_D := (⟨"java/lang/String", "indexOf", "(II)I"⟩, prog_19_method_80_code, 3, (some .int), [])
def md_127 : jx_D := (⟨"java/lang/String", "isLatin1", "()Z"⟩, prog_19_method_154_code, 1, (some .boolean), [])
def md_128 : jx_D := (⟨"java/lang/String", "length", "()I"⟩, prog_19_method_54_code, 1, (some .int), [])
def md_129 : jx_D := (⟨"java/lang/String", "coder", "()B"⟩, prog_19_method_152_code, 1, (some .byte), [])
def md_130 : jx_D := (⟨"java/lang/StringLatin1", "canEncode", "(I)Z"⟩, prog_20_method_4_code, 1, (some .boolean), [])
def md_131 : jx_D := (⟨"java/lang/StringLatin1", "indexOf", "([BIII)I"⟩, prog_20_method_22_code, 4, (some .int), [])
def md_132 : jx_D := (⟨"java/lang/StringLatin1", "indexOfChar", "([BIII)I"⟩, prog_20_method_23_code, 6, (some .int), [])
def jx_mds : List jx_D := [md_0, md_1, md_2, md_3, md_4, md_5, md_6, md_7, md_8, md_9, md_10, md_11, md_12, md_13, md_14, md_15, md_16, md_17, md_18, md_19, md_20, md_21, md_22, md_23, md_24, md_25, md_26, md_27, md_28, md_29, md_30, md_31, md_32, md_33, md_34, md_35, md_36, md_37, md_38, md_39, md_40, md_41, md_42, md_43, md_44, md_45, md_46, md_47, md_48, md_49, md_50, md_51, md_52, md_53, md_54, md_55, md_56, md_57, md_58, md_59, md_60, md_61, md_62, md_63, md_64, md_65, md_66, md_67, md_68, md_69, md_70, md_71, md_72, md_73, md_74, md_75, md_76, md_77, md_78, md_79, md_80, md_81, md_82, md_83, md_84, md_85, md_86, md_87, md_88, md_89, md_90, md_91, md_92, md_93, md_94, md_95, md_96, md_97, md_98, md_99, md_100, md_101, md_102, md_103, md_104, md_105, md_106, md_107, md_108, md_109, md_110, md_111, md_112, md_113, md_114, md_115, md_116, md_117, md_118, md_119, md_120, md_121, md_122, md_123, md_124, md_125, md_126, md_127, md_128, md_129, md_130, md_131, md_132]
def jx_mt (k : Nat) : jx_D := jx_mds.getD k md_0
def jx_ml (k : Nat) : Nat := (jx_mt k).2.2.1
def jx_hs (k : Nat) : List (Nat × Nat × Nat × Nat) := match k with
  | 117 => [(0, 8, 11, 7), (0, 8, 14, 8), (0, 8, 17, 9), (0, 8, 20, 10), (0, 8, 23, 11)]
  | 118 => [(0, 8, 11, 7), (0, 8, 14, 8), (0, 8, 17, 9), (0, 8, 20, 10)]
  | 119 => [(0, 8, 11, 7), (0, 8, 14, 8), (0, 8, 17, 9)]
  | 120 => [(0, 9, 12, 7)]
  | _ => []
theorem jx_W0_all : jx_W0.all jx_gw = true := by decide +kernel
theorem jx_W0_mv : ∀ w ∈ jx_W0, jx_mv w := fun w h => jx_gw_mv (List.all_eq_true.mp jx_W0_all w h)
def jx_oth : List Cond := [.laysStatic "java/lang/Throwable" "UNASSIGNED_STACK" "[Ljava/lang/StackTraceElement;", .laysStatic "java/lang/Throwable" "SUPPRESSED_SENTINEL" "Ljava/util/List;", .isRef (.static "java/lang/Throwable" "UNASSIGNED_STACK" "[Ljava/lang/StackTraceElement;"), .isRef (.static "java/lang/Throwable" "SUPPRESSED_SENTINEL" "Ljava/util/List;")]
theorem jx_oth_ok {H0 : Heap} {ga : Nat → Nat} {s : State} {args : Array Value} (h : jx_G0 H0 ga s) : ∀ a ∈ jx_oth, a.before args s = true := by
  obtain ⟨h1, -, -, -, -, -, ⟨v1, e1, h7⟩, ⟨v2, e2, h8⟩, -⟩ := h
  exact List.forall_mem_cons.mpr ⟨h7.ls h1, List.forall_mem_cons.mpr ⟨h8.ls h1, List.forall_mem_cons.mpr ⟨h7.ir e1 h1, List.forall_mem_cons.mpr ⟨h8.ir e2 h1, fun _ h => by cases h⟩⟩⟩⟩
theorem jx_hA {H0 : Heap} {ga : Nat → Nat} {ws : List Cond} (hw : ∀ a ∈ ws, a ∈ jx_W0 ∨ a ∈ jx_oth) (s : State) (args : Array Value) (h : jx_G0 H0 ga s) (hts : ∀ w ∈ jx_W0, w.before args s = true) : ∀ a ∈ ws, a.before args s = true := fun a ha => (hw a ha).elim (hts a) (jx_oth_ok h a)
theorem oa_82 : ∀ a ∈ Bundle.ownAtoms "MoleculeRegistry" 82 "java/lang/IndexOutOfBoundsException" ["java/lang/RuntimeException", "java/lang/Exception"], a ∈ jx_W0 ∨ a ∈ jx_oth := by decide +kernel
theorem hA_82 {H0 : Heap} (ga : Nat → Nat) (s : State) (args : Array Value) (h : jx_G0 H0 ga s) (hts : ∀ w ∈ jx_W0, w.before args s = true) : ∀ a ∈ Bundle.ownAtoms "MoleculeRegistry" 82 "java/lang/IndexOutOfBoundsException" ["java/lang/RuntimeException", "java/lang/Exception"], a.before args s = true := jx_hA oa_82 s args h hts
theorem oa_146 : ∀ a ∈ Bundle.ownAtoms "MoleculeRegistry" 146 "java/lang/IllegalStateException" ["java/lang/RuntimeException", "java/lang/Exception"], a ∈ jx_W0 ∨ a ∈ jx_oth := by decide +kernel
theorem hA_146 {H0 : Heap} (ga : Nat → Nat) (s : State) (args : Array Value) (h : jx_G0 H0 ga s) (hts : ∀ w ∈ jx_W0, w.before args s = true) : ∀ a ∈ Bundle.ownAtoms "MoleculeRegistry" 146 "java/lang/IllegalStateException" ["java/lang/RuntimeException", "java/lang/Exception"], a.before args s = true := jx_hA oa_146 s args h hts
theorem oa_162 : ∀ a ∈ Bundle.ownAtoms "MoleculeRegistry" 162 "java/lang/IllegalArgumentException" ["java/lang/RuntimeException", "java/lang/Exception"], a ∈ jx_W0 ∨ a ∈ jx_oth := by decide +kernel
theorem hA_162 {H0 : Heap} (ga : Nat → Nat) (s : State) (args : Array Value) (h : jx_G0 H0 ga s) (hts : ∀ w ∈ jx_W0, w.before args s = true) : ∀ a ∈ Bundle.ownAtoms "MoleculeRegistry" 162 "java/lang/IllegalArgumentException" ["java/lang/RuntimeException", "java/lang/Exception"], a.before args s = true := jx_hA oa_162 s args h hts
theorem oa_168 : ∀ a ∈ Bundle.ownAtoms "MoleculeRegistry" 168 "java/lang/UnsupportedOperationException" ["java/lang/RuntimeException", "java/lang/Exception"], a ∈ jx_W0 ∨ a ∈ jx_oth := by decide +kernel
theorem hA_168 {H0 : Heap} (ga : Nat → Nat) (s : State) (args : Array Value) (h : jx_G0 H0 ga s) (hts : ∀ w ∈ jx_W0, w.before args s = true) : ∀ a ∈ Bundle.ownAtoms "MoleculeRegistry" 168 "java/lang/UnsupportedOperationException" ["java/lang/RuntimeException", "java/lang/Exception"], a.before args s = true := jx_hA oa_168 s args h hts
theorem oa_186 : ∀ a ∈ Bundle.ownAtoms "MoleculeRegistry" 186 "java/lang/ArithmeticException" ["java/lang/RuntimeException", "java/lang/Exception"], a ∈ jx_W0 ∨ a ∈ jx_oth := by decide +kernel
theorem hA_186 {H0 : Heap} (ga : Nat → Nat) (s : State) (args : Array Value) (h : jx_G0 H0 ga s) (hts : ∀ w ∈ jx_W0, w.before args s = true) : ∀ a ∈ Bundle.ownAtoms "MoleculeRegistry" 186 "java/lang/ArithmeticException" ["java/lang/RuntimeException", "java/lang/Exception"], a.before args s = true := jx_hA oa_186 s args h hts
section JN
variable {D : va_G} {c0 c1 c2 c3 c4 : ClassId} {H0 : Heap} {ga : Nat → Nat} {L : Nat} {xs : Nat → Int32}
theorem in_0 : ∀ w ∈ u_ws "MoleculeRegistry$Graph" TX_0 5, w ∈ jx_W0 := by
  show ∀ w ∈ [(.laysFinal "MoleculeRegistry$Graph" "MoleculeRegistry$Graph" "codes" "[I" : Cond), (.laysFinal "MoleculeRegistry$Graph" "MoleculeRegistry$Graph" "kinds" "[I" : Cond), (.laysFinal "MoleculeRegistry$Graph" "MoleculeRegistry$Graph" "near" "[I" : Cond), (.lays "MoleculeRegistry$Graph" "MoleculeRegistry$Graph" "size" "I" : Cond), (.lays "MoleculeRegistry$Graph" "MoleculeRegistry$Graph" "bondCount" "I" : Cond)], w ∈ jx_W0
  exact List.forall_mem_cons.mpr ⟨w_702, List.forall_mem_cons.mpr ⟨w_703, List.forall_mem_cons.mpr ⟨w_704, List.forall_mem_cons.mpr ⟨w_705, List.forall_mem_cons.mpr ⟨w_706, fun _ h => by cases h⟩⟩⟩⟩⟩
theorem kk_0 : jx_k (jx_mk D c0 c1 c2 c3 c4 H0 ga L xs) 0 "MoleculeRegistry$Graph" TX_0 5 ty_0 := ⟨rfl, by decide, in_0, tk_0, nm_0⟩
theorem in_1 : ∀ w ∈ u_ws "MoleculeRegistry$Log" TX_1 4, w ∈ jx_W0 := by
  show ∀ w ∈ [(.lays "MoleculeRegistry$Log" "MoleculeRegistry$Log" "marked" "Z" : Cond), (.lays "MoleculeRegistry$Log" "MoleculeRegistry$Log" "removing" "Z" : Cond), (.lays "MoleculeRegistry$Log" "MoleculeRegistry$Log" "id" "I" : Cond), (.laysFinal "MoleculeRegistry$Log" "MoleculeRegistry$Log" "molecule" "LMoleculeRegistry$Graph;" : Cond)], w ∈ jx_W0
  exact List.forall_mem_cons.mpr ⟨w_716, List.forall_mem_cons.mpr ⟨w_717, List.forall_mem_cons.mpr ⟨w_718, List.forall_mem_cons.mpr ⟨w_719, fun _ h => by cases h⟩⟩⟩⟩
theorem kk_1 : jx_k (jx_mk D c0 c1 c2 c3 c4 H0 ga L xs) 1 "MoleculeRegistry$Log" TX_1 4 ty_1 := ⟨rfl, by decide, in_1, tk_1, nm_1⟩
theorem in_2 : ∀ w ∈ u_ws "MoleculeRegistry$Matcher" TX_2 2, w ∈ jx_W0 := by
  show ∀ w ∈ [(.laysFinal "MoleculeRegistry$Matcher" "MoleculeRegistry$Matcher" "choices" "[I" : Cond), (.laysFinal "MoleculeRegistry$Matcher" "MoleculeRegistry$Matcher" "places" "[I" : Cond)], w ∈ jx_W0
  exact List.forall_mem_cons.mpr ⟨w_708, List.forall_mem_cons.mpr ⟨w_709, fun _ h => by cases h⟩⟩
theorem kk_2 : jx_k (jx_mk D c0 c1 c2 c3 c4 H0 ga L xs) 2 "MoleculeRegistry$Matcher" TX_2 2 ty_2 := ⟨rfl, by decide, in_2, tk_2, nm_2⟩
theorem in_3 : ∀ w ∈ u_ws "MoleculeRegistry$Reader" TX_3 15, w ∈ jx_W0 := by
  show ∀ w ∈ [(.laysFinal "MoleculeRegistry$Reader" "MoleculeRegistry$Reader" "text" "[C" : Cond), (.lays "MoleculeRegistry$Reader" "MoleculeRegistry$Reader" "length" "I" : Cond), (.lays "MoleculeRegistry$Reader" "MoleculeRegistry$Reader" "position" "I" : Cond), (.lays "MoleculeRegistry$Reader" "MoleculeRegistry$Reader" "asPattern" "Z" : Cond), (.laysFinal "MoleculeRegistry$Reader" "MoleculeRegistry$Reader" "codes" "[I" : Cond), (.laysFinal "MoleculeRegistry$Reader" "MoleculeRegistry$Reader" "written" "[I" : Cond), (.lays "MoleculeRegistry$Reader" "MoleculeRegistry$Reader" "size" "I" : Cond), (.laysFinal "MoleculeRegistry$Reader" "MoleculeRegistry$Reader" "bondFirst" "[I" : Cond), (.laysFinal "MoleculeRegistry$Reader" "MoleculeRegistry$Reader" "bondSecond" "[I" : Cond), (.laysFinal "MoleculeRegistry$Reader" "MoleculeRegistry$Reader" "bondKind" "[I" : Cond), (.lays "MoleculeRegistry$Reader" "MoleculeRegistry$Reader" "bondCount" "I" : Cond), (.laysFinal "MoleculeRegistry$Reader" "MoleculeRegistry$Reader" "openAtom" "[I" : Cond), (.laysFinal "MoleculeRegistry$Reader" "MoleculeRegistry$Reader" "openLink" "[I" : Cond), (.laysFinal "MoleculeRegistry$Reader" "MoleculeRegistry$Reader" "branches" "[I" : Cond), (.lays "MoleculeRegistry$Reader" "MoleculeRegistry$Reader" "depth" "I" : Cond)], w ∈ jx_W0
  exact List.forall_mem_cons.mpr ⟨w_686, List.forall_mem_cons.mpr ⟨w_687, List.forall_mem_cons.mpr ⟨w_688, List.forall_mem_cons.mpr ⟨w_689, List.forall_mem_cons.mpr ⟨w_690, List.forall_mem_cons.mpr ⟨w_691, List.forall_mem_cons.mpr ⟨w_692, List.forall_mem_cons.mpr ⟨w_693, List.forall_mem_cons.mpr ⟨w_694, List.forall_mem_cons.mpr ⟨w_695, List.forall_mem_cons.mpr ⟨w_696, List.forall_mem_cons.mpr ⟨w_697, List.forall_mem_cons.mpr ⟨w_698, List.forall_mem_cons.mpr ⟨w_699, List.forall_mem_cons.mpr ⟨w_700, fun _ h => by cases h⟩⟩⟩⟩⟩⟩⟩⟩⟩⟩⟩⟩⟩⟩⟩
theorem kk_3 : jx_k (jx_mk D c0 c1 c2 c3 c4 H0 ga L xs) 3 "MoleculeRegistry$Reader" TX_3 15 ty_3 := ⟨rfl, by decide, in_3, tk_3, nm_3⟩
theorem in_4 : ∀ w ∈ u_ws "MoleculeRegistry$Shelf" TX_4 4, w ∈ jx_W0 := by
  show ∀ w ∈ [(.laysFinal "MoleculeRegistry$Shelf" "MoleculeRegistry$Shelf" "molecules" "[LMoleculeRegistry$Graph;" : Cond), (.laysFinal "MoleculeRegistry$Shelf" "MoleculeRegistry$Shelf" "ids" "[I" : Cond), (.lays "MoleculeRegistry$Shelf" "MoleculeRegistry$Shelf" "size" "I" : Cond), (.lays "MoleculeRegistry$Shelf" "MoleculeRegistry$Shelf" "lastId" "I" : Cond)], w ∈ jx_W0
  exact List.forall_mem_cons.mpr ⟨w_711, List.forall_mem_cons.mpr ⟨w_712, List.forall_mem_cons.mpr ⟨w_713, List.forall_mem_cons.mpr ⟨w_714, fun _ h => by cases h⟩⟩⟩⟩
theorem kk_4 : jx_k (jx_mk D c0 c1 c2 c3 c4 H0 ga L xs) 4 "MoleculeRegistry$Shelf" TX_4 4 ty_4 := ⟨rfl, by decide, in_4, tk_4, nm_4⟩
theorem in_5 : ∀ w ∈ u_ws "MoleculeRegistry" TX_5 11, w ∈ jx_W0 := by
  show ∀ w ∈ [(.laysFinal "MoleculeRegistry" "MoleculeRegistry" "buffer" "[C" : Cond), (.lays "MoleculeRegistry" "MoleculeRegistry" "typed" "I" : Cond), (.laysFinal "MoleculeRegistry" "MoleculeRegistry" "reader" "LMoleculeRegistry$Reader;" : Cond), (.laysFinal "MoleculeRegistry" "MoleculeRegistry" "read" "LMoleculeRegistry$Graph;" : Cond), (.laysFinal "MoleculeRegistry" "MoleculeRegistry" "matcher" "LMoleculeRegistry$Matcher;" : Cond), (.laysFinal "MoleculeRegistry" "MoleculeRegistry" "shelf" "LMoleculeRegistry$Shelf;" : Cond), (.laysFinal "MoleculeRegistry" "MoleculeRegistry" "log" "LMoleculeRegistry$Log;" : Cond), (.laysFinal "MoleculeRegistry" "MoleculeRegistry" "hits" "[I" : Cond), (.lays "MoleculeRegistry" "MoleculeRegistry" "hitCount" "I" : Cond), (.lays "MoleculeRegistry" "MoleculeRegistry" "toldFailure" "I" : Cond), (.lays "MoleculeRegistry" "MoleculeRegistry" "down" "Z" : Cond)], w ∈ jx_W0
  exact List.forall_mem_cons.mpr ⟨w_721, List.forall_mem_cons.mpr ⟨w_722, List.forall_mem_cons.mpr ⟨w_723, List.forall_mem_cons.mpr ⟨w_724, List.forall_mem_cons.mpr ⟨w_725, List.forall_mem_cons.mpr ⟨w_726, List.forall_mem_cons.mpr ⟨w_727, List.forall_mem_cons.mpr ⟨w_728, List.forall_mem_cons.mpr ⟨w_729, List.forall_mem_cons.mpr ⟨w_730, List.forall_mem_cons.mpr ⟨w_731, fun _ h => by cases h⟩⟩⟩⟩⟩⟩⟩⟩⟩⟩⟩
theorem kk_5 : jx_k (jx_mk D c0 c1 c2 c3 c4 H0 ga L xs) 5 "MoleculeRegistry" TX_5 11 ty_5 := ⟨rfl, by decide, in_5, tk_5, nm_5⟩
theorem in_6 : ∀ w ∈ u_ws "MoleculeRegistryModel" TX_6 40, w ∈ jx_W0 := by
  show ∀ w ∈ [(.lays "MoleculeRegistryModel" "MoleculeRegistryModel" "thrown" "I" : Cond), (.lays "MoleculeRegistryModel" "MoleculeRegistryModel" "size" "I" : Cond), (.laysFinal "MoleculeRegistryModel" "MoleculeRegistryModel" "buf" "[I" : Cond), (.lays "MoleculeRegistryModel" "MoleculeRegistryModel" "at" "I" : Cond), (.lays "MoleculeRegistryModel" "MoleculeRegistryModel" "many" "I" : Cond), (.laysFinal "MoleculeRegistryModel" "MoleculeRegistryModel" "element" "[I" : Cond), (.laysFinal "MoleculeRegistryModel" "MoleculeRegistryModel" "aromatic" "[Z" : Cond), (.laysFinal "MoleculeRegistryModel" "MoleculeRegistryModel" "hydrogens" "[I" : Cond), (.laysFinal "MoleculeRegistryModel" "MoleculeRegistryModel" "charge" "[I" : Cond), (.laysFinal "MoleculeRegistryModel" "MoleculeRegistryModel" "bracket" "[Z" : Cond), (.laysFinal "MoleculeRegistryModel" "MoleculeRegistryModel" "list" "[I" : Cond), (.laysFinal "MoleculeRegistryModel" "MoleculeRegistryModel" "bonds" "[I" : Cond), (.laysFinal "MoleculeRegistryModel" "MoleculeRegistryModel" "back" "[I" : Cond), (.laysFinal "MoleculeRegistryModel" "MoleculeRegistryModel" "opener" "[I" : Cond), (.laysFinal "MoleculeRegistryModel" "MoleculeRegistryModel" "openLink" "[I" : Cond), (.lays "MoleculeRegistryModel" "MoleculeRegistryModel" "good" "Z" : Cond), (.lays "MoleculeRegistryModel" "MoleculeRegistryModel" "count" "I" : Cond), (.lays "MoleculeRegistryModel" "MoleculeRegistryModel" "lastId" "I" : Cond), (.laysFinal "MoleculeRegistryModel" "MoleculeRegistryModel" "ids" "[I" : Cond), (.laysFinal "MoleculeRegistryModel" "MoleculeRegistryModel" "sizes" "[I" : Cond), (.laysFinal "MoleculeRegistryModel" "MoleculeRegistryModel" "elements" "[I" : Cond), (.laysFinal "MoleculeRegistryModel" "MoleculeRegistryModel" "aromatics" "[Z" : Cond), (.laysFinal "MoleculeRegistryModel" "MoleculeRegistryModel" "hydrogenCounts" "[I" : Cond), (.laysFinal "MoleculeRegistryModel" "MoleculeRegistryModel" "charges" "[I" : Cond), (.laysFinal "MoleculeRegistryModel" "MoleculeRegistryModel" "allBonds" "[I" : Cond), (.laysFinal "MoleculeRegistryModel" "MoleculeRegistryModel" "put" "[I" : Cond), (.laysFinal "MoleculeRegistryModel" "MoleculeRegistryModel" "taken" "[Z" : Cond), (.lays "MoleculeRegistryModel" "MoleculeRegistryModel" "failure" "I" : Cond), (.lays "MoleculeRegistryModel" "MoleculeRegistryModel" "down" "Z" : Cond), (.lays "MoleculeRegistryModel" "MoleculeRegistryModel" "logged" "I" : Cond), (.lays "MoleculeRegistryModel" "MoleculeRegistryModel" "loggedId" "I" : Cond), (.lays "MoleculeRegistryModel" "MoleculeRegistryModel" "done" "Z" : Cond), (.lays "MoleculeRegistryModel" "MoleculeRegistryModel" "storeSize" "I" : Cond), (.laysFinal "MoleculeRegistryModel" "MoleculeRegistryModel" "storeElement" "[I" : Cond), (.laysFinal "MoleculeRegistryModel" "MoleculeRegistryModel" "storeAromatic" "[Z" : Cond), (.laysFinal "MoleculeRegistryModel" "MoleculeRegistryModel" "storeHydrogens" "[I" : Cond), (.laysFinal "MoleculeRegistryModel" "MoleculeRegistryModel" "storeCharge" "[I" : Cond), (.laysFinal "MoleculeRegistryModel" "MoleculeRegistryModel" "storeBonds" "[I" : Cond), (.lays "MoleculeRegistryModel" "MoleculeRegistryModel" "finds" "I" : Cond), (.laysFinal "MoleculeRegistryModel" "MoleculeRegistryModel" "foundIds" "[I" : Cond)], w ∈ jx_W0
  exact List.forall_mem_cons.mpr ⟨w_882, List.forall_mem_cons.mpr ⟨w_883, List.forall_mem_cons.mpr ⟨w_884, List.forall_mem_cons.mpr ⟨w_885, List.forall_mem_cons.mpr ⟨w_886, List.forall_mem_cons.mpr ⟨w_887, List.forall_mem_cons.mpr ⟨w_888, List.forall_mem_cons.mpr ⟨w_889, List.forall_mem_cons.mpr ⟨w_890, List.forall_mem_cons.mpr ⟨w_891, List.forall_mem_cons.mpr ⟨w_892, List.forall_mem_cons.mpr ⟨w_893, List.forall_mem_cons.mpr ⟨w_894, List.forall_mem_cons.mpr ⟨w_895, List.forall_mem_cons.mpr ⟨w_896, List.forall_mem_cons.mpr ⟨w_897, List.forall_mem_cons.mpr ⟨w_898, List.forall_mem_cons.mpr ⟨w_899, List.forall_mem_cons.mpr ⟨w_900, List.forall_mem_cons.mpr ⟨w_901, List.forall_mem_cons.mpr ⟨w_902, List.forall_mem_cons.mpr ⟨w_903, List.forall_mem_cons.mpr ⟨w_904, List.forall_mem_cons.mpr ⟨w_905, List.forall_mem_cons.mpr ⟨w_906, List.forall_mem_cons.mpr ⟨w_907, List.forall_mem_cons.mpr ⟨w_908, List.forall_mem_cons.mpr ⟨w_909, List.forall_mem_cons.mpr ⟨w_910, List.forall_mem_cons.mpr ⟨w_911, List.forall_mem_cons.mpr ⟨w_912, List.forall_mem_cons.mpr ⟨w_913, List.forall_mem_cons.mpr ⟨w_914, List.forall_mem_cons.mpr ⟨w_915, List.forall_mem_cons.mpr ⟨w_916, List.forall_mem_cons.mpr ⟨w_917, List.forall_mem_cons.mpr ⟨w_918, List.forall_mem_cons.mpr ⟨w_919, List.forall_mem_cons.mpr ⟨w_920, List.forall_mem_cons.mpr ⟨w_921, fun _ h => by cases h⟩⟩⟩⟩⟩⟩⟩⟩⟩⟩⟩⟩⟩⟩⟩⟩⟩⟩⟩⟩⟩⟩⟩⟩⟩⟩⟩⟩⟩⟩⟩⟩⟩⟩⟩⟩⟩⟩⟩⟩
theorem kk_6 : jx_k (jx_mk D c0 c1 c2 c3 c4 H0 ga L xs) 6 "MoleculeRegistryModel" TX_6 40 ty_6 := ⟨rfl, by decide, in_6, tk_6, nm_6⟩
theorem in_7 : ∀ w ∈ u_ws "java/lang/IllegalStateException" TX_7 0, w ∈ jx_W0 := fun _ h => by cases h
theorem kk_7 : jx_k (jx_mk D c0 c1 c2 c3 c4 H0 ga L xs) 7 "java/lang/IllegalStateException" TX_7 0 ty_7 := ⟨rfl, by decide, in_7, tk_7, nm_7⟩
theorem in_8 : ∀ w ∈ u_ws "java/lang/IllegalArgumentException" TX_8 0, w ∈ jx_W0 := fun _ h => by cases h
theorem kk_8 : jx_k (jx_mk D c0 c1 c2 c3 c4 H0 ga L xs) 8 "java/lang/IllegalArgumentException" TX_8 0 ty_8 := ⟨rfl, by decide, in_8, tk_8, nm_8⟩
theorem in_9 : ∀ w ∈ u_ws "java/lang/UnsupportedOperationException" TX_9 0, w ∈ jx_W0 := fun _ h => by cases h
theorem kk_9 : jx_k (jx_mk D c0 c1 c2 c3 c4 H0 ga L xs) 9 "java/lang/UnsupportedOperationException" TX_9 0 ty_9 := ⟨rfl, by decide, in_9, tk_9, nm_9⟩
theorem in_10 : ∀ w ∈ u_ws "java/lang/ArithmeticException" TX_10 0, w ∈ jx_W0 := fun _ h => by cases h
theorem kk_10 : jx_k (jx_mk D c0 c1 c2 c3 c4 H0 ga L xs) 10 "java/lang/ArithmeticException" TX_10 0 ty_10 := ⟨rfl, by decide, in_10, tk_10, nm_10⟩
theorem in_11 : ∀ w ∈ u_ws "java/lang/IndexOutOfBoundsException" TX_11 0, w ∈ jx_W0 := fun _ h => by cases h
theorem kk_11 : jx_k (jx_mk D c0 c1 c2 c3 c4 H0 ga L xs) 11 "java/lang/IndexOutOfBoundsException" TX_11 0 ty_11 := ⟨rfl, by decide, in_11, tk_11, nm_11⟩
theorem gS_k {a : Nat} {fs : List Value} (h : (jx_mk D c0 c1 c2 c3 c4 H0 ga L xs).gl a = .inr (200, fs)) : (a = 2 ∨ a = 3) ∧ fs = [.ref (a + 2), .int 0] := by
  match a, h with
  | 0, h => cases h
  | 1, h => cases h
  | 2, h => cases h; exact ⟨Or.inl rfl, rfl⟩
  | 3, h => cases h; exact ⟨Or.inr rfl, rfl⟩
  | 4, h => cases h
  | 5, h => cases h
  | n + 6, h => cases h
theorem gS_obj : ∀ s, (jx_mk D c0 c1 c2 c3 c4 H0 ga L xs).G s → ∀ (a : Nat) (fs : List Value), a < jx_g → (jx_mk D c0 c1 c2 c3 c4 H0 ga L xs).gl a = .inr (200, fs) → va_O "java/lang/String" ((jx_mk D c0 c1 c2 c3 c4 H0 ga L xs).ga a) (fun q => (jx_mk D c0 c1 c2 c3 c4 H0 ga L xs).H.size ≤ q) s (jx_mk D c0 c1 c2 c3 c4 H0 ga L xs).H := fun s h a fs _ hg => (h.2.2.2.1 a (gS_k hg).1).1
theorem gS_value : ∀ s, (jx_mk D c0 c1 c2 c3 c4 H0 ga L xs).G s → ∀ (a : Nat) (fs : List Value) (v : Value), a < jx_g → (jx_mk D c0 c1 c2 c3 c4 H0 ga L xs).gl a = .inr (200, fs) → fs[0]? = some v → va_OF "java/lang/String" "value" "[B" (jx_v (jx_mk D c0 c1 c2 c3 c4 H0 ga L xs) v) ((jx_mk D c0 c1 c2 c3 c4 H0 ga L xs).ga a) (fun q => (jx_mk D c0 c1 c2 c3 c4 H0 ga L xs).H.size ≤ q) s (jx_mk D c0 c1 c2 c3 c4 H0 ga L xs).H := by
  intro s h a fs v _ hg hv
  obtain ⟨h1, rfl⟩ := gS_k hg
  cases hv
  have h2 := (h.2.2.2.1 a h1).2.1
  rw [jx_v_ref, jx_adg (by unfold jx_g; omega)]
  exact h2
theorem gS_coder : ∀ s, (jx_mk D c0 c1 c2 c3 c4 H0 ga L xs).G s → ∀ (a : Nat) (fs : List Value) (v : Value), a < jx_g → (jx_mk D c0 c1 c2 c3 c4 H0 ga L xs).gl a = .inr (200, fs) → fs[1]? = some v → va_OF "java/lang/String" "coder" "B" (jx_v (jx_mk D c0 c1 c2 c3 c4 H0 ga L xs) v) ((jx_mk D c0 c1 c2 c3 c4 H0 ga L xs).ga a) (fun q => (jx_mk D c0 c1 c2 c3 c4 H0 ga L xs).H.size ≤ q) s (jx_mk D c0 c1 c2 c3 c4 H0 ga L xs).H := by
  intro s h a fs v _ hg hv
  obtain ⟨h1, rfl⟩ := gS_k hg
  cases hv
  exact (h.2.2.2.1 a h1).2.2
theorem jx_mk_ty : ∀ t, t < 5 → ∃ q, (jx_mk D c0 c1 c2 c3 c4 H0 ga L xs).ty[t]? = some q := by
  intro t ht
  match t, ht with
  | 0, _ => exact ⟨_, rfl⟩
  | 1, _ => exact ⟨_, rfl⟩
  | 2, _ => exact ⟨_, rfl⟩
  | 3, _ => exact ⟨_, rfl⟩
  | 4, _ => exact ⟨_, rfl⟩
theorem mc_1 : jx_c (jx_mk D c0 c1 c2 c3 c4 H0 ga L xs) (jx_mt 1) := ⟨Or.inl ⟨w_122, rfl⟩, by decide +kernel, by decide⟩
theorem np_1 : (parseMethodDescriptor (jx_mt 1).1.desc).map (fun d => d.parameters.length) = some 0 := by decide +kernel
theorem mc_2 : jx_c (jx_mk D c0 c1 c2 c3 c4 H0 ga L xs) (jx_mt 2) := ⟨Or.inl ⟨w_553, rfl⟩, by decide +kernel, by decide⟩
theorem np_2 : (parseMethodDescriptor (jx_mt 2).1.desc).map (fun d => d.parameters.length) = some 1 := by decide +kernel
theorem mc_3 : jx_c (jx_mk D c0 c1 c2 c3 c4 H0 ga L xs) (jx_mt 3) := ⟨Or.inl ⟨w_554, rfl⟩, by decide +kernel, by decide⟩
theorem np_3 : (parseMethodDescriptor (jx_mt 3).1.desc).map (fun d => d.parameters.length) = some 1 := by decide +kernel
theorem mc_4 : jx_c (jx_mk D c0 c1 c2 c3 c4 H0 ga L xs) (jx_mt 4) := ⟨Or.inl ⟨w_555, rfl⟩, by decide +kernel, by decide⟩
theorem np_4 : (parseMethodDescriptor (jx_mt 4).1.desc).map (fun d => d.parameters.length) = some 2 := by decide +kernel
theorem mc_5 : jx_c (jx_mk D c0 c1 c2 c3 c4 H0 ga L xs) (jx_mt 5) := ⟨Or.inl ⟨w_556, rfl⟩, by decide +kernel, by decide⟩
theorem np_5 : (parseMethodDescriptor (jx_mt 5).1.desc).map (fun d => d.parameters.length) = some 0 := by decide +kernel
theorem mc_6 : jx_c (jx_mk D c0 c1 c2 c3 c4 H0 ga L xs) (jx_mt 6) := ⟨Or.inl ⟨w_557, rfl⟩, by decide +kernel, by decide⟩
theorem np_6 : (parseMethodDescriptor (jx_mt 6).1.desc).map (fun d => d.parameters.length) = some 1 := by decide +kernel
theorem mc_7 : jx_c (jx_mk D c0 c1 c2 c3 c4 H0 ga L xs) (jx_mt 7) := ⟨Or.inl ⟨w_558, rfl⟩, by decide +kernel, by decide⟩
theorem np_7 : (parseMethodDescriptor (jx_mt 7).1.desc).map (fun d => d.parameters.length) = some 3 := by decide +kernel
theorem mc_8 : jx_c (jx_mk D c0 c1 c2 c3 c4 H0 ga L xs) (jx_mt 8) := ⟨Or.inl ⟨w_559, rfl⟩, by decide +kernel, by decide⟩
theorem np_8 : (parseMethodDescriptor (jx_mt 8).1.desc).map (fun d => d.parameters.length) = some 3 := by decide +kernel
theorem mc_9 : jx_c (jx_mk D c0 c1 c2 c3 c4 H0 ga L xs) (jx_mt 9) := ⟨Or.inl ⟨w_560, rfl⟩, by decide +kernel, by decide⟩
theorem np_9 : (parseMethodDescriptor (jx_mt 9).1.desc).map (fun d => d.parameters.length) = some 2 := by decide +kernel
theorem mc_10 : jx_c (jx_mk D c0 c1 c2 c3 c4 H0 ga L xs) (jx_mt 10) := ⟨Or.inl ⟨w_561, rfl⟩, by decide +kernel, by decide⟩
theorem np_10 : (parseMethodDescriptor (jx_mt 10).1.desc).map (fun d => d.parameters.length) = some 2 := by decide +kernel
theorem mc_11 : jx_c (jx_mk D c0 c1 c2 c3 c4 H0 ga L xs) (jx_mt 11) := ⟨Or.inl ⟨w_282, rfl⟩, by decide +kernel, by decide⟩
theorem np_11 : (parseMethodDescriptor (jx_mt 11).1.desc).map (fun d => d.parameters.length) = some 0 := by decide +kernel
theorem mc_12 : jx_c (jx_mk D c0 c1 c2 c3 c4 H0 ga L xs) (jx_mt 12) := ⟨Or.inl ⟨w_562, rfl⟩, by decide +kernel, by decide⟩
theorem np_12 : (parseMethodDescriptor (jx_mt 12).1.desc).map (fun d => d.parameters.length) = some 0 := by decide +kernel
theorem mc_13 : jx_c (jx_mk D c0 c1 c2 c3 c4 H0 ga L xs) (jx_mt 13) := ⟨Or.inl ⟨w_563, rfl⟩, by decide +kernel, by decide⟩
theorem np_13 : (parseMethodDescriptor (jx_mt 13).1.desc).map (fun d => d.parameters.length) = some 3 := by decide +kernel
theorem mc_14 : jx_c (jx_mk D c0 c1 c2 c3 c4 H0 ga L xs) (jx_mt 14) := ⟨Or.inl ⟨w_268, rfl⟩, by decide +kernel, by decide⟩
theorem np_14 : (parseMethodDescriptor (jx_mt 14).1.desc).map (fun d => d.parameters.length) = some 0 := by decide +kernel
theorem mc_15 : jx_c (jx_mk D c0 c1 c2 c3 c4 H0 ga L xs) (jx_mt 15) := ⟨Or.inl ⟨w_564, rfl⟩, by decide +kernel, by decide⟩
theorem np_15 : (parseMethodDescriptor (jx_mt 15).1.desc).map (fun d => d.parameters.length) = some 2 := by decide +kernel
theorem mc_16 : jx_c (jx_mk D c0 c1 c2 c3 c4 H0 ga L xs) (jx_mt 16) := ⟨Or.inl ⟨w_565, rfl⟩, by decide +kernel, by decide⟩
theorem np_16 : (parseMethodDescriptor (jx_mt 16).1.desc).map (fun d => d.parameters.length) = some 3 := by decide +kernel
theorem mc_17 : jx_c (jx_mk D c0 c1 c2 c3 c4 H0 ga L xs) (jx_mt 17) := ⟨Or.inl ⟨w_566, rfl⟩, by decide +kernel, by decide⟩
theorem np_17 : (parseMethodDescriptor (jx_mt 17).1.desc).map (fun d => d.parameters.length) = some 2 := by decide +kernel
theorem mc_18 : jx_c (jx_mk D c0 c1 c2 c3 c4 H0 ga L xs) (jx_mt 18) := ⟨Or.inl ⟨w_567, rfl⟩, by decide +kernel, by decide⟩
theorem np_18 : (parseMethodDescriptor (jx_mt 18).1.desc).map (fun d => d.parameters.length) = some 4 := by decide +kernel
theorem mc_19 : jx_c (jx_mk D c0 c1 c2 c3 c4 H0 ga L xs) (jx_mt 19) := ⟨Or.inl ⟨w_568, rfl⟩, by decide +kernel, by decide⟩
theorem np_19 : (parseMethodDescriptor (jx_mt 19).1.desc).map (fun d => d.parameters.length) = some 1 := by decide +kernel
theorem mc_20 : jx_c (jx_mk D c0 c1 c2 c3 c4 H0 ga L xs) (jx_mt 20) := ⟨Or.inl ⟨w_569, rfl⟩, by decide +kernel, by decide⟩
theorem np_20 : (parseMethodDescriptor (jx_mt 20).1.desc).map (fun d => d.parameters.length) = some 4 := by decide +kernel
theorem mc_21 : jx_c (jx_mk D c0 c1 c2 c3 c4 H0 ga L xs) (jx_mt 21) := ⟨Or.inl ⟨w_570, rfl⟩, by decide +kernel, by decide⟩
theorem np_21 : (parseMethodDescriptor (jx_mt 21).1.desc).map (fun d => d.parameters.length) = some 2 := by decide +kernel
theorem mc_22 : jx_c (jx_mk D c0 c1 c2 c3 c4 H0 ga L xs) (jx_mt 22) := ⟨Or.inl ⟨w_259, rfl⟩, by decide +kernel, by decide⟩
theorem np_22 : (parseMethodDescriptor (jx_mt 22).1.desc).map (fun d => d.parameters.length) = some 0 := by decide +kernel
theorem mc_23 : jx_c (jx_mk D c0 c1 c2 c3 c4 H0 ga L xs) (jx_mt 23) := ⟨Or.inl ⟨w_571, rfl⟩, by decide +kernel, by decide⟩
theorem np_23 : (parseMethodDescriptor (jx_mt 23).1.desc).map (fun d => d.parameters.length) = some 3 := by decide +kernel
theorem mc_24 : jx_c (jx_mk D c0 c1 c2 c3 c4 H0 ga L xs) (jx_mt 24) := ⟨Or.inl ⟨w_572, rfl⟩, by decide +kernel, by decide⟩
theorem np_24 : (parseMethodDescriptor (jx_mt 24).1.desc).map (fun d => d.parameters.length) = some 0 := by decide +kernel
theorem mc_25 : jx_c (jx_mk D c0 c1 c2 c3 c4 H0 ga L xs) (jx_mt 25) := ⟨Or.inl ⟨w_573, rfl⟩, by decide +kernel, by decide⟩
theorem np_25 : (parseMethodDescriptor (jx_mt 25).1.desc).map (fun d => d.parameters.length) = some 0 := by decide +kernel
theorem mc_26 : jx_c (jx_mk D c0 c1 c2 c3 c4 H0 ga L xs) (jx_mt 26) := ⟨Or.inl ⟨w_574, rfl⟩, by decide +kernel, by decide⟩
theorem np_26 : (parseMethodDescriptor (jx_mt 26).1.desc).map (fun d => d.parameters.length) = some 1 := by decide +kernel
theorem mc_27 : jx_c (jx_mk D c0 c1 c2 c3 c4 H0 ga L xs) (jx_mt 27) := ⟨Or.inl ⟨w_575, rfl⟩, by decide +kernel, by decide⟩
theorem np_27 : (parseMethodDescriptor (jx_mt 27).1.desc).map (fun d => d.parameters.length) = some 0 := by decide +kernel
theorem mc_28 : jx_c (jx_mk D c0 c1 c2 c3 c4 H0 ga L xs) (jx_mt 28) := ⟨Or.inl ⟨w_576, rfl⟩, by decide +kernel, by decide⟩
theorem np_28 : (parseMethodDescriptor (jx_mt 28).1.desc).map (fun d => d.parameters.length) = some 0 := by decide +kernel
theorem mc_29 : jx_c (jx_mk D c0 c1 c2 c3 c4 H0 ga L xs) (jx_mt 29) := ⟨Or.inl ⟨w_577, rfl⟩, by decide +kernel, by decide⟩
theorem np_29 : (parseMethodDescriptor (jx_mt 29).1.desc).map (fun d => d.parameters.length) = some 0 := by decide +kernel
theorem mc_30 : jx_c (jx_mk D c0 c1 c2 c3 c4 H0 ga L xs) (jx_mt 30) := ⟨Or.inl ⟨w_578, rfl⟩, by decide +kernel, by decide⟩
theorem np_30 : (parseMethodDescriptor (jx_mt 30).1.desc).map (fun d => d.parameters.length) = some 1 := by decide +kernel
theorem mc_31 : jx_c (jx_mk D c0 c1 c2 c3 c4 H0 ga L xs) (jx_mt 31) := ⟨Or.inl ⟨w_579, rfl⟩, by decide +kernel, by decide⟩
theorem np_31 : (parseMethodDescriptor (jx_mt 31).1.desc).map (fun d => d.parameters.length) = some 2 := by decide +kernel
theorem mc_32 : jx_c (jx_mk D c0 c1 c2 c3 c4 H0 ga L xs) (jx_mt 32) := ⟨Or.inl ⟨w_580, rfl⟩, by decide +kernel, by decide⟩
theorem np_32 : (parseMethodDescriptor (jx_mt 32).1.desc).map (fun d => d.parameters.length) = some 0 := by decide +kernel
theorem mc_33 : jx_c (jx_mk D c0 c1 c2 c3 c4 H0 ga L xs) (jx_mt 33) := ⟨Or.inl ⟨w_581, rfl⟩, by decide +kernel, by decide⟩
theorem np_33 : (parseMethodDescriptor (jx_mt 33).1.desc).map (fun d => d.parameters.length) = some 0 := by decide +kernel
theorem mc_34 : jx_c (jx_mk D c0 c1 c2 c3 c4 H0 ga L xs) (jx_mt 34) := ⟨Or.inl ⟨w_582, rfl⟩, by decide +kernel, by decide⟩
theorem np_34 : (parseMethodDescriptor (jx_mt 34).1.desc).map (fun d => d.parameters.length) = some 3 := by decide +kernel
theorem mc_35 : jx_c (jx_mk D c0 c1 c2 c3 c4 H0 ga L xs) (jx_mt 35) := ⟨Or.inl ⟨w_583, rfl⟩, by decide +kernel, by decide⟩
theorem np_35 : (parseMethodDescriptor (jx_mt 35).1.desc).map (fun d => d.parameters.length) = some 3 := by decide +kernel
theorem mc_36 : jx_c (jx_mk D c0 c1 c2 c3 c4 H0 ga L xs) (jx_mt 36) := ⟨Or.inl ⟨w_584, rfl⟩, by decide +kernel, by decide⟩
theorem np_36 : (parseMethodDescriptor (jx_mt 36).1.desc).map (fun d => d.parameters.length) = some 2 := by decide +kernel
theorem mc_37 : jx_c (jx_mk D c0 c1 c2 c3 c4 H0 ga L xs) (jx_mt 37) := ⟨Or.inl ⟨w_585, rfl⟩, by decide +kernel, by decide⟩
theorem np_37 : (parseMethodDescriptor (jx_mt 37).1.desc).map (fun d => d.parameters.length) = some 1 := by decide +kernel
theorem mc_38 : jx_c (jx_mk D c0 c1 c2 c3 c4 H0 ga L xs) (jx_mt 38) := ⟨Or.inl ⟨w_586, rfl⟩, by decide +kernel, by decide⟩
theorem np_38 : (parseMethodDescriptor (jx_mt 38).1.desc).map (fun d => d.parameters.length) = some 3 := by decide +kernel
theorem mc_39 : jx_c (jx_mk D c0 c1 c2 c3 c4 H0 ga L xs) (jx_mt 39) := ⟨Or.inl ⟨w_587, rfl⟩, by decide +kernel, by decide⟩
theorem np_39 : (parseMethodDescriptor (jx_mt 39).1.desc).map (fun d => d.parameters.length) = some 1 := by decide +kernel
theorem mc_40 : jx_c (jx_mk D c0 c1 c2 c3 c4 H0 ga L xs) (jx_mt 40) := ⟨Or.inl ⟨w_588, rfl⟩, by decide +kernel, by decide⟩
theorem np_40 : (parseMethodDescriptor (jx_mt 40).1.desc).map (fun d => d.parameters.length) = some 1 := by decide +kernel
theorem mc_41 : jx_c (jx_mk D c0 c1 c2 c3 c4 H0 ga L xs) (jx_mt 41) := ⟨Or.inl ⟨w_589, rfl⟩, by decide +kernel, by decide⟩
theorem np_41 : (parseMethodDescriptor (jx_mt 41).1.desc).map (fun d => d.parameters.length) = some 0 := by decide +kernel
theorem mc_42 : jx_c (jx_mk D c0 c1 c2 c3 c4 H0 ga L xs) (jx_mt 42) := ⟨Or.inl ⟨w_590, rfl⟩, by decide +kernel, by decide⟩
theorem np_42 : (parseMethodDescriptor (jx_mt 42).1.desc).map (fun d => d.parameters.length) = some 1 := by decide +kernel
theorem mc_43 : jx_c (jx_mk D c0 c1 c2 c3 c4 H0 ga L xs) (jx_mt 43) := ⟨Or.inl ⟨w_275, rfl⟩, by decide +kernel, by decide⟩
theorem np_43 : (parseMethodDescriptor (jx_mt 43).1.desc).map (fun d => d.parameters.length) = some 0 := by decide +kernel
theorem mc_44 : jx_c (jx_mk D c0 c1 c2 c3 c4 H0 ga L xs) (jx_mt 44) := ⟨Or.inl ⟨w_591, rfl⟩, by decide +kernel, by decide⟩
theorem np_44 : (parseMethodDescriptor (jx_mt 44).1.desc).map (fun d => d.parameters.length) = some 1 := by decide +kernel
theorem mc_45 : jx_c (jx_mk D c0 c1 c2 c3 c4 H0 ga L xs) (jx_mt 45) := ⟨Or.inl ⟨w_592, rfl⟩, by decide +kernel, by decide⟩
theorem np_45 : (parseMethodDescriptor (jx_mt 45).1.desc).map (fun d => d.parameters.length) = some 1 := by decide +kernel
theorem mc_46 : jx_c (jx_mk D c0 c1 c2 c3 c4 H0 ga L xs) (jx_mt 46) := ⟨Or.inl ⟨w_593, rfl⟩, by decide +kernel, by decide⟩
theorem np_46 : (parseMethodDescriptor (jx_mt 46).1.desc).map (fun d => d.parameters.length) = some 2 := by decide +kernel
theorem mc_47 : jx_c (jx_mk D c0 c1 c2 c3 c4 H0 ga L xs) (jx_mt 47) := ⟨Or.inl ⟨w_4, rfl⟩, by decide +kernel, by decide⟩
theorem np_47 : (parseMethodDescriptor (jx_mt 47).1.desc).map (fun d => d.parameters.length) = some 0 := by decide +kernel
theorem mc_48 : jx_c (jx_mk D c0 c1 c2 c3 c4 H0 ga L xs) (jx_mt 48) := ⟨Or.inl ⟨w_594, rfl⟩, by decide +kernel, by decide⟩
theorem np_48 : (parseMethodDescriptor (jx_mt 48).1.desc).map (fun d => d.parameters.length) = some 1 := by decide +kernel
theorem mc_49 : jx_c (jx_mk D c0 c1 c2 c3 c4 H0 ga L xs) (jx_mt 49) := ⟨Or.inl ⟨w_595, rfl⟩, by decide +kernel, by decide⟩
theorem np_49 : (parseMethodDescriptor (jx_mt 49).1.desc).map (fun d => d.parameters.length) = some 2 := by decide +kernel
theorem mc_50 : jx_c (jx_mk D c0 c1 c2 c3 c4 H0 ga L xs) (jx_mt 50) := ⟨Or.inl ⟨w_596, rfl⟩, by decide +kernel, by decide⟩
theorem np_50 : (parseMethodDescriptor (jx_mt 50).1.desc).map (fun d => d.parameters.length) = some 1 := by decide +kernel
theorem mc_51 : jx_c (jx_mk D c0 c1 c2 c3 c4 H0 ga L xs) (jx_mt 51) := ⟨Or.inl ⟨w_597, rfl⟩, by decide +kernel, by decide⟩
theorem np_51 : (parseMethodDescriptor (jx_mt 51).1.desc).map (fun d => d.parameters.length) = some 0 := by decide +kernel
theorem mc_52 : jx_c (jx_mk D c0 c1 c2 c3 c4 H0 ga L xs) (jx_mt 52) := ⟨Or.inl ⟨w_598, rfl⟩, by decide +kernel, by decide⟩
theorem np_52 : (parseMethodDescriptor (jx_mt 52).1.desc).map (fun d => d.parameters.length) = some 1 := by decide +kernel
theorem mc_53 : jx_c (jx_mk D c0 c1 c2 c3 c4 H0 ga L xs) (jx_mt 53) := ⟨Or.inl ⟨w_599, rfl⟩, by decide +kernel, by decide⟩
theorem np_53 : (parseMethodDescriptor (jx_mt 53).1.desc).map (fun d => d.parameters.length) = some 1 := by decide +kernel
theorem mc_54 : jx_c (jx_mk D c0 c1 c2 c3 c4 H0 ga L xs) (jx_mt 54) := ⟨Or.inl ⟨w_600, rfl⟩, by decide +kernel, by decide⟩
theorem np_54 : (parseMethodDescriptor (jx_mt 54).1.desc).map (fun d => d.parameters.length) = some 0 := by decide +kernel
theorem mc_55 : jx_c (jx_mk D c0 c1 c2 c3 c4 H0 ga L xs) (jx_mt 55) := ⟨Or.inl ⟨w_601, rfl⟩, by decide +kernel, by decide⟩
theorem np_55 : (parseMethodDescriptor (jx_mt 55).1.desc).map (fun d => d.parameters.length) = some 0 := by decide +kernel
theorem mc_56 : jx_c (jx_mk D c0 c1 c2 c3 c4 H0 ga L xs) (jx_mt 56) := ⟨Or.inl ⟨w_602, rfl⟩, by decide +kernel, by decide⟩
theorem np_56 : (parseMethodDescriptor (jx_mt 56).1.desc).map (fun d => d.parameters.length) = some 0 := by decide +kernel
theorem mc_57 : jx_c (jx_mk D c0 c1 c2 c3 c4 H0 ga L xs) (jx_mt 57) := ⟨Or.inl ⟨w_603, rfl⟩, by decide +kernel, by decide⟩
theorem np_57 : (parseMethodDescriptor (jx_mt 57).1.desc).map (fun d => d.parameters.length) = some 1 := by decide +kernel
theorem mc_58 : jx_c (jx_mk D c0 c1 c2 c3 c4 H0 ga L xs) (jx_mt 58) := ⟨Or.inl ⟨w_604, rfl⟩, by decide +kernel, by decide⟩
theorem np_58 : (parseMethodDescriptor (jx_mt 58).1.desc).map (fun d => d.parameters.length) = some 1 := by decide +kernel
theorem mc_59 : jx_c (jx_mk D c0 c1 c2 c3 c4 H0 ga L xs) (jx_mt 59) := ⟨Or.inl ⟨w_605, rfl⟩, by decide +kernel, by decide⟩
theorem np_59 : (parseMethodDescriptor (jx_mt 59).1.desc).map (fun d => d.parameters.length) = some 2 := by decide +kernel
theorem mc_60 : jx_c (jx_mk D c0 c1 c2 c3 c4 H0 ga L xs) (jx_mt 60) := ⟨Or.inl ⟨w_606, rfl⟩, by decide +kernel, by decide⟩
theorem np_60 : (parseMethodDescriptor (jx_mt 60).1.desc).map (fun d => d.parameters.length) = some 3 := by decide +kernel
theorem mc_61 : jx_c (jx_mk D c0 c1 c2 c3 c4 H0 ga L xs) (jx_mt 61) := ⟨Or.inl ⟨w_607, rfl⟩, by decide +kernel, by decide⟩
theorem np_61 : (parseMethodDescriptor (jx_mt 61).1.desc).map (fun d => d.parameters.length) = some 0 := by decide +kernel
theorem mc_62 : jx_c (jx_mk D c0 c1 c2 c3 c4 H0 ga L xs) (jx_mt 62) := ⟨Or.inl ⟨w_608, rfl⟩, by decide +kernel, by decide⟩
theorem np_62 : (parseMethodDescriptor (jx_mt 62).1.desc).map (fun d => d.parameters.length) = some 1 := by decide +kernel
theorem mc_63 : jx_c (jx_mk D c0 c1 c2 c3 c4 H0 ga L xs) (jx_mt 63) := ⟨Or.inl ⟨w_609, rfl⟩, by decide +kernel, by decide⟩
theorem np_63 : (parseMethodDescriptor (jx_mt 63).1.desc).map (fun d => d.parameters.length) = some 0 := by decide +kernel
theorem mc_64 : jx_c (jx_mk D c0 c1 c2 c3 c4 H0 ga L xs) (jx_mt 64) := ⟨Or.inl ⟨w_610, rfl⟩, by decide +kernel, by decide⟩
theorem np_64 : (parseMethodDescriptor (jx_mt 64).1.desc).map (fun d => d.parameters.length) = some 0 := by decide +kernel
theorem mc_65 : jx_c (jx_mk D c0 c1 c2 c3 c4 H0 ga L xs) (jx_mt 65) := ⟨Or.inl ⟨w_611, rfl⟩, by decide +kernel, by decide⟩
theorem np_65 : (parseMethodDescriptor (jx_mt 65).1.desc).map (fun d => d.parameters.length) = some 2 := by decide +kernel
theorem mc_66 : jx_c (jx_mk D c0 c1 c2 c3 c4 H0 ga L xs) (jx_mt 66) := ⟨Or.inl ⟨w_612, rfl⟩, by decide +kernel, by decide⟩
theorem np_66 : (parseMethodDescriptor (jx_mt 66).1.desc).map (fun d => d.parameters.length) = some 0 := by decide +kernel
theorem mc_67 : jx_c (jx_mk D c0 c1 c2 c3 c4 H0 ga L xs) (jx_mt 67) := ⟨Or.inl ⟨w_613, rfl⟩, by decide +kernel, by decide⟩
theorem np_67 : (parseMethodDescriptor (jx_mt 67).1.desc).map (fun d => d.parameters.length) = some 0 := by decide +kernel
theorem mc_68 : jx_c (jx_mk D c0 c1 c2 c3 c4 H0 ga L xs) (jx_mt 68) := ⟨Or.inl ⟨w_614, rfl⟩, by decide +kernel, by decide⟩
theorem np_68 : (parseMethodDescriptor (jx_mt 68).1.desc).map (fun d => d.parameters.length) = some 1 := by decide +kernel
theorem mc_69 : jx_c (jx_mk D c0 c1 c2 c3 c4 H0 ga L xs) (jx_mt 69) := ⟨Or.inl ⟨w_10, rfl⟩, by decide +kernel, by decide⟩
theorem np_69 : (parseMethodDescriptor (jx_mt 69).1.desc).map (fun d => d.parameters.length) = some 0 := by decide +kernel
theorem mc_70 : jx_c (jx_mk D c0 c1 c2 c3 c4 H0 ga L xs) (jx_mt 70) := ⟨Or.inl ⟨w_615, rfl⟩, by decide +kernel, by decide⟩
theorem np_70 : (parseMethodDescriptor (jx_mt 70).1.desc).map (fun d => d.parameters.length) = some 0 := by decide +kernel
theorem mc_71 : jx_c (jx_mk D c0 c1 c2 c3 c4 H0 ga L xs) (jx_mt 71) := ⟨Or.inl ⟨w_616, rfl⟩, by decide +kernel, by decide⟩
theorem np_71 : (parseMethodDescriptor (jx_mt 71).1.desc).map (fun d => d.parameters.length) = some 1 := by decide +kernel
theorem mc_72 : jx_c (jx_mk D c0 c1 c2 c3 c4 H0 ga L xs) (jx_mt 72) := ⟨Or.inl ⟨w_617, rfl⟩, by decide +kernel, by decide⟩
theorem np_72 : (parseMethodDescriptor (jx_mt 72).1.desc).map (fun d => d.parameters.length) = some 0 := by decide +kernel
theorem mc_73 : jx_c (jx_mk D c0 c1 c2 c3 c4 H0 ga L xs) (jx_mt 73) := ⟨Or.inl ⟨w_618, rfl⟩, by decide +kernel, by decide⟩
theorem np_73 : (parseMethodDescriptor (jx_mt 73).1.desc).map (fun d => d.parameters.length) = some 0 := by decide +kernel
theorem mc_74 : jx_c (jx_mk D c0 c1 c2 c3 c4 H0 ga L xs) (jx_mt 74) := ⟨Or.inl ⟨w_619, rfl⟩, by decide +kernel, by decide⟩
theorem np_74 : (parseMethodDescriptor (jx_mt 74).1.desc).map (fun d => d.parameters.length) = some 1 := by decide +kernel
theorem mc_75 : jx_c (jx_mk D c0 c1 c2 c3 c4 H0 ga L xs) (jx_mt 75) := ⟨Or.inl ⟨w_620, rfl⟩, by decide +kernel, by decide⟩
theorem np_75 : (parseMethodDescriptor (jx_mt 75).1.desc).map (fun d => d.parameters.length) = some 0 := by decide +kernel
theorem mc_76 : jx_c (jx_mk D c0 c1 c2 c3 c4 H0 ga L xs) (jx_mt 76) := ⟨Or.inl ⟨w_621, rfl⟩, by decide +kernel, by decide⟩
theorem np_76 : (parseMethodDescriptor (jx_mt 76).1.desc).map (fun d => d.parameters.length) = some 1 := by decide +kernel
theorem mc_77 : jx_c (jx_mk D c0 c1 c2 c3 c4 H0 ga L xs) (jx_mt 77) := ⟨Or.inl ⟨w_622, rfl⟩, by decide +kernel, by decide⟩
theorem np_77 : (parseMethodDescriptor (jx_mt 77).1.desc).map (fun d => d.parameters.length) = some 1 := by decide +kernel
theorem mc_78 : jx_c (jx_mk D c0 c1 c2 c3 c4 H0 ga L xs) (jx_mt 78) := ⟨Or.inl ⟨w_623, rfl⟩, by decide +kernel, by decide⟩
theorem np_78 : (parseMethodDescriptor (jx_mt 78).1.desc).map (fun d => d.parameters.length) = some 2 := by decide +kernel
theorem mc_79 : jx_c (jx_mk D c0 c1 c2 c3 c4 H0 ga L xs) (jx_mt 79) := ⟨Or.inl ⟨w_624, rfl⟩, by decide +kernel, by decide⟩
theorem np_79 : (parseMethodDescriptor (jx_mt 79).1.desc).map (fun d => d.parameters.length) = some 1 := by decide +kernel
theorem mc_80 : jx_c (jx_mk D c0 c1 c2 c3 c4 H0 ga L xs) (jx_mt 80) := ⟨Or.inl ⟨w_625, rfl⟩, by decide +kernel, by decide⟩
theorem np_80 : (parseMethodDescriptor (jx_mt 80).1.desc).map (fun d => d.parameters.length) = some 1 := by decide +kernel
theorem mc_81 : jx_c (jx_mk D c0 c1 c2 c3 c4 H0 ga L xs) (jx_mt 81) := ⟨Or.inl ⟨w_626, rfl⟩, by decide +kernel, by decide⟩
theorem np_81 : (parseMethodDescriptor (jx_mt 81).1.desc).map (fun d => d.parameters.length) = some 2 := by decide +kernel
theorem mc_82 : jx_c (jx_mk D c0 c1 c2 c3 c4 H0 ga L xs) (jx_mt 82) := ⟨Or.inl ⟨w_627, rfl⟩, by decide +kernel, by decide⟩
theorem np_82 : (parseMethodDescriptor (jx_mt 82).1.desc).map (fun d => d.parameters.length) = some 0 := by decide +kernel
theorem mc_83 : jx_c (jx_mk D c0 c1 c2 c3 c4 H0 ga L xs) (jx_mt 83) := ⟨Or.inl ⟨w_628, rfl⟩, by decide +kernel, by decide⟩
theorem np_83 : (parseMethodDescriptor (jx_mt 83).1.desc).map (fun d => d.parameters.length) = some 0 := by decide +kernel
theorem mc_84 : jx_c (jx_mk D c0 c1 c2 c3 c4 H0 ga L xs) (jx_mt 84) := ⟨Or.inl ⟨w_629, rfl⟩, by decide +kernel, by decide⟩
theorem np_84 : (parseMethodDescriptor (jx_mt 84).1.desc).map (fun d => d.parameters.length) = some 3 := by decide +kernel
theorem mc_85 : jx_c (jx_mk D c0 c1 c2 c3 c4 H0 ga L xs) (jx_mt 85) := ⟨Or.inl ⟨w_630, rfl⟩, by decide +kernel, by decide⟩
theorem np_85 : (parseMethodDescriptor (jx_mt 85).1.desc).map (fun d => d.parameters.length) = some 2 := by decide +kernel
theorem mc_86 : jx_c (jx_mk D c0 c1 c2 c3 c4 H0 ga L xs) (jx_mt 86) := ⟨Or.inl ⟨w_631, rfl⟩, by decide +kernel, by decide⟩
theorem np_86 : (parseMethodDescriptor (jx_mt 86).1.desc).map (fun d => d.parameters.length) = some 0 := by decide +kernel
theorem mc_87 : jx_c (jx_mk D c0 c1 c2 c3 c4 H0 ga L xs) (jx_mt 87) := ⟨Or.inl ⟨w_632, rfl⟩, by decide +kernel, by decide⟩
theorem np_87 : (parseMethodDescriptor (jx_mt 87).1.desc).map (fun d => d.parameters.length) = some 1 := by decide +kernel
theorem mc_88 : jx_c (jx_mk D c0 c1 c2 c3 c4 H0 ga L xs) (jx_mt 88) := ⟨Or.inl ⟨w_633, rfl⟩, by decide +kernel, by decide⟩
theorem np_88 : (parseMethodDescriptor (jx_mt 88).1.desc).map (fun d => d.parameters.length) = some 1 := by decide +kernel
theorem mc_89 : jx_c (jx_mk D c0 c1 c2 c3 c4 H0 ga L xs) (jx_mt 89) := ⟨Or.inl ⟨w_634, rfl⟩, by decide +kernel, by decide⟩
theorem np_89 : (parseMethodDescriptor (jx_mt 89).1.desc).map (fun d => d.parameters.length) = some 0 := by decide +kernel
theorem mc_90 : jx_c (jx_mk D c0 c1 c2 c3 c4 H0 ga L xs) (jx_mt 90) := ⟨Or.inl ⟨w_635, rfl⟩, by decide +kernel, by decide⟩
theorem np_90 : (parseMethodDescriptor (jx_mt 90).1.desc).map (fun d => d.parameters.length) = some 1 := by decide +kernel
theorem mc_91 : jx_c (jx_mk D c0 c1 c2 c3 c4 H0 ga L xs) (jx_mt 91) := ⟨Or.inl ⟨w_636, rfl⟩, by decide +kernel, by decide⟩
theorem np_91 : (parseMethodDescriptor (jx_mt 91).1.desc).map (fun d => d.parameters.length) = some 0 := by decide +kernel
theorem mc_92 : jx_c (jx_mk D c0 c1 c2 c3 c4 H0 ga L xs) (jx_mt 92) := ⟨Or.inl ⟨w_637, rfl⟩, by decide +kernel, by decide⟩
theorem np_92 : (parseMethodDescriptor (jx_mt 92).1.desc).map (fun d => d.parameters.length) = some 0 := by decide +kernel
theorem mc_93 : jx_c (jx_mk D c0 c1 c2 c3 c4 H0 ga L xs) (jx_mt 93) := ⟨Or.inl ⟨w_638, rfl⟩, by decide +kernel, by decide⟩
theorem np_93 : (parseMethodDescriptor (jx_mt 93).1.desc).map (fun d => d.parameters.length) = some 2 := by decide +kernel
theorem mc_94 : jx_c (jx_mk D c0 c1 c2 c3 c4 H0 ga L xs) (jx_mt 94) := ⟨Or.inl ⟨w_639, rfl⟩, by decide +kernel, by decide⟩
theorem np_94 : (parseMethodDescriptor (jx_mt 94).1.desc).map (fun d => d.parameters.length) = some 4 := by decide +kernel
theorem mc_95 : jx_c (jx_mk D c0 c1 c2 c3 c4 H0 ga L xs) (jx_mt 95) := ⟨Or.inl ⟨w_640, rfl⟩, by decide +kernel, by decide⟩
theorem np_95 : (parseMethodDescriptor (jx_mt 95).1.desc).map (fun d => d.parameters.length) = some 4 := by decide +kernel
theorem mc_96 : jx_c (jx_mk D c0 c1 c2 c3 c4 H0 ga L xs) (jx_mt 96) := ⟨Or.inl ⟨w_641, rfl⟩, by decide +kernel, by decide⟩
theorem np_96 : (parseMethodDescriptor (jx_mt 96).1.desc).map (fun d => d.parameters.length) = some 0 := by decide +kernel
theorem mc_97 : jx_c (jx_mk D c0 c1 c2 c3 c4 H0 ga L xs) (jx_mt 97) := ⟨Or.inl ⟨w_642, rfl⟩, by decide +kernel, by decide⟩
theorem np_97 : (parseMethodDescriptor (jx_mt 97).1.desc).map (fun d => d.parameters.length) = some 2 := by decide +kernel
theorem mc_98 : jx_c (jx_mk D c0 c1 c2 c3 c4 H0 ga L xs) (jx_mt 98) := ⟨Or.inl ⟨w_643, rfl⟩, by decide +kernel, by decide⟩
theorem np_98 : (parseMethodDescriptor (jx_mt 98).1.desc).map (fun d => d.parameters.length) = some 0 := by decide +kernel
theorem mc_99 : jx_c (jx_mk D c0 c1 c2 c3 c4 H0 ga L xs) (jx_mt 99) := ⟨Or.inl ⟨w_644, rfl⟩, by decide +kernel, by decide⟩
theorem np_99 : (parseMethodDescriptor (jx_mt 99).1.desc).map (fun d => d.parameters.length) = some 1 := by decide +kernel
theorem mc_100 : jx_c (jx_mk D c0 c1 c2 c3 c4 H0 ga L xs) (jx_mt 100) := ⟨Or.inl ⟨w_645, rfl⟩, by decide +kernel, by decide⟩
theorem np_100 : (parseMethodDescriptor (jx_mt 100).1.desc).map (fun d => d.parameters.length) = some 2 := by decide +kernel
theorem mc_101 : jx_c (jx_mk D c0 c1 c2 c3 c4 H0 ga L xs) (jx_mt 101) := ⟨Or.inl ⟨w_646, rfl⟩, by decide +kernel, by decide⟩
theorem np_101 : (parseMethodDescriptor (jx_mt 101).1.desc).map (fun d => d.parameters.length) = some 0 := by decide +kernel
theorem mc_102 : jx_c (jx_mk D c0 c1 c2 c3 c4 H0 ga L xs) (jx_mt 102) := ⟨Or.inl ⟨w_647, rfl⟩, by decide +kernel, by decide⟩
theorem np_102 : (parseMethodDescriptor (jx_mt 102).1.desc).map (fun d => d.parameters.length) = some 0 := by decide +kernel
theorem mc_103 : jx_c (jx_mk D c0 c1 c2 c3 c4 H0 ga L xs) (jx_mt 103) := ⟨Or.inl ⟨w_648, rfl⟩, by decide +kernel, by decide⟩
theorem np_103 : (parseMethodDescriptor (jx_mt 103).1.desc).map (fun d => d.parameters.length) = some 1 := by decide +kernel
theorem mc_104 : jx_c (jx_mk D c0 c1 c2 c3 c4 H0 ga L xs) (jx_mt 104) := ⟨Or.inl ⟨w_649, rfl⟩, by decide +kernel, by decide⟩
theorem np_104 : (parseMethodDescriptor (jx_mt 104).1.desc).map (fun d => d.parameters.length) = some 1 := by decide +kernel
theorem mc_105 : jx_c (jx_mk D c0 c1 c2 c3 c4 H0 ga L xs) (jx_mt 105) := ⟨Or.inl ⟨w_650, rfl⟩, by decide +kernel, by decide⟩
theorem np_105 : (parseMethodDescriptor (jx_mt 105).1.desc).map (fun d => d.parameters.length) = some 1 := by decide +kernel
theorem mc_106 : jx_c (jx_mk D c0 c1 c2 c3 c4 H0 ga L xs) (jx_mt 106) := ⟨Or.inl ⟨w_651, rfl⟩, by decide +kernel, by decide⟩
theorem np_106 : (parseMethodDescriptor (jx_mt 106).1.desc).map (fun d => d.parameters.length) = some 0 := by decide +kernel
theorem mc_107 : jx_c (jx_mk D c0 c1 c2 c3 c4 H0 ga L xs) (jx_mt 107) := ⟨Or.inl ⟨w_652, rfl⟩, by decide +kernel, by decide⟩
theorem np_107 : (parseMethodDescriptor (jx_mt 107).1.desc).map (fun d => d.parameters.length) = some 0 := by decide +kernel
theorem mc_108 : jx_c (jx_mk D c0 c1 c2 c3 c4 H0 ga L xs) (jx_mt 108) := ⟨Or.inl ⟨w_653, rfl⟩, by decide +kernel, by decide⟩
theorem np_108 : (parseMethodDescriptor (jx_mt 108).1.desc).map (fun d => d.parameters.length) = some 1 := by decide +kernel
theorem mc_109 : jx_c (jx_mk D c0 c1 c2 c3 c4 H0 ga L xs) (jx_mt 109) := ⟨Or.inl ⟨w_654, rfl⟩, by decide +kernel, by decide⟩
theorem np_109 : (parseMethodDescriptor (jx_mt 109).1.desc).map (fun d => d.parameters.length) = some 2 := by decide +kernel
theorem mc_110 : jx_c (jx_mk D c0 c1 c2 c3 c4 H0 ga L xs) (jx_mt 110) := ⟨Or.inl ⟨w_655, rfl⟩, by decide +kernel, by decide⟩
theorem np_110 : (parseMethodDescriptor (jx_mt 110).1.desc).map (fun d => d.parameters.length) = some 3 := by decide +kernel
theorem mc_111 : jx_c (jx_mk D c0 c1 c2 c3 c4 H0 ga L xs) (jx_mt 111) := ⟨Or.inl ⟨w_656, rfl⟩, by decide +kernel, by decide⟩
theorem np_111 : (parseMethodDescriptor (jx_mt 111).1.desc).map (fun d => d.parameters.length) = some 2 := by decide +kernel
theorem mc_112 : jx_c (jx_mk D c0 c1 c2 c3 c4 H0 ga L xs) (jx_mt 112) := ⟨Or.inl ⟨w_657, rfl⟩, by decide +kernel, by decide⟩
theorem np_112 : (parseMethodDescriptor (jx_mt 112).1.desc).map (fun d => d.parameters.length) = some 1 := by decide +kernel
theorem mc_113 : jx_c (jx_mk D c0 c1 c2 c3 c4 H0 ga L xs) (jx_mt 113) := ⟨Or.inl ⟨w_658, rfl⟩, by decide +kernel, by decide⟩
theorem np_113 : (parseMethodDescriptor (jx_mt 113).1.desc).map (fun d => d.parameters.length) = some 2 := by decide +kernel
theorem mc_114 : jx_c (jx_mk D c0 c1 c2 c3 c4 H0 ga L xs) (jx_mt 114) := ⟨Or.inl ⟨w_659, rfl⟩, by decide +kernel, by decide⟩
theorem np_114 : (parseMethodDescriptor (jx_mt 114).1.desc).map (fun d => d.parameters.length) = some 1 := by decide +kernel
theorem mc_115 : jx_c (jx_mk D c0 c1 c2 c3 c4 H0 ga L xs) (jx_mt 115) := ⟨Or.inl ⟨w_660, rfl⟩, by decide +kernel, by decide⟩
theorem np_115 : (parseMethodDescriptor (jx_mt 115).1.desc).map (fun d => d.parameters.length) = some 1 := by decide +kernel
theorem mc_116 : jx_c (jx_mk D c0 c1 c2 c3 c4 H0 ga L xs) (jx_mt 116) := ⟨Or.inl ⟨w_661, rfl⟩, by decide +kernel, by decide⟩
theorem np_116 : (parseMethodDescriptor (jx_mt 116).1.desc).map (fun d => d.parameters.length) = some 3 := by decide +kernel
theorem mc_117 : jx_c (jx_mk D c0 c1 c2 c3 c4 H0 ga L xs) (jx_mt 117) := ⟨Or.inr w_662, by decide +kernel, by decide⟩
theorem np_117 : (parseMethodDescriptor (jx_mt 117).1.desc).map (fun d => d.parameters.length) = some 2 := by decide +kernel
theorem mc_118 : jx_c (jx_mk D c0 c1 c2 c3 c4 H0 ga L xs) (jx_mt 118) := ⟨Or.inr w_663, by decide +kernel, by decide⟩
theorem np_118 : (parseMethodDescriptor (jx_mt 118).1.desc).map (fun d => d.parameters.length) = some 2 := by decide +kernel
theorem mc_119 : jx_c (jx_mk D c0 c1 c2 c3 c4 H0 ga L xs) (jx_mt 119) := ⟨Or.inr w_664, by decide +kernel, by decide⟩
theorem np_119 : (parseMethodDescriptor (jx_mt 119).1.desc).map (fun d => d.parameters.length) = some 2 := by decide +kernel
theorem mc_120 : jx_c (jx_mk D c0 c1 c2 c3 c4 H0 ga L xs) (jx_mt 120) := ⟨Or.inr w_665, by decide +kernel, by decide⟩
theorem np_120 : (parseMethodDescriptor (jx_mt 120).1.desc).map (fun d => d.parameters.length) = some 3 := by decide +kernel
theorem mc_121 : jx_c (jx_mk D c0 c1 c2 c3 c4 H0 ga L xs) (jx_mt 121) := ⟨Or.inl ⟨w_666, rfl⟩, by decide +kernel, by decide⟩
theorem np_121 : (parseMethodDescriptor (jx_mt 121).1.desc).map (fun d => d.parameters.length) = some 2 := by decide +kernel
theorem mc_122 : jx_c (jx_mk D c0 c1 c2 c3 c4 H0 ga L xs) (jx_mt 122) := ⟨Or.inl ⟨w_667, rfl⟩, by decide +kernel, by decide⟩
theorem np_122 : (parseMethodDescriptor (jx_mt 122).1.desc).map (fun d => d.parameters.length) = some 2 := by decide +kernel
theorem mc_123 : jx_c (jx_mk D c0 c1 c2 c3 c4 H0 ga L xs) (jx_mt 123) := ⟨Or.inl ⟨w_668, rfl⟩, by decide +kernel, by decide⟩
theorem np_123 : (parseMethodDescriptor (jx_mt 123).1.desc).map (fun d => d.parameters.length) = some 2 := by decide +kernel
theorem mc_124 : jx_c (jx_mk D c0 c1 c2 c3 c4 H0 ga L xs) (jx_mt 124) := ⟨Or.inl ⟨w_669, rfl⟩, by decide +kernel, by decide⟩
theorem np_124 : (parseMethodDescriptor (jx_mt 124).1.desc).map (fun d => d.parameters.length) = some 1 := by decide +kernel
theorem mc_125 : jx_c (jx_mk D c0 c1 c2 c3 c4 H0 ga L xs) (jx_mt 125) := ⟨Or.inl ⟨w_670, rfl⟩, by decide +kernel, by decide⟩
theorem np_125 : (parseMethodDescriptor (jx_mt 125).1.desc).map (fun d => d.parameters.length) = some 1 := by decide +kernel
theorem mc_126 : jx_c (jx_mk D c0 c1 c2 c3 c4 H0 ga L xs) (jx_mt 126) := ⟨Or.inl ⟨w_671, rfl⟩, by decide +kernel, by decide⟩
theorem np_126 : (parseMethodDescriptor (jx_mt 126).1.desc).map (fun d => d.parameters.length) = some 2 := by decide +kernel
theorem mc_127 : jx_c (jx_mk D c0 c1 c2 c3 c4 H0 ga L xs) (jx_mt 127) := ⟨Or.inl ⟨w_672, rfl⟩, by decide +kernel, by decide⟩
theorem np_127 : (parseMethodDescriptor (jx_mt 127).1.desc).map (fun d => d.parameters.length) = some 0 := by decide +kernel
theorem mc_128 : jx_c (jx_mk D c0 c1 c2 c3 c4 H0 ga L xs) (jx_mt 128) := ⟨Or.inl ⟨w_673, rfl⟩, by decide +kernel, by decide⟩
theorem np_128 : (parseMethodDescriptor (jx_mt 128).1.desc).map (fun d => d.parameters.length) = some 0 := by decide +kernel
theorem mc_129 : jx_c (jx_mk D c0 c1 c2 c3 c4 H0 ga L xs) (jx_mt 129) := ⟨Or.inl ⟨w_674, rfl⟩, by decide +kernel, by decide⟩
theorem np_129 : (parseMethodDescriptor (jx_mt 129).1.desc).map (fun d => d.parameters.length) = some 0 := by decide +kernel
theorem mc_130 : jx_c (jx_mk D c0 c1 c2 c3 c4 H0 ga L xs) (jx_mt 130) := ⟨Or.inl ⟨w_675, rfl⟩, by decide +kernel, by decide⟩
theorem np_130 : (parseMethodDescriptor (jx_mt 130).1.desc).map (fun d => d.parameters.length) = some 1 := by decide +kernel
theorem mc_131 : jx_c (jx_mk D c0 c1 c2 c3 c4 H0 ga L xs) (jx_mt 131) := ⟨Or.inl ⟨w_676, rfl⟩, by decide +kernel, by decide⟩
theorem np_131 : (parseMethodDescriptor (jx_mt 131).1.desc).map (fun d => d.parameters.length) = some 4 := by decide +kernel
theorem mc_132 : jx_c (jx_mk D c0 c1 c2 c3 c4 H0 ga L xs) (jx_mt 132) := ⟨Or.inl ⟨w_677, rfl⟩, by decide +kernel, by decide⟩
theorem np_132 : (parseMethodDescriptor (jx_mt 132).1.desc).map (fun d => d.parameters.length) = some 4 := by decide +kernel
end JN
