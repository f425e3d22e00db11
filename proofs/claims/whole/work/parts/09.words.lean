/-! classes, fields, words, by program -/
def kT_A : u_T := fun k => match k with
  | 0 => ("AllocateSolve", "floor", "LAllocateSolve$Floor;", true)
  | 1 => ("AllocateSolve", "lots", "LAllocateSolve$Lots;", true)
  | 2 => ("AllocateSolve", "lines", "LAllocateSolve$Lines;", true)
  | 3 => ("AllocateSolve", "search", "LAllocateSolve$Search;", true)
  | _ => ("AllocateSolve", "solvedExactly", "Z", false)
def kt_A : Nat → FieldType := fun k => match k with
  | 0 => .object "AllocateSolve$Floor"
  | 1 => .object "AllocateSolve$Lots"
  | 2 => .object "AllocateSolve$Lines"
  | 3 => .object "AllocateSolve$Search"
  | _ => .boolean
theorem kn_A : ∀ a, a < 5 → ∀ b, b < 5 → a ≠ b → (kT_A a).2.1 ≠ (kT_A b).2.1 := by decide +kernel
theorem ko_A : ∀ k, k < 5 → parseFieldDescriptor (kT_A k).2.2.1 = some (kt_A k) := by decide +kernel
def kT_F : u_T := fun k => match k with
  | 0 => ("AllocateSolve$Floor", "lots", "LAllocateSolve$Lots;", true)
  | _ => ("AllocateSolve$Floor", "lines", "LAllocateSolve$Lines;", true)
def kt_F : Nat → FieldType := fun k => match k with
  | 0 => .object "AllocateSolve$Lots"
  | _ => .object "AllocateSolve$Lines"
theorem kn_F : ∀ a, a < 2 → ∀ b, b < 2 → a ≠ b → (kT_F a).2.1 ≠ (kT_F b).2.1 := by decide +kernel
theorem ko_F : ∀ k, k < 2 → parseFieldDescriptor (kT_F k).2.2.1 = some (kt_F k) := by decide +kernel
def kT_N : u_T := fun k => match k with
  | 0 => ("AllocateSolve$Lines", "size", "I", false)
  | 1 => ("AllocateSolve$Lines", "good", "[I", true)
  | 2 => ("AllocateSolve$Lines", "want", "[I", true)
  | 3 => ("AllocateSolve$Lines", "barred", "[I", true)
  | 4 => ("AllocateSolve$Lines", "rules", "[[I", true)
  | 5 => ("AllocateSolve$Lines", "told", "[[I", true)
  | _ => ("AllocateSolve$Lines", "gifts", "[[I", true)
def kt_N : Nat → FieldType := fun k => match k with
  | 0 => .int
  | 1 => .array .int
  | 2 => .array .int
  | 3 => .array .int
  | 4 => .array (.array .int)
  | 5 => .array (.array .int)
  | _ => .array (.array .int)
theorem kn_N : ∀ a, a < 7 → ∀ b, b < 7 → a ≠ b → (kT_N a).2.1 ≠ (kT_N b).2.1 := by decide +kernel
theorem ko_N : ∀ k, k < 7 → parseFieldDescriptor (kT_N k).2.2.1 = some (kt_N k) := by decide +kernel
def kT_T : u_T := fun k => match k with
  | 0 => ("AllocateSolve$Lots", "size", "I", false)
  | 1 => ("AllocateSolve$Lots", "place", "[I", true)
  | 2 => ("AllocateSolve$Lots", "good", "[I", true)
  | 3 => ("AllocateSolve$Lots", "until", "[I", true)
  | 4 => ("AllocateSolve$Lots", "pieces", "[I", true)
  | 5 => ("AllocateSolve$Lots", "free", "[I", true)
  | _ => ("AllocateSolve$Lots", "order", "[I", true)
def kt_T : Nat → FieldType := fun k => match k with
  | 0 => .int
  | 1 => .array .int
  | 2 => .array .int
  | 3 => .array .int
  | 4 => .array .int
  | 5 => .array .int
  | _ => .array .int
theorem kn_T : ∀ a, a < 7 → ∀ b, b < 7 → a ≠ b → (kT_T a).2.1 ≠ (kT_T b).2.1 := by decide +kernel
theorem ko_T : ∀ k, k < 7 → parseFieldDescriptor (kT_T k).2.2.1 = some (kt_T k) := by decide +kernel
def kT_S : u_T := fun k => match k with
  | 0 => ("AllocateSolve$Search", "floor", "LAllocateSolve$Floor;", true)
  | 1 => ("AllocateSolve$Search", "lots", "LAllocateSolve$Lots;", true)
  | 2 => ("AllocateSolve$Search", "lines", "LAllocateSolve$Lines;", true)
  | 3 => ("AllocateSolve$Search", "allowed", "[[I", true)
  | 4 => ("AllocateSolve$Search", "allowedCount", "[I", true)
  | 5 => ("AllocateSolve$Search", "tried", "[I", true)
  | 6 => ("AllocateSolve$Search", "best", "[I", true)
  | 7 => ("AllocateSolve$Search", "restBound", "[I", true)
  | _ => ("AllocateSolve$Search", "bestCost", "I", false)
def kt_S : Nat → FieldType := fun k => match k with
  | 0 => .object "AllocateSolve$Floor"
  | 1 => .object "AllocateSolve$Lots"
  | 2 => .object "AllocateSolve$Lines"
  | 3 => .array (.array .int)
  | 4 => .array .int
  | 5 => .array .int
  | 6 => .array .int
  | 7 => .array .int
  | _ => .int
theorem kn_S : ∀ a, a < 9 → ∀ b, b < 9 → a ≠ b → (kT_S a).2.1 ≠ (kT_S b).2.1 := by decide +kernel
theorem ko_S : ∀ k, k < 9 → parseFieldDescriptor (kT_S k).2.2.1 = some (kt_S k) := by decide +kernel
def kT_M : u_T := fun k => match k with
  | 0 => ("AllocateSolveModel", "code", "I", false)
  | 1 => ("AllocateSolveModel", "lots", "I", false)
  | 2 => ("AllocateSolveModel", "place", "[I", true)
  | 3 => ("AllocateSolveModel", "good", "[I", true)
  | 4 => ("AllocateSolveModel", "pieces", "[I", true)
  | 5 => ("AllocateSolveModel", "until", "[I", true)
  | 6 => ("AllocateSolveModel", "lines", "I", false)
  | 7 => ("AllocateSolveModel", "wish", "[I", true)
  | 8 => ("AllocateSolveModel", "many", "[I", true)
  | 9 => ("AllocateSolveModel", "rules", "[I", true)
  | 10 => ("AllocateSolveModel", "told", "[I", true)
  | 11 => ("AllocateSolveModel", "barred", "[Z", true)
  | 12 => ("AllocateSolveModel", "holds", "[I", true)
  | 13 => ("AllocateSolveModel", "exact", "Z", false)
  | 14 => ("AllocateSolveModel", "allowed", "[I", true)
  | 15 => ("AllocateSolveModel", "allowedCount", "[I", true)
  | 16 => ("AllocateSolveModel", "sets", "[I", true)
  | 17 => ("AllocateSolveModel", "bestSets", "[I", true)
  | 18 => ("AllocateSolveModel", "rest", "[I", true)
  | 19 => ("AllocateSolveModel", "spent", "[I", true)
  | _ => ("AllocateSolveModel", "taken", "[I", true)
def kt_M : Nat → FieldType := fun k => match k with
  | 0 => .int
  | 1 => .int
  | 2 => .array .int
  | 3 => .array .int
  | 4 => .array .int
  | 5 => .array .int
  | 6 => .int
  | 7 => .array .int
  | 8 => .array .int
  | 9 => .array .int
  | 10 => .array .int
  | 11 => .array .boolean
  | 12 => .array .int
  | 13 => .boolean
  | 14 => .array .int
  | 15 => .array .int
  | 16 => .array .int
  | 17 => .array .int
  | 18 => .array .int
  | 19 => .array .int
  | _ => .array .int
theorem kn_M : ∀ a, a < 21 → ∀ b, b < 21 → a ≠ b → (kT_M a).2.1 ≠ (kT_M b).2.1 := by decide +kernel
theorem ko_M : ∀ k, k < 21 → parseFieldDescriptor (kT_M k).2.2.1 = some (kt_M k) := by decide +kernel
def am_cl : List vw_C := [("AllocateSolve", kT_A, 5), ("AllocateSolve$Floor", kT_F, 2), ("AllocateSolve$Lines", kT_N, 7), ("AllocateSolve$Lots", kT_T, 7), ("AllocateSolve$Search", kT_S, 9), ("AllocateSolveModel", kT_M, 21)]
def am_ty : Nat → Nat → FieldType := fun c => match c with
  | 0 => kt_A
  | 1 => kt_F
  | 2 => kt_N
  | 3 => kt_T
  | 4 => kt_S
  | _ => kt_M
theorem kw_in {i : Nat} {w : Cond} (h : tables_1[i]? = some w) : w ∈ lw_tbl := List.mem_append_right _ (List.mem_of_getElem? h)
/-! the words of tables_1 by their places, by program -/
set_option maxRecDepth 50000 in
theorem kw_0 : tables_1[0]? = some (Jvm.Cond.initialized "AllocateSolveLaw") := rfl
set_option maxRecDepth 50000 in
theorem kw_1 : tables_1[1]? = some (Jvm.Cond.initialized "AllocateSolve") := rfl
set_option maxRecDepth 50000 in
theorem kw_2 : tables_1[2]? = some (Jvm.Cond.initialized "AllocateSolve$Search") := rfl
set_option maxRecDepth 50000 in
theorem kw_3 : tables_1[3]? = some (Jvm.Cond.initialized "AllocateSolve$Floor") := rfl
set_option maxRecDepth 50000 in
theorem kw_4 : tables_1[4]? = some (Jvm.Cond.initialized "AllocateSolve$Lots") := rfl
set_option maxRecDepth 50000 in
theorem kw_5 : tables_1[5]? = some (Jvm.Cond.initialized "AllocateSolve$Lines") := rfl
set_option maxRecDepth 50000 in
theorem kw_6 : tables_1[6]? = some (Jvm.Cond.initialized "AllocateSolveModel") := rfl
set_option maxRecDepth 50000 in
theorem kw_7 : tables_1[7]? = some (Jvm.Cond.initialized "java/lang/Throwable") := rfl
set_option maxRecDepth 50000 in
theorem kw_8 : tables_1[8]? = some (Jvm.Cond.initialized "java/lang/Exception") := rfl
set_option maxRecDepth 50000 in
theorem kw_9 : tables_1[9]? = some (Jvm.Cond.initialized "java/lang/RuntimeException") := rfl
set_option maxRecDepth 50000 in
theorem kw_10 : tables_1[10]? = some (Jvm.Cond.initialized "java/lang/IllegalArgumentException") := rfl
set_option maxRecDepth 50000 in
theorem kw_11 : tables_1[11]? = some (Jvm.Cond.initialized "java/lang/UnsupportedOperationException") := rfl
set_option maxRecDepth 50000 in
theorem kw_12 : tables_1[12]? = some (Jvm.Cond.initialized "java/util/NoSuchElementException") := rfl
set_option maxRecDepth 50000 in
theorem kw_13 : tables_1[13]? = some (Jvm.Cond.initialized "java/lang/Math") := rfl
set_option maxRecDepth 50000 in
theorem kw_14 : tables_1[14]? = some (Jvm.Cond.initialized "java/lang/Integer") := rfl
set_option maxRecDepth 50000 in
theorem kw_15 : tables_1[15]? = some (Jvm.Cond.initialized "java/lang/IllegalStateException") := rfl
set_option maxRecDepth 50000 in
theorem kw_16 : tables_1[16]? = some (Jvm.Cond.initialized "java/lang/ArithmeticException") := rfl
set_option maxRecDepth 50000 in
theorem kw_17 : tables_1[17]? = some (Jvm.Cond.classLink "AllocateSolveLaw" (8 : Nat) "AllocateSolve") := rfl
set_option maxRecDepth 50000 in
theorem kw_18 : tables_1[18]? = some (Jvm.Cond.instantiable "AllocateSolve" (5 : Nat)) := rfl
set_option maxRecDepth 50000 in
theorem kw_19 : tables_1[19]? = some (Jvm.Cond.methodLink "AllocateSolveLaw" (67 : Nat) ⟨"AllocateSolve", "<init>", "()V"⟩) := rfl
set_option maxRecDepth 50000 in
theorem kw_20 : tables_1[20]? = some (Jvm.Cond.instanceMethod ⟨"AllocateSolve", "<init>", "()V"⟩) := rfl
set_option maxRecDepth 50000 in
theorem kw_21 : tables_1[21]? = some (Jvm.Cond.code ⟨"AllocateSolve", "<init>", "()V"⟩ prog_1_method_1_code (1 : Nat) (Option.none : Option Jvm.ClassFile.FieldType)) := rfl
set_option maxRecDepth 50000 in
theorem kw_22 : tables_1[22]? = some (Jvm.Cond.methodLink "AllocateSolve" (1 : Nat) ⟨"java/lang/Object", "<init>", "()V"⟩) := rfl
set_option maxRecDepth 50000 in
theorem kw_23 : tables_1[23]? = some (Jvm.Cond.instanceMethod ⟨"java/lang/Object", "<init>", "()V"⟩) := rfl
set_option maxRecDepth 50000 in
theorem kw_24 : tables_1[24]? = some (Jvm.Cond.code ⟨"java/lang/Object", "<init>", "()V"⟩ object_method_1_code (1 : Nat) (Option.none : Option Jvm.ClassFile.FieldType)) := rfl
set_option maxRecDepth 50000 in
theorem kw_25 : tables_1[25]? = some (Jvm.Cond.classLink "AllocateSolve" (7 : Nat) "AllocateSolve$Search") := rfl
set_option maxRecDepth 50000 in
theorem kw_26 : tables_1[26]? = some (Jvm.Cond.instantiable "AllocateSolve$Search" (9 : Nat)) := rfl
set_option maxRecDepth 50000 in
theorem kw_27 : tables_1[27]? = some (Jvm.Cond.methodLinkNest "AllocateSolve" (9 : Nat) ⟨"AllocateSolve$Search", "<init>", "()V"⟩ "AllocateSolve") := rfl
set_option maxRecDepth 50000 in
theorem kw_28 : tables_1[28]? = some (Jvm.Cond.instanceMethod ⟨"AllocateSolve$Search", "<init>", "()V"⟩) := rfl
set_option maxRecDepth 50000 in
theorem kw_29 : tables_1[29]? = some (Jvm.Cond.code ⟨"AllocateSolve$Search", "<init>", "()V"⟩ prog_5_method_1_code (1 : Nat) (Option.none : Option Jvm.ClassFile.FieldType)) := rfl
set_option maxRecDepth 50000 in
theorem kw_30 : tables_1[30]? = some (Jvm.Cond.methodLink "AllocateSolve$Search" (3 : Nat) ⟨"java/lang/Object", "<init>", "()V"⟩) := rfl
set_option maxRecDepth 50000 in
theorem kw_31 : tables_1[31]? = some (Jvm.Cond.classLink "AllocateSolve$Search" (9 : Nat) "AllocateSolve$Floor") := rfl
set_option maxRecDepth 50000 in
theorem kw_32 : tables_1[32]? = some (Jvm.Cond.instantiable "AllocateSolve$Floor" (2 : Nat)) := rfl
set_option maxRecDepth 50000 in
theorem kw_33 : tables_1[33]? = some (Jvm.Cond.methodLinkNest "AllocateSolve$Search" (11 : Nat) ⟨"AllocateSolve$Floor", "<init>", "()V"⟩ "AllocateSolve") := rfl
set_option maxRecDepth 50000 in
theorem kw_34 : tables_1[34]? = some (Jvm.Cond.instanceMethod ⟨"AllocateSolve$Floor", "<init>", "()V"⟩) := rfl
set_option maxRecDepth 50000 in
theorem kw_35 : tables_1[35]? = some (Jvm.Cond.code ⟨"AllocateSolve$Floor", "<init>", "()V"⟩ prog_2_method_1_code (1 : Nat) (Option.none : Option Jvm.ClassFile.FieldType)) := rfl
set_option maxRecDepth 50000 in
theorem kw_36 : tables_1[36]? = some (Jvm.Cond.methodLink "AllocateSolve$Floor" (3 : Nat) ⟨"java/lang/Object", "<init>", "()V"⟩) := rfl
set_option maxRecDepth 50000 in
theorem kw_37 : tables_1[37]? = some (Jvm.Cond.classLink "AllocateSolve$Floor" (9 : Nat) "AllocateSolve$Lots") := rfl
set_option maxRecDepth 50000 in
theorem kw_38 : tables_1[38]? = some (Jvm.Cond.instantiable "AllocateSolve$Lots" (7 : Nat)) := rfl
set_option maxRecDepth 50000 in
theorem kw_39 : tables_1[39]? = some (Jvm.Cond.methodLinkNest "AllocateSolve$Floor" (11 : Nat) ⟨"AllocateSolve$Lots", "<init>", "()V"⟩ "AllocateSolve") := rfl
set_option maxRecDepth 50000 in
theorem kw_40 : tables_1[40]? = some (Jvm.Cond.instanceMethod ⟨"AllocateSolve$Lots", "<init>", "()V"⟩) := rfl
set_option maxRecDepth 50000 in
theorem kw_41 : tables_1[41]? = some (Jvm.Cond.code ⟨"AllocateSolve$Lots", "<init>", "()V"⟩ prog_4_method_1_code (1 : Nat) (Option.none : Option Jvm.ClassFile.FieldType)) := rfl
set_option maxRecDepth 50000 in
theorem kw_42 : tables_1[42]? = some (Jvm.Cond.methodLink "AllocateSolve$Lots" (3 : Nat) ⟨"java/lang/Object", "<init>", "()V"⟩) := rfl
set_option maxRecDepth 50000 in
theorem kw_43 : tables_1[43]? = some (Jvm.Cond.fieldLink "AllocateSolve$Lots" (30 : Nat) "AllocateSolve$Lots" "size" "I") := rfl
set_option maxRecDepth 50000 in
theorem kw_44 : tables_1[44]? = some (Jvm.Cond.fieldLink "AllocateSolve$Search" (52 : Nat) "AllocateSolve$Lots" "size" "I") := rfl
set_option maxRecDepth 50000 in
theorem kw_45 : tables_1[45]? = some (Jvm.Cond.fieldLink "AllocateSolve" (41 : Nat) "AllocateSolve$Lots" "size" "I") := rfl
set_option maxRecDepth 50000 in
theorem kw_46 : tables_1[46]? = some (Jvm.Cond.fieldLink "AllocateSolve$Floor" (48 : Nat) "AllocateSolve$Lots" "size" "I") := rfl
set_option maxRecDepth 50000 in
theorem kw_47 : tables_1[47]? = some (Jvm.Cond.fieldLink "AllocateSolve$Lots" (9 : Nat) "AllocateSolve$Lots" "place" "[I") := rfl
set_option maxRecDepth 50000 in
theorem kw_48 : tables_1[48]? = some (Jvm.Cond.fieldLink "AllocateSolve$Floor" (60 : Nat) "AllocateSolve$Lots" "place" "[I") := rfl
set_option maxRecDepth 50000 in
theorem kw_49 : tables_1[49]? = some (Jvm.Cond.fieldLink "AllocateSolve$Lots" (15 : Nat) "AllocateSolve$Lots" "good" "[I") := rfl
set_option maxRecDepth 50000 in
theorem kw_50 : tables_1[50]? = some (Jvm.Cond.fieldLink "AllocateSolve$Floor" (25 : Nat) "AllocateSolve$Lots" "good" "[I") := rfl
set_option maxRecDepth 50000 in
theorem kw_51 : tables_1[51]? = some (Jvm.Cond.fieldLink "AllocateSolve$Lots" (18 : Nat) "AllocateSolve$Lots" "until" "[I") := rfl
set_option maxRecDepth 50000 in
theorem kw_52 : tables_1[52]? = some (Jvm.Cond.fieldLink "AllocateSolve$Floor" (30 : Nat) "AllocateSolve$Lots" "until" "[I") := rfl
set_option maxRecDepth 50000 in
theorem kw_53 : tables_1[53]? = some (Jvm.Cond.fieldLink "AllocateSolve$Lots" (21 : Nat) "AllocateSolve$Lots" "pieces" "[I") := rfl
set_option maxRecDepth 50000 in
theorem kw_54 : tables_1[54]? = some (Jvm.Cond.fieldLink "AllocateSolve" (133 : Nat) "AllocateSolve$Lots" "pieces" "[I") := rfl
set_option maxRecDepth 50000 in
theorem kw_55 : tables_1[55]? = some (Jvm.Cond.fieldLink "AllocateSolve$Floor" (101 : Nat) "AllocateSolve$Lots" "pieces" "[I") := rfl
set_option maxRecDepth 50000 in
theorem kw_56 : tables_1[56]? = some (Jvm.Cond.fieldLink "AllocateSolve$Lots" (24 : Nat) "AllocateSolve$Lots" "free" "[I") := rfl
set_option maxRecDepth 50000 in
theorem kw_57 : tables_1[57]? = some (Jvm.Cond.fieldLink "AllocateSolve$Floor" (41 : Nat) "AllocateSolve$Lots" "free" "[I") := rfl
set_option maxRecDepth 50000 in
theorem kw_58 : tables_1[58]? = some (Jvm.Cond.fieldLink "AllocateSolve$Search" (119 : Nat) "AllocateSolve$Lots" "free" "[I") := rfl
set_option maxRecDepth 50000 in
theorem kw_59 : tables_1[59]? = some (Jvm.Cond.fieldLink "AllocateSolve" (136 : Nat) "AllocateSolve$Lots" "free" "[I") := rfl
set_option maxRecDepth 50000 in
theorem kw_60 : tables_1[60]? = some (Jvm.Cond.fieldLink "AllocateSolve$Lots" (27 : Nat) "AllocateSolve$Lots" "order" "[I") := rfl
set_option maxRecDepth 50000 in
theorem kw_61 : tables_1[61]? = some (Jvm.Cond.fieldLink "AllocateSolve$Search" (55 : Nat) "AllocateSolve$Lots" "order" "[I") := rfl
set_option maxRecDepth 50000 in
theorem kw_62 : tables_1[62]? = some (Jvm.Cond.fieldLink "AllocateSolve$Floor" (77 : Nat) "AllocateSolve$Lots" "order" "[I") := rfl
set_option maxRecDepth 50000 in
theorem kw_63 : tables_1[63]? = some (Jvm.Cond.lays "AllocateSolve$Lots" "AllocateSolve$Lots" "size" "I") := rfl
set_option maxRecDepth 50000 in
theorem kw_65 : tables_1[65]? = some (Jvm.Cond.laysFinal "AllocateSolve$Lots" "AllocateSolve$Lots" "place" "[I") := rfl
set_option maxRecDepth 50000 in
theorem kw_67 : tables_1[67]? = some (Jvm.Cond.laysFinal "AllocateSolve$Lots" "AllocateSolve$Lots" "good" "[I") := rfl
set_option maxRecDepth 50000 in
theorem kw_69 : tables_1[69]? = some (Jvm.Cond.laysFinal "AllocateSolve$Lots" "AllocateSolve$Lots" "until" "[I") := rfl
set_option maxRecDepth 50000 in
theorem kw_71 : tables_1[71]? = some (Jvm.Cond.laysFinal "AllocateSolve$Lots" "AllocateSolve$Lots" "pieces" "[I") := rfl
set_option maxRecDepth 50000 in
theorem kw_73 : tables_1[73]? = some (Jvm.Cond.laysFinal "AllocateSolve$Lots" "AllocateSolve$Lots" "free" "[I") := rfl
set_option maxRecDepth 50000 in
theorem kw_75 : tables_1[75]? = some (Jvm.Cond.laysFinal "AllocateSolve$Lots" "AllocateSolve$Lots" "order" "[I") := rfl
set_option maxRecDepth 50000 in
theorem kw_78 : tables_1[78]? = some (Jvm.Cond.arrayClass Jvm.ClassFile.FieldType.int) := rfl
set_option maxRecDepth 50000 in
theorem kw_79 : tables_1[79]? = some (Jvm.Cond.classLink "AllocateSolve$Floor" (18 : Nat) "AllocateSolve$Lines") := rfl
set_option maxRecDepth 50000 in
theorem kw_80 : tables_1[80]? = some (Jvm.Cond.instantiable "AllocateSolve$Lines" (7 : Nat)) := rfl
set_option maxRecDepth 50000 in
theorem kw_81 : tables_1[81]? = some (Jvm.Cond.methodLinkNest "AllocateSolve$Floor" (20 : Nat) ⟨"AllocateSolve$Lines", "<init>", "()V"⟩ "AllocateSolve") := rfl
set_option maxRecDepth 50000 in
theorem kw_82 : tables_1[82]? = some (Jvm.Cond.instanceMethod ⟨"AllocateSolve$Lines", "<init>", "()V"⟩) := rfl
set_option maxRecDepth 50000 in
theorem kw_83 : tables_1[83]? = some (Jvm.Cond.code ⟨"AllocateSolve$Lines", "<init>", "()V"⟩ prog_3_method_1_code (1 : Nat) (Option.none : Option Jvm.ClassFile.FieldType)) := rfl
set_option maxRecDepth 50000 in
theorem kw_84 : tables_1[84]? = some (Jvm.Cond.methodLink "AllocateSolve$Lines" (3 : Nat) ⟨"java/lang/Object", "<init>", "()V"⟩) := rfl
set_option maxRecDepth 50000 in
theorem kw_85 : tables_1[85]? = some (Jvm.Cond.classLink "AllocateSolve$Lines" (21 : Nat) "[[I") := rfl
set_option maxRecDepth 50000 in
theorem kw_86 : tables_1[86]? = some (Jvm.Cond.arrayOver (Jvm.ClassFile.FieldType.array Jvm.ClassFile.FieldType.int)) := rfl
set_option maxRecDepth 50000 in
theorem kw_87 : tables_1[87]? = some (Jvm.Cond.fieldLink "AllocateSolve$Lines" (32 : Nat) "AllocateSolve$Lines" "size" "I") := rfl
set_option maxRecDepth 50000 in
theorem kw_88 : tables_1[88]? = some (Jvm.Cond.fieldLink "AllocateSolve$Search" (46 : Nat) "AllocateSolve$Lines" "size" "I") := rfl
set_option maxRecDepth 50000 in
theorem kw_89 : tables_1[89]? = some (Jvm.Cond.fieldLink "AllocateSolve" (58 : Nat) "AllocateSolve$Lines" "size" "I") := rfl
set_option maxRecDepth 50000 in
theorem kw_90 : tables_1[90]? = some (Jvm.Cond.fieldLink "AllocateSolve$Floor" (63 : Nat) "AllocateSolve$Lines" "size" "I") := rfl
set_option maxRecDepth 50000 in
theorem kw_91 : tables_1[91]? = some (Jvm.Cond.fieldLink "AllocateSolve$Lines" (9 : Nat) "AllocateSolve$Lines" "good" "[I") := rfl
set_option maxRecDepth 50000 in
theorem kw_92 : tables_1[92]? = some (Jvm.Cond.fieldLink "AllocateSolve$Floor" (29 : Nat) "AllocateSolve$Lines" "good" "[I") := rfl
set_option maxRecDepth 50000 in
theorem kw_93 : tables_1[93]? = some (Jvm.Cond.fieldLink "AllocateSolve$Lines" (15 : Nat) "AllocateSolve$Lines" "want" "[I") := rfl
set_option maxRecDepth 50000 in
theorem kw_94 : tables_1[94]? = some (Jvm.Cond.fieldLink "AllocateSolve$Floor" (68 : Nat) "AllocateSolve$Lines" "want" "[I") := rfl
set_option maxRecDepth 50000 in
theorem kw_95 : tables_1[95]? = some (Jvm.Cond.fieldLink "AllocateSolve$Search" (116 : Nat) "AllocateSolve$Lines" "want" "[I") := rfl
set_option maxRecDepth 50000 in
theorem kw_96 : tables_1[96]? = some (Jvm.Cond.fieldLink "AllocateSolve" (156 : Nat) "AllocateSolve$Lines" "want" "[I") := rfl
set_option maxRecDepth 50000 in
theorem kw_97 : tables_1[97]? = some (Jvm.Cond.fieldLink "AllocateSolve$Lines" (18 : Nat) "AllocateSolve$Lines" "barred" "[I") := rfl
set_option maxRecDepth 50000 in
theorem kw_98 : tables_1[98]? = some (Jvm.Cond.fieldLink "AllocateSolve$Lines" (23 : Nat) "AllocateSolve$Lines" "rules" "[[I") := rfl
set_option maxRecDepth 50000 in
theorem kw_99 : tables_1[99]? = some (Jvm.Cond.fieldLink "AllocateSolve$Floor" (33 : Nat) "AllocateSolve$Lines" "rules" "[[I") := rfl
set_option maxRecDepth 50000 in
theorem kw_100 : tables_1[100]? = some (Jvm.Cond.fieldLink "AllocateSolve$Search" (62 : Nat) "AllocateSolve$Lines" "rules" "[[I") := rfl
set_option maxRecDepth 50000 in
theorem kw_101 : tables_1[101]? = some (Jvm.Cond.fieldLink "AllocateSolve" (77 : Nat) "AllocateSolve$Lines" "rules" "[[I") := rfl
set_option maxRecDepth 50000 in
theorem kw_102 : tables_1[102]? = some (Jvm.Cond.fieldLink "AllocateSolve$Lines" (26 : Nat) "AllocateSolve$Lines" "told" "[[I") := rfl
set_option maxRecDepth 50000 in
theorem kw_103 : tables_1[103]? = some (Jvm.Cond.fieldLink "AllocateSolve$Floor" (57 : Nat) "AllocateSolve$Lines" "told" "[[I") := rfl
set_option maxRecDepth 50000 in
theorem kw_104 : tables_1[104]? = some (Jvm.Cond.fieldLink "AllocateSolve" (84 : Nat) "AllocateSolve$Lines" "told" "[[I") := rfl
set_option maxRecDepth 50000 in
theorem kw_105 : tables_1[105]? = some (Jvm.Cond.fieldLink "AllocateSolve$Lines" (29 : Nat) "AllocateSolve$Lines" "gifts" "[[I") := rfl
set_option maxRecDepth 50000 in
theorem kw_106 : tables_1[106]? = some (Jvm.Cond.fieldLink "AllocateSolve$Floor" (80 : Nat) "AllocateSolve$Lines" "gifts" "[[I") := rfl
set_option maxRecDepth 50000 in
theorem kw_107 : tables_1[107]? = some (Jvm.Cond.fieldLink "AllocateSolve" (127 : Nat) "AllocateSolve$Lines" "gifts" "[[I") := rfl
set_option maxRecDepth 50000 in
theorem kw_108 : tables_1[108]? = some (Jvm.Cond.lays "AllocateSolve$Lines" "AllocateSolve$Lines" "size" "I") := rfl
set_option maxRecDepth 50000 in
theorem kw_110 : tables_1[110]? = some (Jvm.Cond.laysFinal "AllocateSolve$Lines" "AllocateSolve$Lines" "good" "[I") := rfl
set_option maxRecDepth 50000 in
theorem kw_112 : tables_1[112]? = some (Jvm.Cond.laysFinal "AllocateSolve$Lines" "AllocateSolve$Lines" "want" "[I") := rfl
set_option maxRecDepth 50000 in
theorem kw_114 : tables_1[114]? = some (Jvm.Cond.laysFinal "AllocateSolve$Lines" "AllocateSolve$Lines" "barred" "[I") := rfl
set_option maxRecDepth 50000 in
theorem kw_116 : tables_1[116]? = some (Jvm.Cond.laysFinal "AllocateSolve$Lines" "AllocateSolve$Lines" "rules" "[[I") := rfl
set_option maxRecDepth 50000 in
theorem kw_118 : tables_1[118]? = some (Jvm.Cond.laysFinal "AllocateSolve$Lines" "AllocateSolve$Lines" "told" "[[I") := rfl
set_option maxRecDepth 50000 in
theorem kw_120 : tables_1[120]? = some (Jvm.Cond.laysFinal "AllocateSolve$Lines" "AllocateSolve$Lines" "gifts" "[[I") := rfl
set_option maxRecDepth 50000 in
theorem kw_123 : tables_1[123]? = some (Jvm.Cond.fieldLink "AllocateSolve$Floor" (12 : Nat) "AllocateSolve$Floor" "lots" "LAllocateSolve$Lots;") := rfl
set_option maxRecDepth 50000 in
theorem kw_124 : tables_1[124]? = some (Jvm.Cond.fieldLink "AllocateSolve$Search" (18 : Nat) "AllocateSolve$Floor" "lots" "LAllocateSolve$Lots;") := rfl
set_option maxRecDepth 50000 in
theorem kw_125 : tables_1[125]? = some (Jvm.Cond.fieldLink "AllocateSolve" (21 : Nat) "AllocateSolve$Floor" "lots" "LAllocateSolve$Lots;") := rfl
set_option maxRecDepth 50000 in
theorem kw_126 : tables_1[126]? = some (Jvm.Cond.fieldLink "AllocateSolve$Floor" (21 : Nat) "AllocateSolve$Floor" "lines" "LAllocateSolve$Lines;") := rfl
set_option maxRecDepth 50000 in
theorem kw_127 : tables_1[127]? = some (Jvm.Cond.fieldLink "AllocateSolve$Search" (23 : Nat) "AllocateSolve$Floor" "lines" "LAllocateSolve$Lines;") := rfl
set_option maxRecDepth 50000 in
theorem kw_128 : tables_1[128]? = some (Jvm.Cond.fieldLink "AllocateSolve" (28 : Nat) "AllocateSolve$Floor" "lines" "LAllocateSolve$Lines;") := rfl
set_option maxRecDepth 50000 in
theorem kw_129 : tables_1[129]? = some (Jvm.Cond.laysFinal "AllocateSolve$Floor" "AllocateSolve$Floor" "lots" "LAllocateSolve$Lots;") := rfl
set_option maxRecDepth 50000 in
theorem kw_131 : tables_1[131]? = some (Jvm.Cond.laysFinal "AllocateSolve$Floor" "AllocateSolve$Floor" "lines" "LAllocateSolve$Lines;") := rfl
set_option maxRecDepth 50000 in
theorem kw_134 : tables_1[134]? = some (Jvm.Cond.classLink "AllocateSolve$Search" (28 : Nat) "[[I") := rfl
set_option maxRecDepth 50000 in
theorem kw_135 : tables_1[135]? = some (Jvm.Cond.fieldLink "AllocateSolve$Search" (12 : Nat) "AllocateSolve$Search" "floor" "LAllocateSolve$Floor;") := rfl
set_option maxRecDepth 50000 in
theorem kw_136 : tables_1[136]? = some (Jvm.Cond.fieldLink "AllocateSolve" (16 : Nat) "AllocateSolve$Search" "floor" "LAllocateSolve$Floor;") := rfl
set_option maxRecDepth 50000 in
theorem kw_137 : tables_1[137]? = some (Jvm.Cond.fieldLink "AllocateSolve$Search" (22 : Nat) "AllocateSolve$Search" "lots" "LAllocateSolve$Lots;") := rfl
set_option maxRecDepth 50000 in
theorem kw_138 : tables_1[138]? = some (Jvm.Cond.fieldLink "AllocateSolve$Search" (27 : Nat) "AllocateSolve$Search" "lines" "LAllocateSolve$Lines;") := rfl
set_option maxRecDepth 50000 in
theorem kw_139 : tables_1[139]? = some (Jvm.Cond.fieldLink "AllocateSolve$Search" (30 : Nat) "AllocateSolve$Search" "allowed" "[[I") := rfl
set_option maxRecDepth 50000 in
theorem kw_140 : tables_1[140]? = some (Jvm.Cond.fieldLink "AllocateSolve$Search" (33 : Nat) "AllocateSolve$Search" "allowedCount" "[I") := rfl
set_option maxRecDepth 50000 in
theorem kw_141 : tables_1[141]? = some (Jvm.Cond.fieldLink "AllocateSolve$Search" (37 : Nat) "AllocateSolve$Search" "tried" "[I") := rfl
set_option maxRecDepth 50000 in
theorem kw_142 : tables_1[142]? = some (Jvm.Cond.fieldLink "AllocateSolve$Search" (40 : Nat) "AllocateSolve$Search" "best" "[I") := rfl
set_option maxRecDepth 50000 in
theorem kw_143 : tables_1[143]? = some (Jvm.Cond.fieldLink "AllocateSolve$Search" (43 : Nat) "AllocateSolve$Search" "restBound" "[I") := rfl
set_option maxRecDepth 50000 in
theorem kw_144 : tables_1[144]? = some (Jvm.Cond.fieldLink "AllocateSolve$Search" (84 : Nat) "AllocateSolve$Search" "bestCost" "I") := rfl
set_option maxRecDepth 50000 in
theorem kw_145 : tables_1[145]? = some (Jvm.Cond.laysFinal "AllocateSolve$Search" "AllocateSolve$Search" "floor" "LAllocateSolve$Floor;") := rfl
set_option maxRecDepth 50000 in
theorem kw_147 : tables_1[147]? = some (Jvm.Cond.laysFinal "AllocateSolve$Search" "AllocateSolve$Search" "lots" "LAllocateSolve$Lots;") := rfl
set_option maxRecDepth 50000 in
theorem kw_149 : tables_1[149]? = some (Jvm.Cond.laysFinal "AllocateSolve$Search" "AllocateSolve$Search" "lines" "LAllocateSolve$Lines;") := rfl
set_option maxRecDepth 50000 in
theorem kw_151 : tables_1[151]? = some (Jvm.Cond.laysFinal "AllocateSolve$Search" "AllocateSolve$Search" "allowed" "[[I") := rfl
set_option maxRecDepth 50000 in
theorem kw_153 : tables_1[153]? = some (Jvm.Cond.laysFinal "AllocateSolve$Search" "AllocateSolve$Search" "allowedCount" "[I") := rfl
set_option maxRecDepth 50000 in
theorem kw_155 : tables_1[155]? = some (Jvm.Cond.laysFinal "AllocateSolve$Search" "AllocateSolve$Search" "tried" "[I") := rfl
set_option maxRecDepth 50000 in
theorem kw_157 : tables_1[157]? = some (Jvm.Cond.laysFinal "AllocateSolve$Search" "AllocateSolve$Search" "best" "[I") := rfl
set_option maxRecDepth 50000 in
theorem kw_159 : tables_1[159]? = some (Jvm.Cond.laysFinal "AllocateSolve$Search" "AllocateSolve$Search" "restBound" "[I") := rfl
set_option maxRecDepth 50000 in
theorem kw_161 : tables_1[161]? = some (Jvm.Cond.lays "AllocateSolve$Search" "AllocateSolve$Search" "bestCost" "I") := rfl
set_option maxRecDepth 50000 in
theorem kw_164 : tables_1[164]? = some (Jvm.Cond.fieldLink "AllocateSolve" (20 : Nat) "AllocateSolve" "floor" "LAllocateSolve$Floor;") := rfl
set_option maxRecDepth 50000 in
theorem kw_165 : tables_1[165]? = some (Jvm.Cond.fieldLink "AllocateSolve" (27 : Nat) "AllocateSolve" "lots" "LAllocateSolve$Lots;") := rfl
set_option maxRecDepth 50000 in
theorem kw_166 : tables_1[166]? = some (Jvm.Cond.fieldLink "AllocateSolve" (32 : Nat) "AllocateSolve" "lines" "LAllocateSolve$Lines;") := rfl
set_option maxRecDepth 50000 in
theorem kw_167 : tables_1[167]? = some (Jvm.Cond.fieldLink "AllocateSolve" (10 : Nat) "AllocateSolve" "search" "LAllocateSolve$Search;") := rfl
set_option maxRecDepth 50000 in
theorem kw_168 : tables_1[168]? = some (Jvm.Cond.fieldLink "AllocateSolve" (33 : Nat) "AllocateSolve" "solvedExactly" "Z") := rfl
set_option maxRecDepth 50000 in
theorem kw_169 : tables_1[169]? = some (Jvm.Cond.laysFinal "AllocateSolve" "AllocateSolve" "floor" "LAllocateSolve$Floor;") := rfl
set_option maxRecDepth 50000 in
theorem kw_171 : tables_1[171]? = some (Jvm.Cond.laysFinal "AllocateSolve" "AllocateSolve" "lots" "LAllocateSolve$Lots;") := rfl
set_option maxRecDepth 50000 in
theorem kw_173 : tables_1[173]? = some (Jvm.Cond.laysFinal "AllocateSolve" "AllocateSolve" "lines" "LAllocateSolve$Lines;") := rfl
set_option maxRecDepth 50000 in
theorem kw_175 : tables_1[175]? = some (Jvm.Cond.laysFinal "AllocateSolve" "AllocateSolve" "search" "LAllocateSolve$Search;") := rfl
set_option maxRecDepth 50000 in
theorem kw_177 : tables_1[177]? = some (Jvm.Cond.lays "AllocateSolve" "AllocateSolve" "solvedExactly" "Z") := rfl
set_option maxRecDepth 50000 in
theorem kw_180 : tables_1[180]? = some (Jvm.Cond.methodLink "AllocateSolveLaw" (100 : Nat) ⟨"AllocateSolve", "exact", "()Z"⟩) := rfl
set_option maxRecDepth 50000 in
theorem kw_181 : tables_1[181]? = some (Jvm.Cond.instanceMethod ⟨"AllocateSolve", "exact", "()Z"⟩) := rfl
set_option maxRecDepth 50000 in
theorem kw_182 : tables_1[182]? = some (Jvm.Cond.selects "AllocateSolve" ⟨"AllocateSolve", "exact", "()Z"⟩ ⟨"AllocateSolve", "exact", "()Z"⟩) := rfl
set_option maxRecDepth 50000 in
theorem kw_183 : tables_1[183]? = some (Jvm.Cond.code ⟨"AllocateSolve", "exact", "()Z"⟩ prog_1_method_8_code (1 : Nat) (Option.some Jvm.ClassFile.FieldType.boolean)) := rfl
set_option maxRecDepth 50000 in
theorem kw_184 : tables_1[184]? = some (Jvm.Cond.methodLink "AllocateSolveLaw" (105 : Nat) ⟨"AllocateSolve", "choices", "()I"⟩) := rfl
set_option maxRecDepth 50000 in
theorem kw_185 : tables_1[185]? = some (Jvm.Cond.instanceMethod ⟨"AllocateSolve", "choices", "()I"⟩) := rfl
set_option maxRecDepth 50000 in
theorem kw_186 : tables_1[186]? = some (Jvm.Cond.selects "AllocateSolve" ⟨"AllocateSolve", "choices", "()I"⟩ ⟨"AllocateSolve", "choices", "()I"⟩) := rfl
set_option maxRecDepth 50000 in
theorem kw_187 : tables_1[187]? = some (Jvm.Cond.code ⟨"AllocateSolve", "choices", "()I"⟩ prog_1_method_9_code (1 : Nat) (Option.some Jvm.ClassFile.FieldType.int)) := rfl
set_option maxRecDepth 50000 in
theorem kw_188 : tables_1[188]? = some (Jvm.Cond.methodLink "AllocateSolve" (96 : Nat) ⟨"AllocateSolve$Floor", "countChoices", "()I"⟩) := rfl
set_option maxRecDepth 50000 in
theorem kw_189 : tables_1[189]? = some (Jvm.Cond.instanceMethod ⟨"AllocateSolve$Floor", "countChoices", "()I"⟩) := rfl
set_option maxRecDepth 50000 in
theorem kw_190 : tables_1[190]? = some (Jvm.Cond.selects "AllocateSolve$Floor" ⟨"AllocateSolve$Floor", "countChoices", "()I"⟩ ⟨"AllocateSolve$Floor", "countChoices", "()I"⟩) := rfl
set_option maxRecDepth 50000 in
theorem kw_191 : tables_1[191]? = some (Jvm.Cond.code ⟨"AllocateSolve$Floor", "countChoices", "()I"⟩ prog_2_method_6_code (4 : Nat) (Option.some Jvm.ClassFile.FieldType.int)) := rfl
set_option maxRecDepth 50000 in
theorem kw_192 : tables_1[192]? = some (Jvm.Cond.methodLink "AllocateSolve$Floor" (64 : Nat) ⟨"AllocateSolve$Floor", "allows", "(II)Z"⟩) := rfl
set_option maxRecDepth 50000 in
theorem kw_193 : tables_1[193]? = some (Jvm.Cond.instanceMethod ⟨"AllocateSolve$Floor", "allows", "(II)Z"⟩) := rfl
set_option maxRecDepth 50000 in
theorem kw_194 : tables_1[194]? = some (Jvm.Cond.selects "AllocateSolve$Floor" ⟨"AllocateSolve$Floor", "allows", "(II)Z"⟩ ⟨"AllocateSolve$Floor", "allows", "(II)Z"⟩) := rfl
set_option maxRecDepth 50000 in
theorem kw_195 : tables_1[195]? = some (Jvm.Cond.code ⟨"AllocateSolve$Floor", "allows", "(II)Z"⟩ prog_2_method_3_code (3 : Nat) (Option.some Jvm.ClassFile.FieldType.boolean)) := rfl
set_option maxRecDepth 50000 in
theorem kw_196 : tables_1[196]? = some (Jvm.Cond.methodLink "AllocateSolve$Floor" (44 : Nat) ⟨"AllocateSolve$Floor", "barsPassed", "(II)I"⟩) := rfl
set_option maxRecDepth 50000 in
theorem kw_198 : tables_1[198]? = some (Jvm.Cond.instanceMethod ⟨"AllocateSolve$Floor", "barsPassed", "(II)I"⟩) := rfl
set_option maxRecDepth 50000 in
theorem kw_199 : tables_1[199]? = some (Jvm.Cond.code ⟨"AllocateSolve$Floor", "barsPassed", "(II)I"⟩ prog_2_method_2_code (3 : Nat) (Option.some Jvm.ClassFile.FieldType.int)) := rfl
set_option maxRecDepth 50000 in
theorem kw_200 : tables_1[200]? = some (Jvm.Cond.methodLink "AllocateSolve$Floor" (37 : Nat) ⟨"AllocateSolve$Lines", "isBarred", "(II)Z"⟩) := rfl
set_option maxRecDepth 50000 in
theorem kw_201 : tables_1[201]? = some (Jvm.Cond.instanceMethod ⟨"AllocateSolve$Lines", "isBarred", "(II)Z"⟩) := rfl
set_option maxRecDepth 50000 in
theorem kw_202 : tables_1[202]? = some (Jvm.Cond.selects "AllocateSolve$Lines" ⟨"AllocateSolve$Lines", "isBarred", "(II)Z"⟩ ⟨"AllocateSolve$Lines", "isBarred", "(II)Z"⟩) := rfl
set_option maxRecDepth 50000 in
theorem kw_203 : tables_1[203]? = some (Jvm.Cond.code ⟨"AllocateSolve$Lines", "isBarred", "(II)Z"⟩ prog_3_method_4_code (3 : Nat) (Option.some Jvm.ClassFile.FieldType.boolean)) := rfl
set_option maxRecDepth 50000 in
theorem kw_204 : tables_1[204]? = some (Jvm.Cond.constant "AllocateSolve$Floor" (67 : Nat) (1000000 : Int32)) := rfl
set_option maxRecDepth 50000 in
theorem kw_205 : tables_1[205]? = some (Jvm.Cond.methodLink "AllocateSolveLaw" (109 : Nat) ⟨"AllocateSolve", "bound", "()I"⟩) := rfl
set_option maxRecDepth 50000 in
theorem kw_206 : tables_1[206]? = some (Jvm.Cond.instanceMethod ⟨"AllocateSolve", "bound", "()I"⟩) := rfl
set_option maxRecDepth 50000 in
theorem kw_207 : tables_1[207]? = some (Jvm.Cond.selects "AllocateSolve" ⟨"AllocateSolve", "bound", "()I"⟩ ⟨"AllocateSolve", "bound", "()I"⟩) := rfl
set_option maxRecDepth 50000 in
theorem kw_208 : tables_1[208]? = some (Jvm.Cond.code ⟨"AllocateSolve", "bound", "()I"⟩ prog_1_method_10_code (3 : Nat) (Option.some Jvm.ClassFile.FieldType.int)) := rfl
set_option maxRecDepth 50000 in
theorem kw_209 : tables_1[209]? = some (Jvm.Cond.methodLink "AllocateSolve" (115 : Nat) ⟨"AllocateSolve$Floor", "lineBound", "(I)I"⟩) := rfl
set_option maxRecDepth 50000 in
theorem kw_210 : tables_1[210]? = some (Jvm.Cond.instanceMethod ⟨"AllocateSolve$Floor", "lineBound", "(I)I"⟩) := rfl
set_option maxRecDepth 50000 in
theorem kw_211 : tables_1[211]? = some (Jvm.Cond.selects "AllocateSolve$Floor" ⟨"AllocateSolve$Floor", "lineBound", "(I)I"⟩ ⟨"AllocateSolve$Floor", "lineBound", "(I)I"⟩) := rfl
set_option maxRecDepth 50000 in
theorem kw_212 : tables_1[212]? = some (Jvm.Cond.code ⟨"AllocateSolve$Floor", "lineBound", "(I)I"⟩ prog_2_method_7_code (5 : Nat) (Option.some Jvm.ClassFile.FieldType.int)) := rfl
set_option maxRecDepth 50000 in
theorem kw_213 : tables_1[213]? = some (Jvm.Cond.methodLink "AllocateSolve$Floor" (71 : Nat) ⟨"AllocateSolve$Floor", "pieceCost", "(II)I"⟩) := rfl
set_option maxRecDepth 50000 in
theorem kw_214 : tables_1[214]? = some (Jvm.Cond.instanceMethod ⟨"AllocateSolve$Floor", "pieceCost", "(II)I"⟩) := rfl
set_option maxRecDepth 50000 in
theorem kw_215 : tables_1[215]? = some (Jvm.Cond.selects "AllocateSolve$Floor" ⟨"AllocateSolve$Floor", "pieceCost", "(II)I"⟩ ⟨"AllocateSolve$Floor", "pieceCost", "(II)I"⟩) := rfl
set_option maxRecDepth 50000 in
theorem kw_216 : tables_1[216]? = some (Jvm.Cond.code ⟨"AllocateSolve$Floor", "pieceCost", "(II)I"⟩ prog_2_method_5_code (4 : Nat) (Option.some Jvm.ClassFile.FieldType.int)) := rfl
set_option maxRecDepth 50000 in
theorem kw_217 : tables_1[217]? = some (Jvm.Cond.methodLink "AllocateSolve$Floor" (74 : Nat) ⟨"java/lang/Math", "min", "(II)I"⟩) := rfl
set_option maxRecDepth 50000 in
theorem kw_218 : tables_1[218]? = some (Jvm.Cond.static ⟨"java/lang/Math", "min", "(II)I"⟩) := rfl
set_option maxRecDepth 50000 in
theorem kw_219 : tables_1[219]? = some (Jvm.Cond.code ⟨"java/lang/Math", "min", "(II)I"⟩ prog_13_method_69_code (2 : Nat) (Option.some Jvm.ClassFile.FieldType.int)) := rfl
set_option maxRecDepth 50000 in
theorem kw_220 : tables_1[220]? = some (Jvm.Cond.methodLink "AllocateSolveLaw" (138 : Nat) ⟨"AllocateSolve", "count", "(I)I"⟩) := rfl
set_option maxRecDepth 50000 in
theorem kw_221 : tables_1[221]? = some (Jvm.Cond.instanceMethod ⟨"AllocateSolve", "count", "(I)I"⟩) := rfl
set_option maxRecDepth 50000 in
theorem kw_222 : tables_1[222]? = some (Jvm.Cond.selects "AllocateSolve" ⟨"AllocateSolve", "count", "(I)I"⟩ ⟨"AllocateSolve", "count", "(I)I"⟩) := rfl
set_option maxRecDepth 50000 in
theorem kw_223 : tables_1[223]? = some (Jvm.Cond.code ⟨"AllocateSolve", "count", "(I)I"⟩ prog_1_method_19_code (2 : Nat) (Option.some Jvm.ClassFile.FieldType.int)) := rfl
set_option maxRecDepth 50000 in
theorem kw_224 : tables_1[224]? = some (Jvm.Cond.methodLink "AllocateSolve" (167 : Nat) ⟨"AllocateSolve$Floor", "totalPieces", "()I"⟩) := rfl
set_option maxRecDepth 50000 in
theorem kw_225 : tables_1[225]? = some (Jvm.Cond.instanceMethod ⟨"AllocateSolve$Floor", "totalPieces", "()I"⟩) := rfl
set_option maxRecDepth 50000 in
theorem kw_226 : tables_1[226]? = some (Jvm.Cond.selects "AllocateSolve$Floor" ⟨"AllocateSolve$Floor", "totalPieces", "()I"⟩ ⟨"AllocateSolve$Floor", "totalPieces", "()I"⟩) := rfl
set_option maxRecDepth 50000 in
theorem kw_227 : tables_1[227]? = some (Jvm.Cond.code ⟨"AllocateSolve$Floor", "totalPieces", "()I"⟩ prog_2_method_13_code (3 : Nat) (Option.some Jvm.ClassFile.FieldType.int)) := rfl
set_option maxRecDepth 50000 in
theorem kw_228 : tables_1[228]? = some (Jvm.Cond.methodLink "AllocateSolve$Floor" (83 : Nat) ⟨"AllocateSolve$Floor", "piecesOf", "(I)I"⟩) := rfl
set_option maxRecDepth 50000 in
theorem kw_229 : tables_1[229]? = some (Jvm.Cond.instanceMethod ⟨"AllocateSolve$Floor", "piecesOf", "(I)I"⟩) := rfl
set_option maxRecDepth 50000 in
theorem kw_230 : tables_1[230]? = some (Jvm.Cond.selects "AllocateSolve$Floor" ⟨"AllocateSolve$Floor", "piecesOf", "(I)I"⟩ ⟨"AllocateSolve$Floor", "piecesOf", "(I)I"⟩) := rfl
set_option maxRecDepth 50000 in
theorem kw_231 : tables_1[231]? = some (Jvm.Cond.code ⟨"AllocateSolve$Floor", "piecesOf", "(I)I"⟩ prog_2_method_9_code (4 : Nat) (Option.some Jvm.ClassFile.FieldType.int)) := rfl
set_option maxRecDepth 50000 in
theorem kw_232 : tables_1[232]? = some (Jvm.Cond.methodLink "AllocateSolve" (170 : Nat) ⟨"AllocateSolve$Floor", "totalGifts", "()I"⟩) := rfl
set_option maxRecDepth 50000 in
theorem kw_233 : tables_1[233]? = some (Jvm.Cond.instanceMethod ⟨"AllocateSolve$Floor", "totalGifts", "()I"⟩) := rfl
set_option maxRecDepth 50000 in
theorem kw_234 : tables_1[234]? = some (Jvm.Cond.selects "AllocateSolve$Floor" ⟨"AllocateSolve$Floor", "totalGifts", "()I"⟩ ⟨"AllocateSolve$Floor", "totalGifts", "()I"⟩) := rfl
set_option maxRecDepth 50000 in
theorem kw_235 : tables_1[235]? = some (Jvm.Cond.code ⟨"AllocateSolve$Floor", "totalGifts", "()I"⟩ prog_2_method_14_code (3 : Nat) (Option.some Jvm.ClassFile.FieldType.int)) := rfl
set_option maxRecDepth 50000 in
theorem kw_236 : tables_1[236]? = some (Jvm.Cond.methodLink "AllocateSolve$Floor" (87 : Nat) ⟨"AllocateSolve$Floor", "giftsOf", "(I)I"⟩) := rfl
set_option maxRecDepth 50000 in
theorem kw_238 : tables_1[238]? = some (Jvm.Cond.instanceMethod ⟨"AllocateSolve$Floor", "giftsOf", "(I)I"⟩) := rfl
set_option maxRecDepth 50000 in
theorem kw_239 : tables_1[239]? = some (Jvm.Cond.code ⟨"AllocateSolve$Floor", "giftsOf", "(I)I"⟩ prog_2_method_10_code (4 : Nat) (Option.some Jvm.ClassFile.FieldType.int)) := rfl
set_option maxRecDepth 50000 in
theorem kw_240 : tables_1[240]? = some (Jvm.Cond.methodLink "AllocateSolve" (112 : Nat) ⟨"AllocateSolve$Floor", "totalCost", "()I"⟩) := rfl
set_option maxRecDepth 50000 in
theorem kw_241 : tables_1[241]? = some (Jvm.Cond.instanceMethod ⟨"AllocateSolve$Floor", "totalCost", "()I"⟩) := rfl
set_option maxRecDepth 50000 in
theorem kw_242 : tables_1[242]? = some (Jvm.Cond.selects "AllocateSolve$Floor" ⟨"AllocateSolve$Floor", "totalCost", "()I"⟩ ⟨"AllocateSolve$Floor", "totalCost", "()I"⟩) := rfl
set_option maxRecDepth 50000 in
theorem kw_243 : tables_1[243]? = some (Jvm.Cond.code ⟨"AllocateSolve$Floor", "totalCost", "()I"⟩ prog_2_method_15_code (3 : Nat) (Option.some Jvm.ClassFile.FieldType.int)) := rfl
set_option maxRecDepth 50000 in
theorem kw_244 : tables_1[244]? = some (Jvm.Cond.methodLink "AllocateSolve$Floor" (90 : Nat) ⟨"AllocateSolve$Floor", "lineCost", "(I)I"⟩) := rfl
set_option maxRecDepth 50000 in
theorem kw_245 : tables_1[245]? = some (Jvm.Cond.instanceMethod ⟨"AllocateSolve$Floor", "lineCost", "(I)I"⟩) := rfl
set_option maxRecDepth 50000 in
theorem kw_246 : tables_1[246]? = some (Jvm.Cond.selects "AllocateSolve$Floor" ⟨"AllocateSolve$Floor", "lineCost", "(I)I"⟩ ⟨"AllocateSolve$Floor", "lineCost", "(I)I"⟩) := rfl
set_option maxRecDepth 50000 in
theorem kw_247 : tables_1[247]? = some (Jvm.Cond.code ⟨"AllocateSolve$Floor", "lineCost", "(I)I"⟩ prog_2_method_12_code (5 : Nat) (Option.some Jvm.ClassFile.FieldType.int)) := rfl
set_option maxRecDepth 50000 in
theorem kw_248 : tables_1[248]? = some (Jvm.Cond.methodLink "AllocateSolveLaw" (71 : Nat) ⟨"AllocateSolveLaw", "lot", "(LAllocateSolve;IIII[J)I"⟩) := rfl
set_option maxRecDepth 50000 in
theorem kw_249 : tables_1[249]? = some (Jvm.Cond.static ⟨"AllocateSolveLaw", "lot", "(LAllocateSolve;IIII[J)I"⟩) := rfl
set_option maxRecDepth 50000 in
theorem kw_250 : tables_1[250]? = some (Jvm.Cond.codeWith ⟨"AllocateSolveLaw", "lot", "(LAllocateSolve;IIII[J)I"⟩ method_3_code (7 : Nat) (Option.some Jvm.ClassFile.FieldType.int) [((0 : Nat), (14 : Nat), (17 : Nat), (13 : Nat)), ((0 : Nat), (14 : Nat), (21 : Nat), (15 : Nat))]) := rfl
set_option maxRecDepth 50000 in
theorem kw_251 : tables_1[251]? = some (Jvm.Cond.classLink "AllocateSolveLaw" (13 : Nat) "java/lang/IllegalArgumentException") := rfl
set_option maxRecDepth 50000 in
theorem kw_252 : tables_1[252]? = some (Jvm.Cond.classLink "AllocateSolveLaw" (15 : Nat) "java/lang/UnsupportedOperationException") := rfl
set_option maxRecDepth 50000 in
theorem kw_253 : tables_1[253]? = some (Jvm.Cond.methodLink "AllocateSolveLaw" (7 : Nat) ⟨"AllocateSolve", "lot", "(IIII)I"⟩) := rfl
set_option maxRecDepth 50000 in
theorem kw_254 : tables_1[254]? = some (Jvm.Cond.instanceMethod ⟨"AllocateSolve", "lot", "(IIII)I"⟩) := rfl
set_option maxRecDepth 50000 in
theorem kw_255 : tables_1[255]? = some (Jvm.Cond.selects "AllocateSolve" ⟨"AllocateSolve", "lot", "(IIII)I"⟩ ⟨"AllocateSolve", "lot", "(IIII)I"⟩) := rfl
set_option maxRecDepth 50000 in
theorem kw_256 : tables_1[256]? = some (Jvm.Cond.code ⟨"AllocateSolve", "lot", "(IIII)I"⟩ prog_1_method_2_code (5 : Nat) (Option.some Jvm.ClassFile.FieldType.int)) := rfl
set_option maxRecDepth 50000 in
theorem kw_257 : tables_1[257]? = some (Jvm.Cond.methodLink "AllocateSolve" (37 : Nat) ⟨"AllocateSolve", "needRange", "(III)V"⟩) := rfl
set_option maxRecDepth 50000 in
theorem kw_258 : tables_1[258]? = some (Jvm.Cond.static ⟨"AllocateSolve", "needRange", "(III)V"⟩) := rfl
set_option maxRecDepth 50000 in
theorem kw_259 : tables_1[259]? = some (Jvm.Cond.code ⟨"AllocateSolve", "needRange", "(III)V"⟩ prog_1_method_22_code (3 : Nat) (Option.none : Option Jvm.ClassFile.FieldType)) := rfl
set_option maxRecDepth 50000 in
theorem kw_260 : tables_1[260]? = some (Jvm.Cond.classLink "AllocateSolve" (177 : Nat) "java/lang/IllegalArgumentException") := rfl
set_option maxRecDepth 50000 in
theorem kw_261 : tables_1[261]? = some (Jvm.Cond.instantiable "java/lang/IllegalArgumentException" (6 : Nat)) := rfl
set_option maxRecDepth 50000 in
theorem kw_262 : tables_1[262]? = some (Jvm.Cond.castable "java/lang/IllegalArgumentException" "java/lang/IllegalArgumentException") := rfl
set_option maxRecDepth 50000 in
theorem kw_269 : tables_1[269]? = some (Jvm.Cond.selects "java/lang/IllegalArgumentException" ⟨"java/lang/Throwable", "fillInStackTrace", "(I)Ljava/lang/Throwable;"⟩ ⟨"java/lang/Throwable", "fillInStackTrace", "(I)Ljava/lang/Throwable;"⟩) := rfl
set_option maxRecDepth 50000 in
theorem kw_270 : tables_1[270]? = some (Jvm.Cond.selects "java/lang/IllegalArgumentException" ⟨"java/lang/Throwable", "fillInStackTrace", "()Ljava/lang/Throwable;"⟩ ⟨"java/lang/Throwable", "fillInStackTrace", "()Ljava/lang/Throwable;"⟩) := rfl
set_option maxRecDepth 50000 in
theorem kw_281 : tables_1[281]? = some (Jvm.Cond.fieldLink "java/lang/Throwable" (198 : Nat) "java/lang/Throwable" "backtrace" "Ljava/lang/Object;") := rfl
set_option maxRecDepth 50000 in
theorem kw_283 : tables_1[283]? = some (Jvm.Cond.instanceMethod ⟨"java/lang/Throwable", "<init>", "()V"⟩) := rfl
set_option maxRecDepth 50000 in
theorem kw_284 : tables_1[284]? = some (Jvm.Cond.code ⟨"java/lang/Throwable", "<init>", "()V"⟩ prog_16_method_1_code (1 : Nat) (Option.none : Option Jvm.ClassFile.FieldType)) := rfl
set_option maxRecDepth 50000 in
theorem kw_285 : tables_1[285]? = some (Jvm.Cond.methodLink "java/lang/Throwable" (1 : Nat) ⟨"java/lang/Object", "<init>", "()V"⟩) := rfl
set_option maxRecDepth 50000 in
theorem kw_286 : tables_1[286]? = some (Jvm.Cond.fieldLink "java/lang/Throwable" (13 : Nat) "java/lang/Throwable" "UNASSIGNED_STACK" "[Ljava/lang/StackTraceElement;") := rfl
set_option maxRecDepth 50000 in
theorem kw_288 : tables_1[288]? = some (Jvm.Cond.fieldLink "java/lang/Throwable" (20 : Nat) "java/lang/Throwable" "SUPPRESSED_SENTINEL" "Ljava/util/List;") := rfl
set_option maxRecDepth 50000 in
theorem kw_290 : tables_1[290]? = some (Jvm.Cond.methodLink "java/lang/Throwable" (27 : Nat) ⟨"java/lang/Throwable", "fillInStackTrace", "()Ljava/lang/Throwable;"⟩) := rfl
set_option maxRecDepth 50000 in
theorem kw_291 : tables_1[291]? = some (Jvm.Cond.instanceMethod ⟨"java/lang/Throwable", "fillInStackTrace", "()Ljava/lang/Throwable;"⟩) := rfl
set_option maxRecDepth 50000 in
theorem kw_293 : tables_1[293]? = some (Jvm.Cond.selects "java/lang/ArithmeticException" ⟨"java/lang/Throwable", "fillInStackTrace", "()Ljava/lang/Throwable;"⟩ ⟨"java/lang/Throwable", "fillInStackTrace", "()Ljava/lang/Throwable;"⟩) := rfl
set_option maxRecDepth 50000 in
theorem kw_294 : tables_1[294]? = some (Jvm.Cond.selects "java/lang/IllegalStateException" ⟨"java/lang/Throwable", "fillInStackTrace", "()Ljava/lang/Throwable;"⟩ ⟨"java/lang/Throwable", "fillInStackTrace", "()Ljava/lang/Throwable;"⟩) := rfl
set_option maxRecDepth 50000 in
theorem kw_295 : tables_1[295]? = some (Jvm.Cond.selects "java/lang/UnsupportedOperationException" ⟨"java/lang/Throwable", "fillInStackTrace", "()Ljava/lang/Throwable;"⟩ ⟨"java/lang/Throwable", "fillInStackTrace", "()Ljava/lang/Throwable;"⟩) := rfl
set_option maxRecDepth 50000 in
theorem kw_296 : tables_1[296]? = some (Jvm.Cond.selects "java/util/NoSuchElementException" ⟨"java/lang/Throwable", "fillInStackTrace", "()Ljava/lang/Throwable;"⟩ ⟨"java/lang/Throwable", "fillInStackTrace", "()Ljava/lang/Throwable;"⟩) := rfl
set_option maxRecDepth 50000 in
theorem kw_298 : tables_1[298]? = some (Jvm.Cond.methodLink "java/lang/Throwable" (202 : Nat) ⟨"java/lang/Throwable", "fillInStackTrace", "(I)Ljava/lang/Throwable;"⟩) := rfl
set_option maxRecDepth 50000 in
theorem kw_300 : tables_1[300]? = some (Jvm.Cond.instanceMethod ⟨"java/lang/Throwable", "fillInStackTrace", "(I)Ljava/lang/Throwable;"⟩) := rfl
set_option maxRecDepth 50000 in
theorem kw_301 : tables_1[301]? = some (Jvm.Cond.instantiable "java/lang/Throwable" (6 : Nat)) := rfl
set_option maxRecDepth 50000 in
theorem kw_303 : tables_1[303]? = some (Jvm.Cond.stringRef "AllocateSolve" (179 : Nat) "a number outside its range") := rfl
set_option maxRecDepth 50000 in
theorem kw_304 : tables_1[304]? = some (Jvm.Cond.methodLink "AllocateSolve" (181 : Nat) ⟨"java/lang/IllegalArgumentException", "<init>", "(Ljava/lang/String;)V"⟩) := rfl
set_option maxRecDepth 50000 in
theorem kw_305 : tables_1[305]? = some (Jvm.Cond.instanceMethod ⟨"java/lang/IllegalArgumentException", "<init>", "(Ljava/lang/String;)V"⟩) := rfl
set_option maxRecDepth 50000 in
theorem kw_306 : tables_1[306]? = some (Jvm.Cond.code ⟨"java/lang/IllegalArgumentException", "<init>", "(Ljava/lang/String;)V"⟩ prog_10_method_2_code (2 : Nat) (Option.none : Option Jvm.ClassFile.FieldType)) := rfl
set_option maxRecDepth 50000 in
theorem kw_307 : tables_1[307]? = some (Jvm.Cond.methodLink "java/lang/IllegalArgumentException" (7 : Nat) ⟨"java/lang/RuntimeException", "<init>", "(Ljava/lang/String;)V"⟩) := rfl
set_option maxRecDepth 50000 in
theorem kw_308 : tables_1[308]? = some (Jvm.Cond.instanceMethod ⟨"java/lang/RuntimeException", "<init>", "(Ljava/lang/String;)V"⟩) := rfl
set_option maxRecDepth 50000 in
theorem kw_309 : tables_1[309]? = some (Jvm.Cond.code ⟨"java/lang/RuntimeException", "<init>", "(Ljava/lang/String;)V"⟩ prog_14_method_2_code (2 : Nat) (Option.none : Option Jvm.ClassFile.FieldType)) := rfl
set_option maxRecDepth 50000 in
theorem kw_310 : tables_1[310]? = some (Jvm.Cond.methodLink "java/lang/RuntimeException" (7 : Nat) ⟨"java/lang/Exception", "<init>", "(Ljava/lang/String;)V"⟩) := rfl
set_option maxRecDepth 50000 in
theorem kw_311 : tables_1[311]? = some (Jvm.Cond.instanceMethod ⟨"java/lang/Exception", "<init>", "(Ljava/lang/String;)V"⟩) := rfl
set_option maxRecDepth 50000 in
theorem kw_312 : tables_1[312]? = some (Jvm.Cond.code ⟨"java/lang/Exception", "<init>", "(Ljava/lang/String;)V"⟩ prog_9_method_2_code (2 : Nat) (Option.none : Option Jvm.ClassFile.FieldType)) := rfl
set_option maxRecDepth 50000 in
theorem kw_313 : tables_1[313]? = some (Jvm.Cond.methodLink "java/lang/Exception" (7 : Nat) ⟨"java/lang/Throwable", "<init>", "(Ljava/lang/String;)V"⟩) := rfl
set_option maxRecDepth 50000 in
theorem kw_314 : tables_1[314]? = some (Jvm.Cond.instanceMethod ⟨"java/lang/Throwable", "<init>", "(Ljava/lang/String;)V"⟩) := rfl
set_option maxRecDepth 50000 in
theorem kw_315 : tables_1[315]? = some (Jvm.Cond.code ⟨"java/lang/Throwable", "<init>", "(Ljava/lang/String;)V"⟩ prog_16_method_2_code (2 : Nat) (Option.none : Option Jvm.ClassFile.FieldType)) := rfl
set_option maxRecDepth 50000 in
theorem kw_316 : tables_1[316]? = some (Jvm.Cond.fieldLink "java/lang/Throwable" (198 : Nat) "java/lang/Throwable" "backtrace" "Ljava/lang/Object;") := rfl
set_option maxRecDepth 50000 in
theorem kw_317 : tables_1[317]? = some (Jvm.Cond.fieldLink "java/lang/Throwable" (31 : Nat) "java/lang/Throwable" "detailMessage" "Ljava/lang/String;") := rfl
set_option maxRecDepth 50000 in
theorem kw_318 : tables_1[318]? = some (Jvm.Cond.fieldLink "java/lang/Throwable" (7 : Nat) "java/lang/Throwable" "cause" "Ljava/lang/Throwable;") := rfl
set_option maxRecDepth 50000 in
theorem kw_319 : tables_1[319]? = some (Jvm.Cond.fieldLink "java/lang/Throwable" (17 : Nat) "java/lang/Throwable" "stackTrace" "[Ljava/lang/StackTraceElement;") := rfl
set_option maxRecDepth 50000 in
theorem kw_320 : tables_1[320]? = some (Jvm.Cond.fieldLink "java/lang/Throwable" (24 : Nat) "java/lang/Throwable" "suppressedExceptions" "Ljava/util/List;") := rfl
set_option maxRecDepth 50000 in
theorem kw_329 : tables_1[329]? = some (Jvm.Cond.arrayClass Jvm.ClassFile.FieldType.byte) := rfl
set_option maxRecDepth 50000 in
theorem kw_330 : tables_1[330]? = some (Jvm.Cond.classLink "AllocateSolve" (47 : Nat) "java/lang/UnsupportedOperationException") := rfl
set_option maxRecDepth 50000 in
theorem kw_331 : tables_1[331]? = some (Jvm.Cond.instantiable "java/lang/UnsupportedOperationException" (6 : Nat)) := rfl
set_option maxRecDepth 50000 in
theorem kw_332 : tables_1[332]? = some (Jvm.Cond.castable "java/lang/UnsupportedOperationException" "java/lang/UnsupportedOperationException") := rfl
set_option maxRecDepth 50000 in
theorem kw_333 : tables_1[333]? = some (Jvm.Cond.selects "java/lang/UnsupportedOperationException" ⟨"java/lang/Throwable", "fillInStackTrace", "(I)Ljava/lang/Throwable;"⟩ ⟨"java/lang/Throwable", "fillInStackTrace", "(I)Ljava/lang/Throwable;"⟩) := rfl
set_option maxRecDepth 50000 in
theorem kw_339 : tables_1[339]? = some (Jvm.Cond.stringRef "AllocateSolve" (49 : Nat) "no room for a lot") := rfl
set_option maxRecDepth 50000 in
theorem kw_340 : tables_1[340]? = some (Jvm.Cond.methodLink "AllocateSolve" (51 : Nat) ⟨"java/lang/UnsupportedOperationException", "<init>", "(Ljava/lang/String;)V"⟩) := rfl
set_option maxRecDepth 50000 in
theorem kw_341 : tables_1[341]? = some (Jvm.Cond.instanceMethod ⟨"java/lang/UnsupportedOperationException", "<init>", "(Ljava/lang/String;)V"⟩) := rfl
set_option maxRecDepth 50000 in
theorem kw_342 : tables_1[342]? = some (Jvm.Cond.code ⟨"java/lang/UnsupportedOperationException", "<init>", "(Ljava/lang/String;)V"⟩ prog_17_method_2_code (2 : Nat) (Option.none : Option Jvm.ClassFile.FieldType)) := rfl
set_option maxRecDepth 50000 in
theorem kw_343 : tables_1[343]? = some (Jvm.Cond.methodLink "java/lang/UnsupportedOperationException" (7 : Nat) ⟨"java/lang/RuntimeException", "<init>", "(Ljava/lang/String;)V"⟩) := rfl
set_option maxRecDepth 50000 in
theorem kw_346 : tables_1[346]? = some (Jvm.Cond.methodLink "AllocateSolve" (54 : Nat) ⟨"AllocateSolve$Lots", "add", "(IIII)I"⟩) := rfl
set_option maxRecDepth 50000 in
theorem kw_347 : tables_1[347]? = some (Jvm.Cond.instanceMethod ⟨"AllocateSolve$Lots", "add", "(IIII)I"⟩) := rfl
set_option maxRecDepth 50000 in
theorem kw_348 : tables_1[348]? = some (Jvm.Cond.selects "AllocateSolve$Lots" ⟨"AllocateSolve$Lots", "add", "(IIII)I"⟩ ⟨"AllocateSolve$Lots", "add", "(IIII)I"⟩) := rfl
set_option maxRecDepth 50000 in
theorem kw_349 : tables_1[349]? = some (Jvm.Cond.code ⟨"AllocateSolve$Lots", "add", "(IIII)I"⟩ prog_4_method_2_code (6 : Nat) (Option.some Jvm.ClassFile.FieldType.int)) := rfl
set_option maxRecDepth 50000 in
theorem kw_350 : tables_1[350]? = some (Jvm.Cond.methodLink "AllocateSolve$Lots" (34 : Nat) ⟨"AllocateSolve$Lots", "putInOrder", "(I)V"⟩) := rfl
set_option maxRecDepth 50000 in
theorem kw_352 : tables_1[352]? = some (Jvm.Cond.instanceMethod ⟨"AllocateSolve$Lots", "putInOrder", "(I)V"⟩) := rfl
set_option maxRecDepth 50000 in
theorem kw_353 : tables_1[353]? = some (Jvm.Cond.code ⟨"AllocateSolve$Lots", "putInOrder", "(I)V"⟩ prog_4_method_3_code (3 : Nat) (Option.none : Option Jvm.ClassFile.FieldType)) := rfl
set_option maxRecDepth 50000 in
theorem kw_354 : tables_1[354]? = some (Jvm.Cond.methodLink "AllocateSolve$Lots" (38 : Nat) ⟨"AllocateSolve$Lots", "comesBefore", "(II)Z"⟩) := rfl
set_option maxRecDepth 50000 in
theorem kw_356 : tables_1[356]? = some (Jvm.Cond.instanceMethod ⟨"AllocateSolve$Lots", "comesBefore", "(II)Z"⟩) := rfl
set_option maxRecDepth 50000 in
theorem kw_357 : tables_1[357]? = some (Jvm.Cond.code ⟨"AllocateSolve$Lots", "comesBefore", "(II)Z"⟩ prog_4_method_4_code (3 : Nat) (Option.some Jvm.ClassFile.FieldType.boolean)) := rfl
set_option maxRecDepth 50000 in
theorem kw_358 : tables_1[358]? = some (Jvm.Cond.methodLink "AllocateSolveLaw" (81 : Nat) ⟨"AllocateSolveLaw", "line", "(LAllocateSolve;II[J)I"⟩) := rfl
set_option maxRecDepth 50000 in
theorem kw_359 : tables_1[359]? = some (Jvm.Cond.static ⟨"AllocateSolveLaw", "line", "(LAllocateSolve;II[J)I"⟩) := rfl
set_option maxRecDepth 50000 in
theorem kw_360 : tables_1[360]? = some (Jvm.Cond.codeWith ⟨"AllocateSolveLaw", "line", "(LAllocateSolve;II[J)I"⟩ method_4_code (5 : Nat) (Option.some Jvm.ClassFile.FieldType.int) [((0 : Nat), (10 : Nat), (13 : Nat), (13 : Nat)), ((0 : Nat), (10 : Nat), (17 : Nat), (15 : Nat))]) := rfl
set_option maxRecDepth 50000 in
theorem kw_361 : tables_1[361]? = some (Jvm.Cond.methodLink "AllocateSolveLaw" (17 : Nat) ⟨"AllocateSolve", "line", "(II)I"⟩) := rfl
set_option maxRecDepth 50000 in
theorem kw_362 : tables_1[362]? = some (Jvm.Cond.instanceMethod ⟨"AllocateSolve", "line", "(II)I"⟩) := rfl
set_option maxRecDepth 50000 in
theorem kw_363 : tables_1[363]? = some (Jvm.Cond.selects "AllocateSolve" ⟨"AllocateSolve", "line", "(II)I"⟩ ⟨"AllocateSolve", "line", "(II)I"⟩) := rfl
set_option maxRecDepth 50000 in
theorem kw_364 : tables_1[364]? = some (Jvm.Cond.code ⟨"AllocateSolve", "line", "(II)I"⟩ prog_1_method_3_code (3 : Nat) (Option.some Jvm.ClassFile.FieldType.int)) := rfl
set_option maxRecDepth 50000 in
theorem kw_365 : tables_1[365]? = some (Jvm.Cond.stringRef "AllocateSolve" (61 : Nat) "no room for a line") := rfl
set_option maxRecDepth 50000 in
theorem kw_366 : tables_1[366]? = some (Jvm.Cond.methodLink "AllocateSolve" (63 : Nat) ⟨"AllocateSolve$Lines", "add", "(II)I"⟩) := rfl
set_option maxRecDepth 50000 in
theorem kw_367 : tables_1[367]? = some (Jvm.Cond.instanceMethod ⟨"AllocateSolve$Lines", "add", "(II)I"⟩) := rfl
set_option maxRecDepth 50000 in
theorem kw_368 : tables_1[368]? = some (Jvm.Cond.selects "AllocateSolve$Lines" ⟨"AllocateSolve$Lines", "add", "(II)I"⟩ ⟨"AllocateSolve$Lines", "add", "(II)I"⟩) := rfl
set_option maxRecDepth 50000 in
theorem kw_369 : tables_1[369]? = some (Jvm.Cond.code ⟨"AllocateSolve$Lines", "add", "(II)I"⟩ prog_3_method_2_code (5 : Nat) (Option.some Jvm.ClassFile.FieldType.int)) := rfl
set_option maxRecDepth 50000 in
theorem kw_370 : tables_1[370]? = some (Jvm.Cond.fieldLinkNest "AllocateSolve$Lines" (36 : Nat) "AllocateSolve" "RULE_FIRST" "[I" "AllocateSolve") := rfl
set_option maxRecDepth 50000 in
theorem kw_372 : tables_1[372]? = some (Jvm.Cond.methodLink "AllocateSolveLaw" (85 : Nat) ⟨"AllocateSolveLaw", "rule", "(LAllocateSolve;III)I"⟩) := rfl
set_option maxRecDepth 50000 in
theorem kw_373 : tables_1[373]? = some (Jvm.Cond.static ⟨"AllocateSolveLaw", "rule", "(LAllocateSolve;III)I"⟩) := rfl
set_option maxRecDepth 50000 in
theorem kw_374 : tables_1[374]? = some (Jvm.Cond.codeWith ⟨"AllocateSolveLaw", "rule", "(LAllocateSolve;III)I"⟩ method_5_code (5 : Nat) (Option.some Jvm.ClassFile.FieldType.int) [((0 : Nat), (7 : Nat), (10 : Nat), (25 : Nat)), ((0 : Nat), (7 : Nat), (14 : Nat), (13 : Nat))]) := rfl
set_option maxRecDepth 50000 in
theorem kw_375 : tables_1[375]? = some (Jvm.Cond.classLink "AllocateSolveLaw" (25 : Nat) "java/util/NoSuchElementException") := rfl
set_option maxRecDepth 50000 in
theorem kw_376 : tables_1[376]? = some (Jvm.Cond.methodLink "AllocateSolveLaw" (21 : Nat) ⟨"AllocateSolve", "rule", "(III)V"⟩) := rfl
set_option maxRecDepth 50000 in
theorem kw_377 : tables_1[377]? = some (Jvm.Cond.instanceMethod ⟨"AllocateSolve", "rule", "(III)V"⟩) := rfl
set_option maxRecDepth 50000 in
theorem kw_378 : tables_1[378]? = some (Jvm.Cond.selects "AllocateSolve" ⟨"AllocateSolve", "rule", "(III)V"⟩ ⟨"AllocateSolve", "rule", "(III)V"⟩) := rfl
set_option maxRecDepth 50000 in
theorem kw_379 : tables_1[379]? = some (Jvm.Cond.code ⟨"AllocateSolve", "rule", "(III)V"⟩ prog_1_method_4_code (4 : Nat) (Option.none : Option Jvm.ClassFile.FieldType)) := rfl
set_option maxRecDepth 50000 in
theorem kw_380 : tables_1[380]? = some (Jvm.Cond.methodLink "AllocateSolve" (66 : Nat) ⟨"AllocateSolve", "needLine", "(I)V"⟩) := rfl
set_option maxRecDepth 50000 in
theorem kw_382 : tables_1[382]? = some (Jvm.Cond.instanceMethod ⟨"AllocateSolve", "needLine", "(I)V"⟩) := rfl
set_option maxRecDepth 50000 in
theorem kw_383 : tables_1[383]? = some (Jvm.Cond.code ⟨"AllocateSolve", "needLine", "(I)V"⟩ prog_1_method_21_code (2 : Nat) (Option.none : Option Jvm.ClassFile.FieldType)) := rfl
set_option maxRecDepth 50000 in
theorem kw_384 : tables_1[384]? = some (Jvm.Cond.classLink "AllocateSolve" (122 : Nat) "java/util/NoSuchElementException") := rfl
set_option maxRecDepth 50000 in
theorem kw_385 : tables_1[385]? = some (Jvm.Cond.instantiable "java/util/NoSuchElementException" (6 : Nat)) := rfl
set_option maxRecDepth 50000 in
theorem kw_386 : tables_1[386]? = some (Jvm.Cond.castable "java/util/NoSuchElementException" "java/util/NoSuchElementException") := rfl
set_option maxRecDepth 50000 in
theorem kw_387 : tables_1[387]? = some (Jvm.Cond.selects "java/util/NoSuchElementException" ⟨"java/lang/Throwable", "fillInStackTrace", "(I)Ljava/lang/Throwable;"⟩ ⟨"java/lang/Throwable", "fillInStackTrace", "(I)Ljava/lang/Throwable;"⟩) := rfl
set_option maxRecDepth 50000 in
theorem kw_393 : tables_1[393]? = some (Jvm.Cond.stringRef "AllocateSolve" (175 : Nat) "no such line") := rfl
set_option maxRecDepth 50000 in
theorem kw_394 : tables_1[394]? = some (Jvm.Cond.methodLink "AllocateSolve" (126 : Nat) ⟨"java/util/NoSuchElementException", "<init>", "(Ljava/lang/String;)V"⟩) := rfl
set_option maxRecDepth 50000 in
theorem kw_395 : tables_1[395]? = some (Jvm.Cond.instanceMethod ⟨"java/util/NoSuchElementException", "<init>", "(Ljava/lang/String;)V"⟩) := rfl
set_option maxRecDepth 50000 in
theorem kw_396 : tables_1[396]? = some (Jvm.Cond.code ⟨"java/util/NoSuchElementException", "<init>", "(Ljava/lang/String;)V"⟩ prog_18_method_4_code (2 : Nat) (Option.none : Option Jvm.ClassFile.FieldType)) := rfl
set_option maxRecDepth 50000 in
theorem kw_397 : tables_1[397]? = some (Jvm.Cond.methodLink "java/util/NoSuchElementException" (13 : Nat) ⟨"java/lang/RuntimeException", "<init>", "(Ljava/lang/String;)V"⟩) := rfl
set_option maxRecDepth 50000 in
theorem kw_400 : tables_1[400]? = some (Jvm.Cond.fieldLink "AllocateSolve" (70 : Nat) "AllocateSolve" "RULE_LEAST" "[I") := rfl
set_option maxRecDepth 50000 in
theorem kw_402 : tables_1[402]? = some (Jvm.Cond.fieldLink "AllocateSolve" (74 : Nat) "AllocateSolve" "RULE_MOST" "[I") := rfl
set_option maxRecDepth 50000 in
theorem kw_404 : tables_1[404]? = some (Jvm.Cond.methodLink "AllocateSolveLaw" (89 : Nat) ⟨"AllocateSolveLaw", "cost", "(LAllocateSolve;III)I"⟩) := rfl
set_option maxRecDepth 50000 in
theorem kw_405 : tables_1[405]? = some (Jvm.Cond.static ⟨"AllocateSolveLaw", "cost", "(LAllocateSolve;III)I"⟩) := rfl
set_option maxRecDepth 50000 in
theorem kw_406 : tables_1[406]? = some (Jvm.Cond.codeWith ⟨"AllocateSolveLaw", "cost", "(LAllocateSolve;III)I"⟩ method_6_code (5 : Nat) (Option.some Jvm.ClassFile.FieldType.int) [((0 : Nat), (7 : Nat), (10 : Nat), (25 : Nat)), ((0 : Nat), (7 : Nat), (14 : Nat), (13 : Nat))]) := rfl
set_option maxRecDepth 50000 in
theorem kw_407 : tables_1[407]? = some (Jvm.Cond.methodLink "AllocateSolveLaw" (27 : Nat) ⟨"AllocateSolve", "cost", "(III)V"⟩) := rfl
set_option maxRecDepth 50000 in
theorem kw_408 : tables_1[408]? = some (Jvm.Cond.instanceMethod ⟨"AllocateSolve", "cost", "(III)V"⟩) := rfl
set_option maxRecDepth 50000 in
theorem kw_409 : tables_1[409]? = some (Jvm.Cond.selects "AllocateSolve" ⟨"AllocateSolve", "cost", "(III)V"⟩ ⟨"AllocateSolve", "cost", "(III)V"⟩) := rfl
set_option maxRecDepth 50000 in
theorem kw_410 : tables_1[410]? = some (Jvm.Cond.code ⟨"AllocateSolve", "cost", "(III)V"⟩ prog_1_method_5_code (4 : Nat) (Option.none : Option Jvm.ClassFile.FieldType)) := rfl
set_option maxRecDepth 50000 in
theorem kw_411 : tables_1[411]? = some (Jvm.Cond.methodLink "AllocateSolve" (81 : Nat) ⟨"AllocateSolve", "needLot", "(I)V"⟩) := rfl
set_option maxRecDepth 50000 in
theorem kw_413 : tables_1[413]? = some (Jvm.Cond.instanceMethod ⟨"AllocateSolve", "needLot", "(I)V"⟩) := rfl
set_option maxRecDepth 50000 in
theorem kw_414 : tables_1[414]? = some (Jvm.Cond.code ⟨"AllocateSolve", "needLot", "(I)V"⟩ prog_1_method_20_code (2 : Nat) (Option.none : Option Jvm.ClassFile.FieldType)) := rfl
set_option maxRecDepth 50000 in
theorem kw_415 : tables_1[415]? = some (Jvm.Cond.stringRef "AllocateSolve" (173 : Nat) "no such lot") := rfl
set_option maxRecDepth 50000 in
theorem kw_416 : tables_1[416]? = some (Jvm.Cond.methodLink "AllocateSolveLaw" (92 : Nat) ⟨"AllocateSolveLaw", "may", "(LAllocateSolve;IIZ[J)I"⟩) := rfl
set_option maxRecDepth 50000 in
theorem kw_417 : tables_1[417]? = some (Jvm.Cond.static ⟨"AllocateSolveLaw", "may", "(LAllocateSolve;IIZ[J)I"⟩) := rfl
set_option maxRecDepth 50000 in
theorem kw_418 : tables_1[418]? = some (Jvm.Cond.codeWith ⟨"AllocateSolveLaw", "may", "(LAllocateSolve;IIZ[J)I"⟩ method_7_code (6 : Nat) (Option.some Jvm.ClassFile.FieldType.int) [((0 : Nat), (19 : Nat), (22 : Nat), (25 : Nat))]) := rfl
set_option maxRecDepth 50000 in
theorem kw_419 : tables_1[419]? = some (Jvm.Cond.methodLink "AllocateSolveLaw" (30 : Nat) ⟨"AllocateSolve", "may", "(IIZ)Z"⟩) := rfl
set_option maxRecDepth 50000 in
theorem kw_420 : tables_1[420]? = some (Jvm.Cond.instanceMethod ⟨"AllocateSolve", "may", "(IIZ)Z"⟩) := rfl
set_option maxRecDepth 50000 in
theorem kw_421 : tables_1[421]? = some (Jvm.Cond.selects "AllocateSolve" ⟨"AllocateSolve", "may", "(IIZ)Z"⟩ ⟨"AllocateSolve", "may", "(IIZ)Z"⟩) := rfl
set_option maxRecDepth 50000 in
theorem kw_422 : tables_1[422]? = some (Jvm.Cond.code ⟨"AllocateSolve", "may", "(IIZ)Z"⟩ prog_1_method_6_code (4 : Nat) (Option.some Jvm.ClassFile.FieldType.boolean)) := rfl
set_option maxRecDepth 50000 in
theorem kw_423 : tables_1[423]? = some (Jvm.Cond.methodLink "AllocateSolve" (87 : Nat) ⟨"AllocateSolve$Lines", "setBarred", "(IIZ)V"⟩) := rfl
set_option maxRecDepth 50000 in
theorem kw_424 : tables_1[424]? = some (Jvm.Cond.instanceMethod ⟨"AllocateSolve$Lines", "setBarred", "(IIZ)V"⟩) := rfl
set_option maxRecDepth 50000 in
theorem kw_425 : tables_1[425]? = some (Jvm.Cond.selects "AllocateSolve$Lines" ⟨"AllocateSolve$Lines", "setBarred", "(IIZ)V"⟩ ⟨"AllocateSolve$Lines", "setBarred", "(IIZ)V"⟩) := rfl
set_option maxRecDepth 50000 in
theorem kw_426 : tables_1[426]? = some (Jvm.Cond.code ⟨"AllocateSolve$Lines", "setBarred", "(IIZ)V"⟩ prog_3_method_3_code (5 : Nat) (Option.none : Option Jvm.ClassFile.FieldType)) := rfl
set_option maxRecDepth 50000 in
theorem kw_427 : tables_1[427]? = some (Jvm.Cond.methodLink "AllocateSolve" (91 : Nat) ⟨"AllocateSolve$Floor", "allows", "(II)Z"⟩) := rfl
set_option maxRecDepth 50000 in
theorem kw_428 : tables_1[428]? = some (Jvm.Cond.methodLink "AllocateSolveLaw" (96 : Nat) ⟨"AllocateSolveLaw", "solve", "(LAllocateSolve;I[J)I"⟩) := rfl
set_option maxRecDepth 50000 in
theorem kw_429 : tables_1[429]? = some (Jvm.Cond.static ⟨"AllocateSolveLaw", "solve", "(LAllocateSolve;I[J)I"⟩) := rfl
set_option maxRecDepth 50000 in
theorem kw_430 : tables_1[430]? = some (Jvm.Cond.codeWith ⟨"AllocateSolveLaw", "solve", "(LAllocateSolve;I[J)I"⟩ method_8_code (4 : Nat) (Option.some Jvm.ClassFile.FieldType.int) [((0 : Nat), (9 : Nat), (12 : Nat), (13 : Nat))]) := rfl
set_option maxRecDepth 50000 in
theorem kw_431 : tables_1[431]? = some (Jvm.Cond.methodLink "AllocateSolveLaw" (34 : Nat) ⟨"AllocateSolve", "solve", "(I)I"⟩) := rfl
set_option maxRecDepth 50000 in
theorem kw_432 : tables_1[432]? = some (Jvm.Cond.instanceMethod ⟨"AllocateSolve", "solve", "(I)I"⟩) := rfl
set_option maxRecDepth 50000 in
theorem kw_433 : tables_1[433]? = some (Jvm.Cond.selects "AllocateSolve" ⟨"AllocateSolve", "solve", "(I)I"⟩ ⟨"AllocateSolve", "solve", "(I)I"⟩) := rfl
set_option maxRecDepth 50000 in
theorem kw_434 : tables_1[434]? = some (Jvm.Cond.code ⟨"AllocateSolve", "solve", "(I)I"⟩ prog_1_method_7_code (3 : Nat) (Option.some Jvm.ClassFile.FieldType.int)) := rfl
set_option maxRecDepth 50000 in
theorem kw_435 : tables_1[435]? = some (Jvm.Cond.constant "AllocateSolve" (95 : Nat) (40000 : Int32)) := rfl
set_option maxRecDepth 50000 in
theorem kw_436 : tables_1[436]? = some (Jvm.Cond.methodLink "AllocateSolve" (100 : Nat) ⟨"AllocateSolve$Floor", "clear", "()V"⟩) := rfl
set_option maxRecDepth 50000 in
theorem kw_437 : tables_1[437]? = some (Jvm.Cond.instanceMethod ⟨"AllocateSolve$Floor", "clear", "()V"⟩) := rfl
set_option maxRecDepth 50000 in
theorem kw_438 : tables_1[438]? = some (Jvm.Cond.selects "AllocateSolve$Floor" ⟨"AllocateSolve$Floor", "clear", "()V"⟩ ⟨"AllocateSolve$Floor", "clear", "()V"⟩) := rfl
set_option maxRecDepth 50000 in
theorem kw_439 : tables_1[439]? = some (Jvm.Cond.code ⟨"AllocateSolve$Floor", "clear", "()V"⟩ prog_2_method_18_code (2 : Nat) (Option.none : Option Jvm.ClassFile.FieldType)) := rfl
set_option maxRecDepth 50000 in
theorem kw_440 : tables_1[440]? = some (Jvm.Cond.methodLink "AllocateSolve$Floor" (97 : Nat) ⟨"AllocateSolve$Floor", "letGo", "(I)V"⟩) := rfl
set_option maxRecDepth 50000 in
theorem kw_441 : tables_1[441]? = some (Jvm.Cond.instanceMethod ⟨"AllocateSolve$Floor", "letGo", "(I)V"⟩) := rfl
set_option maxRecDepth 50000 in
theorem kw_442 : tables_1[442]? = some (Jvm.Cond.selects "AllocateSolve$Floor" ⟨"AllocateSolve$Floor", "letGo", "(I)V"⟩ ⟨"AllocateSolve$Floor", "letGo", "(I)V"⟩) := rfl
set_option maxRecDepth 50000 in
theorem kw_443 : tables_1[443]? = some (Jvm.Cond.code ⟨"AllocateSolve$Floor", "letGo", "(I)V"⟩ prog_2_method_17_code (3 : Nat) (Option.none : Option Jvm.ClassFile.FieldType)) := rfl
set_option maxRecDepth 50000 in
theorem kw_444 : tables_1[444]? = some (Jvm.Cond.methodLink "AllocateSolve$Floor" (93 : Nat) ⟨"AllocateSolve$Floor", "move", "(III)V"⟩) := rfl
set_option maxRecDepth 50000 in
theorem kw_445 : tables_1[445]? = some (Jvm.Cond.instanceMethod ⟨"AllocateSolve$Floor", "move", "(III)V"⟩) := rfl
set_option maxRecDepth 50000 in
theorem kw_446 : tables_1[446]? = some (Jvm.Cond.selects "AllocateSolve$Floor" ⟨"AllocateSolve$Floor", "move", "(III)V"⟩ ⟨"AllocateSolve$Floor", "move", "(III)V"⟩) := rfl
set_option maxRecDepth 50000 in
theorem kw_447 : tables_1[447]? = some (Jvm.Cond.code ⟨"AllocateSolve$Floor", "move", "(III)V"⟩ prog_2_method_16_code (4 : Nat) (Option.none : Option Jvm.ClassFile.FieldType)) := rfl
set_option maxRecDepth 50000 in
theorem kw_448 : tables_1[448]? = some (Jvm.Cond.methodLink "AllocateSolve" (103 : Nat) ⟨"AllocateSolve$Search", "readAllowed", "()V"⟩) := rfl
set_option maxRecDepth 50000 in
theorem kw_449 : tables_1[449]? = some (Jvm.Cond.instanceMethod ⟨"AllocateSolve$Search", "readAllowed", "()V"⟩) := rfl
set_option maxRecDepth 50000 in
theorem kw_450 : tables_1[450]? = some (Jvm.Cond.selects "AllocateSolve$Search" ⟨"AllocateSolve$Search", "readAllowed", "()V"⟩ ⟨"AllocateSolve$Search", "readAllowed", "()V"⟩) := rfl
set_option maxRecDepth 50000 in
theorem kw_451 : tables_1[451]? = some (Jvm.Cond.code ⟨"AllocateSolve$Search", "readAllowed", "()V"⟩ prog_5_method_2_code (5 : Nat) (Option.none : Option Jvm.ClassFile.FieldType)) := rfl
set_option maxRecDepth 50000 in
theorem kw_452 : tables_1[452]? = some (Jvm.Cond.methodLink "AllocateSolve$Search" (58 : Nat) ⟨"AllocateSolve$Floor", "allows", "(II)Z"⟩) := rfl
set_option maxRecDepth 50000 in
theorem kw_453 : tables_1[453]? = some (Jvm.Cond.methodLink "AllocateSolve" (106 : Nat) ⟨"AllocateSolve$Search", "allocateAtLeastCost", "()V"⟩) := rfl
set_option maxRecDepth 50000 in
theorem kw_454 : tables_1[454]? = some (Jvm.Cond.instanceMethod ⟨"AllocateSolve$Search", "allocateAtLeastCost", "()V"⟩) := rfl
set_option maxRecDepth 50000 in
theorem kw_455 : tables_1[455]? = some (Jvm.Cond.selects "AllocateSolve$Search" ⟨"AllocateSolve$Search", "allocateAtLeastCost", "()V"⟩ ⟨"AllocateSolve$Search", "allocateAtLeastCost", "()V"⟩) := rfl
set_option maxRecDepth 50000 in
theorem kw_456 : tables_1[456]? = some (Jvm.Cond.code ⟨"AllocateSolve$Search", "allocateAtLeastCost", "()V"⟩ prog_5_method_4_code (2 : Nat) (Option.none : Option Jvm.ClassFile.FieldType)) := rfl
set_option maxRecDepth 50000 in
theorem kw_457 : tables_1[457]? = some (Jvm.Cond.methodLink "AllocateSolve$Search" (74 : Nat) ⟨"AllocateSolve$Search", "readBounds", "()V"⟩) := rfl
set_option maxRecDepth 50000 in
theorem kw_459 : tables_1[459]? = some (Jvm.Cond.instanceMethod ⟨"AllocateSolve$Search", "readBounds", "()V"⟩) := rfl
set_option maxRecDepth 50000 in
theorem kw_460 : tables_1[460]? = some (Jvm.Cond.code ⟨"AllocateSolve$Search", "readBounds", "()V"⟩ prog_5_method_5_code (2 : Nat) (Option.none : Option Jvm.ClassFile.FieldType)) := rfl
set_option maxRecDepth 50000 in
theorem kw_461 : tables_1[461]? = some (Jvm.Cond.methodLink "AllocateSolve$Search" (94 : Nat) ⟨"AllocateSolve$Floor", "lineBound", "(I)I"⟩) := rfl
set_option maxRecDepth 50000 in
theorem kw_462 : tables_1[462]? = some (Jvm.Cond.methodLink "AllocateSolve$Search" (77 : Nat) ⟨"AllocateSolve$Search", "allocateByRule", "()V"⟩) := rfl
set_option maxRecDepth 50000 in
theorem kw_463 : tables_1[463]? = some (Jvm.Cond.instanceMethod ⟨"AllocateSolve$Search", "allocateByRule", "()V"⟩) := rfl
set_option maxRecDepth 50000 in
theorem kw_464 : tables_1[464]? = some (Jvm.Cond.selects "AllocateSolve$Search" ⟨"AllocateSolve$Search", "allocateByRule", "()V"⟩ ⟨"AllocateSolve$Search", "allocateByRule", "()V"⟩) := rfl
set_option maxRecDepth 50000 in
theorem kw_465 : tables_1[465]? = some (Jvm.Cond.code ⟨"AllocateSolve$Search", "allocateByRule", "()V"⟩ prog_5_method_3_code (3 : Nat) (Option.none : Option Jvm.ClassFile.FieldType)) := rfl
set_option maxRecDepth 50000 in
theorem kw_466 : tables_1[466]? = some (Jvm.Cond.methodLink "AllocateSolve$Search" (65 : Nat) ⟨"java/lang/Math", "min", "(II)I"⟩) := rfl
set_option maxRecDepth 50000 in
theorem kw_467 : tables_1[467]? = some (Jvm.Cond.methodLink "AllocateSolve$Search" (71 : Nat) ⟨"AllocateSolve$Search", "take", "(II)I"⟩) := rfl
set_option maxRecDepth 50000 in
theorem kw_469 : tables_1[469]? = some (Jvm.Cond.instanceMethod ⟨"AllocateSolve$Search", "take", "(II)I"⟩) := rfl
set_option maxRecDepth 50000 in
theorem kw_470 : tables_1[470]? = some (Jvm.Cond.code ⟨"AllocateSolve$Search", "take", "(II)I"⟩ prog_5_method_9_code (8 : Nat) (Option.some Jvm.ClassFile.FieldType.int)) := rfl
set_option maxRecDepth 50000 in
theorem kw_471 : tables_1[471]? = some (Jvm.Cond.methodLink "AllocateSolve$Search" (122 : Nat) ⟨"AllocateSolve$Search", "roundDown", "(II)I"⟩) := rfl
set_option maxRecDepth 50000 in
theorem kw_472 : tables_1[472]? = some (Jvm.Cond.static ⟨"AllocateSolve$Search", "roundDown", "(II)I"⟩) := rfl
set_option maxRecDepth 50000 in
theorem kw_473 : tables_1[473]? = some (Jvm.Cond.code ⟨"AllocateSolve$Search", "roundDown", "(II)I"⟩ prog_5_method_10_code (2 : Nat) (Option.some Jvm.ClassFile.FieldType.int)) := rfl
set_option maxRecDepth 50000 in
theorem kw_474 : tables_1[474]? = some (Jvm.Cond.methodLink "AllocateSolve$Search" (125 : Nat) ⟨"AllocateSolve$Floor", "move", "(III)V"⟩) := rfl
set_option maxRecDepth 50000 in
theorem kw_475 : tables_1[475]? = some (Jvm.Cond.methodLink "AllocateSolve$Search" (113 : Nat) ⟨"AllocateSolve$Floor", "letGo", "(I)V"⟩) := rfl
set_option maxRecDepth 50000 in
theorem kw_476 : tables_1[476]? = some (Jvm.Cond.methodLink "AllocateSolve$Search" (80 : Nat) ⟨"AllocateSolve$Floor", "totalCost", "()I"⟩) := rfl
set_option maxRecDepth 50000 in
theorem kw_477 : tables_1[477]? = some (Jvm.Cond.methodLink "AllocateSolve$Search" (87 : Nat) ⟨"AllocateSolve$Floor", "clear", "()V"⟩) := rfl
set_option maxRecDepth 50000 in
theorem kw_478 : tables_1[478]? = some (Jvm.Cond.methodLink "AllocateSolve$Search" (90 : Nat) ⟨"AllocateSolve$Search", "explore", "(LAllocateSolve$Search;II)V"⟩) := rfl
set_option maxRecDepth 50000 in
theorem kw_479 : tables_1[479]? = some (Jvm.Cond.static ⟨"AllocateSolve$Search", "explore", "(LAllocateSolve$Search;II)V"⟩) := rfl
set_option maxRecDepth 50000 in
theorem kw_480 : tables_1[480]? = some (Jvm.Cond.code ⟨"AllocateSolve$Search", "explore", "(LAllocateSolve$Search;II)V"⟩ prog_5_method_6_code (6 : Nat) (Option.none : Option Jvm.ClassFile.FieldType)) := rfl
set_option maxRecDepth 50000 in
theorem kw_481 : tables_1[481]? = some (Jvm.Cond.methodLink "AllocateSolve$Search" (98 : Nat) ⟨"AllocateSolve$Search", "keep", "(I)V"⟩) := rfl
set_option maxRecDepth 50000 in
theorem kw_483 : tables_1[483]? = some (Jvm.Cond.instanceMethod ⟨"AllocateSolve$Search", "keep", "(I)V"⟩) := rfl
set_option maxRecDepth 50000 in
theorem kw_484 : tables_1[484]? = some (Jvm.Cond.code ⟨"AllocateSolve$Search", "keep", "(I)V"⟩ prog_5_method_8_code (3 : Nat) (Option.none : Option Jvm.ClassFile.FieldType)) := rfl
set_option maxRecDepth 50000 in
theorem kw_485 : tables_1[485]? = some (Jvm.Cond.methodLink "AllocateSolve$Search" (102 : Nat) ⟨"java/lang/Integer", "bitCount", "(I)I"⟩) := rfl
set_option maxRecDepth 50000 in
theorem kw_486 : tables_1[486]? = some (Jvm.Cond.static ⟨"java/lang/Integer", "bitCount", "(I)I"⟩) := rfl
set_option maxRecDepth 50000 in
theorem kw_487 : tables_1[487]? = some (Jvm.Cond.code ⟨"java/lang/Integer", "bitCount", "(I)I"⟩ prog_12_method_49_code (1 : Nat) (Option.some Jvm.ClassFile.FieldType.int)) := rfl
set_option maxRecDepth 50000 in
theorem kw_488 : tables_1[488]? = some (Jvm.Cond.constant "java/lang/Integer" (265 : Nat) (1431655765 : Int32)) := rfl
set_option maxRecDepth 50000 in
theorem kw_489 : tables_1[489]? = some (Jvm.Cond.constant "java/lang/Integer" (266 : Nat) (858993459 : Int32)) := rfl
set_option maxRecDepth 50000 in
theorem kw_490 : tables_1[490]? = some (Jvm.Cond.constant "java/lang/Integer" (267 : Nat) (252645135 : Int32)) := rfl
set_option maxRecDepth 50000 in
theorem kw_491 : tables_1[491]? = some (Jvm.Cond.methodLink "AllocateSolve$Search" (107 : Nat) ⟨"AllocateSolve$Floor", "lineCost", "(I)I"⟩) := rfl
set_option maxRecDepth 50000 in
theorem kw_492 : tables_1[492]? = some (Jvm.Cond.methodLink "AllocateSolve$Search" (110 : Nat) ⟨"AllocateSolve$Search", "exploreBehind", "(LAllocateSolve$Search;II)V"⟩) := rfl
set_option maxRecDepth 50000 in
theorem kw_493 : tables_1[493]? = some (Jvm.Cond.static ⟨"AllocateSolve$Search", "exploreBehind", "(LAllocateSolve$Search;II)V"⟩) := rfl
set_option maxRecDepth 50000 in
theorem kw_494 : tables_1[494]? = some (Jvm.Cond.code ⟨"AllocateSolve$Search", "exploreBehind", "(LAllocateSolve$Search;II)V"⟩ prog_5_method_7_code (3 : Nat) (Option.none : Option Jvm.ClassFile.FieldType)) := rfl
set_option maxRecDepth 50000 in
theorem kw_495 : tables_1[495]? = some (Jvm.Cond.methodLink "AllocateSolve" (109 : Nat) ⟨"AllocateSolve$Search", "allocateByRule", "()V"⟩) := rfl
set_option maxRecDepth 50000 in
theorem kw_496 : tables_1[496]? = some (Jvm.Cond.methodLink "AllocateSolveLaw" (113 : Nat) ⟨"AllocateSolveLaw", "give", "(LAllocateSolve;III[J)I"⟩) := rfl
set_option maxRecDepth 50000 in
theorem kw_497 : tables_1[497]? = some (Jvm.Cond.static ⟨"AllocateSolveLaw", "give", "(LAllocateSolve;III[J)I"⟩) := rfl
set_option maxRecDepth 50000 in
theorem kw_498 : tables_1[498]? = some (Jvm.Cond.codeWith ⟨"AllocateSolveLaw", "give", "(LAllocateSolve;III[J)I"⟩ method_9_code (6 : Nat) (Option.some Jvm.ClassFile.FieldType.int) [((0 : Nat), (12 : Nat), (15 : Nat), (25 : Nat)), ((0 : Nat), (12 : Nat), (19 : Nat), (13 : Nat))]) := rfl
set_option maxRecDepth 50000 in
theorem kw_499 : tables_1[499]? = some (Jvm.Cond.methodLink "AllocateSolveLaw" (38 : Nat) ⟨"AllocateSolve", "give", "(III)I"⟩) := rfl
set_option maxRecDepth 50000 in
theorem kw_500 : tables_1[500]? = some (Jvm.Cond.instanceMethod ⟨"AllocateSolve", "give", "(III)I"⟩) := rfl
set_option maxRecDepth 50000 in
theorem kw_501 : tables_1[501]? = some (Jvm.Cond.selects "AllocateSolve" ⟨"AllocateSolve", "give", "(III)I"⟩ ⟨"AllocateSolve", "give", "(III)I"⟩) := rfl
set_option maxRecDepth 50000 in
theorem kw_502 : tables_1[502]? = some (Jvm.Cond.code ⟨"AllocateSolve", "give", "(III)I"⟩ prog_1_method_11_code (5 : Nat) (Option.some Jvm.ClassFile.FieldType.int)) := rfl
set_option maxRecDepth 50000 in
theorem kw_503 : tables_1[503]? = some (Jvm.Cond.methodLink "AllocateSolve" (119 : Nat) ⟨"AllocateSolve$Floor", "lotOfGift", "(II)I"⟩) := rfl
set_option maxRecDepth 50000 in
theorem kw_504 : tables_1[504]? = some (Jvm.Cond.instanceMethod ⟨"AllocateSolve$Floor", "lotOfGift", "(II)I"⟩) := rfl
set_option maxRecDepth 50000 in
theorem kw_505 : tables_1[505]? = some (Jvm.Cond.selects "AllocateSolve$Floor" ⟨"AllocateSolve$Floor", "lotOfGift", "(II)I"⟩ ⟨"AllocateSolve$Floor", "lotOfGift", "(II)I"⟩) := rfl
set_option maxRecDepth 50000 in
theorem kw_506 : tables_1[506]? = some (Jvm.Cond.code ⟨"AllocateSolve$Floor", "lotOfGift", "(II)I"⟩ prog_2_method_8_code (6 : Nat) (Option.some Jvm.ClassFile.FieldType.int)) := rfl
set_option maxRecDepth 50000 in
theorem kw_507 : tables_1[507]? = some (Jvm.Cond.stringRef "AllocateSolve" (124 : Nat) "no such gift") := rfl
set_option maxRecDepth 50000 in
theorem kw_508 : tables_1[508]? = some (Jvm.Cond.methodLink "AllocateSolve" (130 : Nat) ⟨"AllocateSolve$Floor", "pieceCost", "(II)I"⟩) := rfl
set_option maxRecDepth 50000 in
theorem kw_509 : tables_1[509]? = some (Jvm.Cond.methodLink "AllocateSolveLaw" (117 : Nat) ⟨"AllocateSolveLaw", "held", "(LAllocateSolve;I[J)I"⟩) := rfl
set_option maxRecDepth 50000 in
theorem kw_510 : tables_1[510]? = some (Jvm.Cond.static ⟨"AllocateSolveLaw", "held", "(LAllocateSolve;I[J)I"⟩) := rfl
set_option maxRecDepth 50000 in
theorem kw_511 : tables_1[511]? = some (Jvm.Cond.codeWith ⟨"AllocateSolveLaw", "held", "(LAllocateSolve;I[J)I"⟩ method_10_code (4 : Nat) (Option.some Jvm.ClassFile.FieldType.int) [((0 : Nat), (9 : Nat), (12 : Nat), (25 : Nat))]) := rfl
set_option maxRecDepth 50000 in
theorem kw_512 : tables_1[512]? = some (Jvm.Cond.methodLink "AllocateSolveLaw" (42 : Nat) ⟨"AllocateSolve", "held", "(I)I"⟩) := rfl
set_option maxRecDepth 50000 in
theorem kw_513 : tables_1[513]? = some (Jvm.Cond.instanceMethod ⟨"AllocateSolve", "held", "(I)I"⟩) := rfl
set_option maxRecDepth 50000 in
theorem kw_514 : tables_1[514]? = some (Jvm.Cond.selects "AllocateSolve" ⟨"AllocateSolve", "held", "(I)I"⟩ ⟨"AllocateSolve", "held", "(I)I"⟩) := rfl
set_option maxRecDepth 50000 in
theorem kw_515 : tables_1[515]? = some (Jvm.Cond.code ⟨"AllocateSolve", "held", "(I)I"⟩ prog_1_method_12_code (2 : Nat) (Option.some Jvm.ClassFile.FieldType.int)) := rfl
set_option maxRecDepth 50000 in
theorem kw_516 : tables_1[516]? = some (Jvm.Cond.methodLink "AllocateSolveLaw" (120 : Nat) ⟨"AllocateSolveLaw", "left", "(LAllocateSolve;I[J)I"⟩) := rfl
set_option maxRecDepth 50000 in
theorem kw_517 : tables_1[517]? = some (Jvm.Cond.static ⟨"AllocateSolveLaw", "left", "(LAllocateSolve;I[J)I"⟩) := rfl
set_option maxRecDepth 50000 in
theorem kw_518 : tables_1[518]? = some (Jvm.Cond.codeWith ⟨"AllocateSolveLaw", "left", "(LAllocateSolve;I[J)I"⟩ method_11_code (4 : Nat) (Option.some Jvm.ClassFile.FieldType.int) [((0 : Nat), (9 : Nat), (12 : Nat), (25 : Nat))]) := rfl
set_option maxRecDepth 50000 in
theorem kw_519 : tables_1[519]? = some (Jvm.Cond.methodLink "AllocateSolveLaw" (45 : Nat) ⟨"AllocateSolve", "left", "(I)I"⟩) := rfl
set_option maxRecDepth 50000 in
theorem kw_520 : tables_1[520]? = some (Jvm.Cond.instanceMethod ⟨"AllocateSolve", "left", "(I)I"⟩) := rfl
set_option maxRecDepth 50000 in
theorem kw_521 : tables_1[521]? = some (Jvm.Cond.selects "AllocateSolve" ⟨"AllocateSolve", "left", "(I)I"⟩ ⟨"AllocateSolve", "left", "(I)I"⟩) := rfl
set_option maxRecDepth 50000 in
theorem kw_522 : tables_1[522]? = some (Jvm.Cond.code ⟨"AllocateSolve", "left", "(I)I"⟩ prog_1_method_13_code (2 : Nat) (Option.some Jvm.ClassFile.FieldType.int)) := rfl
set_option maxRecDepth 50000 in
theorem kw_523 : tables_1[523]? = some (Jvm.Cond.methodLink "AllocateSolveLaw" (123 : Nat) ⟨"AllocateSolveLaw", "bar", "(LAllocateSolve;I[J)I"⟩) := rfl
set_option maxRecDepth 50000 in
theorem kw_524 : tables_1[524]? = some (Jvm.Cond.static ⟨"AllocateSolveLaw", "bar", "(LAllocateSolve;I[J)I"⟩) := rfl
set_option maxRecDepth 50000 in
theorem kw_525 : tables_1[525]? = some (Jvm.Cond.codeWith ⟨"AllocateSolveLaw", "bar", "(LAllocateSolve;I[J)I"⟩ method_12_code (4 : Nat) (Option.some Jvm.ClassFile.FieldType.int) [((0 : Nat), (9 : Nat), (12 : Nat), (25 : Nat))]) := rfl
set_option maxRecDepth 50000 in
theorem kw_526 : tables_1[526]? = some (Jvm.Cond.methodLink "AllocateSolveLaw" (48 : Nat) ⟨"AllocateSolve", "bar", "(I)I"⟩) := rfl
set_option maxRecDepth 50000 in
theorem kw_527 : tables_1[527]? = some (Jvm.Cond.instanceMethod ⟨"AllocateSolve", "bar", "(I)I"⟩) := rfl
set_option maxRecDepth 50000 in
theorem kw_528 : tables_1[528]? = some (Jvm.Cond.selects "AllocateSolve" ⟨"AllocateSolve", "bar", "(I)I"⟩ ⟨"AllocateSolve", "bar", "(I)I"⟩) := rfl
set_option maxRecDepth 50000 in
theorem kw_529 : tables_1[529]? = some (Jvm.Cond.code ⟨"AllocateSolve", "bar", "(I)I"⟩ prog_1_method_14_code (2 : Nat) (Option.some Jvm.ClassFile.FieldType.int)) := rfl
set_option maxRecDepth 50000 in
theorem kw_530 : tables_1[530]? = some (Jvm.Cond.methodLink "AllocateSolve" (139 : Nat) ⟨"AllocateSolve$Floor", "firstBar", "(I)I"⟩) := rfl
set_option maxRecDepth 50000 in
theorem kw_531 : tables_1[531]? = some (Jvm.Cond.instanceMethod ⟨"AllocateSolve$Floor", "firstBar", "(I)I"⟩) := rfl
set_option maxRecDepth 50000 in
theorem kw_532 : tables_1[532]? = some (Jvm.Cond.selects "AllocateSolve$Floor" ⟨"AllocateSolve$Floor", "firstBar", "(I)I"⟩ ⟨"AllocateSolve$Floor", "firstBar", "(I)I"⟩) := rfl
set_option maxRecDepth 50000 in
theorem kw_533 : tables_1[533]? = some (Jvm.Cond.code ⟨"AllocateSolve$Floor", "firstBar", "(I)I"⟩ prog_2_method_4_code (4 : Nat) (Option.some Jvm.ClassFile.FieldType.int)) := rfl
set_option maxRecDepth 50000 in
theorem kw_534 : tables_1[534]? = some (Jvm.Cond.methodLink "AllocateSolve$Floor" (52 : Nat) ⟨"java/lang/Math", "max", "(II)I"⟩) := rfl
set_option maxRecDepth 50000 in
theorem kw_535 : tables_1[535]? = some (Jvm.Cond.static ⟨"java/lang/Math", "max", "(II)I"⟩) := rfl
set_option maxRecDepth 50000 in
theorem kw_536 : tables_1[536]? = some (Jvm.Cond.code ⟨"java/lang/Math", "max", "(II)I"⟩ prog_13_method_65_code (2 : Nat) (Option.some Jvm.ClassFile.FieldType.int)) := rfl
set_option maxRecDepth 50000 in
theorem kw_537 : tables_1[537]? = some (Jvm.Cond.methodLink "AllocateSolveLaw" (126 : Nat) ⟨"AllocateSolveLaw", "change", "(LAllocateSolve;II[J)I"⟩) := rfl
set_option maxRecDepth 50000 in
theorem kw_538 : tables_1[538]? = some (Jvm.Cond.static ⟨"AllocateSolveLaw", "change", "(LAllocateSolve;II[J)I"⟩) := rfl
set_option maxRecDepth 50000 in
theorem kw_539 : tables_1[539]? = some (Jvm.Cond.codeWith ⟨"AllocateSolveLaw", "change", "(LAllocateSolve;II[J)I"⟩ method_13_code (5 : Nat) (Option.some Jvm.ClassFile.FieldType.int) [((0 : Nat), (10 : Nat), (13 : Nat), (25 : Nat)), ((0 : Nat), (10 : Nat), (17 : Nat), (13 : Nat))]) := rfl
set_option maxRecDepth 50000 in
theorem kw_540 : tables_1[540]? = some (Jvm.Cond.methodLink "AllocateSolveLaw" (51 : Nat) ⟨"AllocateSolve", "change", "(II)I"⟩) := rfl
set_option maxRecDepth 50000 in
theorem kw_541 : tables_1[541]? = some (Jvm.Cond.instanceMethod ⟨"AllocateSolve", "change", "(II)I"⟩) := rfl
set_option maxRecDepth 50000 in
theorem kw_542 : tables_1[542]? = some (Jvm.Cond.selects "AllocateSolve" ⟨"AllocateSolve", "change", "(II)I"⟩ ⟨"AllocateSolve", "change", "(II)I"⟩) := rfl
set_option maxRecDepth 50000 in
theorem kw_543 : tables_1[543]? = some (Jvm.Cond.code ⟨"AllocateSolve", "change", "(II)I"⟩ prog_1_method_15_code (3 : Nat) (Option.some Jvm.ClassFile.FieldType.int)) := rfl
set_option maxRecDepth 50000 in
theorem kw_544 : tables_1[544]? = some (Jvm.Cond.methodLink "AllocateSolve" (142 : Nat) ⟨"AllocateSolve$Floor", "setPieces", "(II)I"⟩) := rfl
set_option maxRecDepth 50000 in
theorem kw_545 : tables_1[545]? = some (Jvm.Cond.instanceMethod ⟨"AllocateSolve$Floor", "setPieces", "(II)I"⟩) := rfl
set_option maxRecDepth 50000 in
theorem kw_546 : tables_1[546]? = some (Jvm.Cond.selects "AllocateSolve$Floor" ⟨"AllocateSolve$Floor", "setPieces", "(II)I"⟩ ⟨"AllocateSolve$Floor", "setPieces", "(II)I"⟩) := rfl
set_option maxRecDepth 50000 in
theorem kw_547 : tables_1[547]? = some (Jvm.Cond.code ⟨"AllocateSolve$Floor", "setPieces", "(II)I"⟩ prog_2_method_19_code (5 : Nat) (Option.some Jvm.ClassFile.FieldType.int)) := rfl
set_option maxRecDepth 50000 in
theorem kw_548 : tables_1[548]? = some (Jvm.Cond.methodLink "AllocateSolve$Floor" (104 : Nat) ⟨"AllocateSolve$Floor", "giveUp", "(II)V"⟩) := rfl
set_option maxRecDepth 50000 in
theorem kw_550 : tables_1[550]? = some (Jvm.Cond.instanceMethod ⟨"AllocateSolve$Floor", "giveUp", "(II)V"⟩) := rfl
set_option maxRecDepth 50000 in
theorem kw_551 : tables_1[551]? = some (Jvm.Cond.code ⟨"AllocateSolve$Floor", "giveUp", "(II)V"⟩ prog_2_method_20_code (3 : Nat) (Option.none : Option Jvm.ClassFile.FieldType)) := rfl
set_option maxRecDepth 50000 in
theorem kw_552 : tables_1[552]? = some (Jvm.Cond.methodLink "AllocateSolveLaw" (129 : Nat) ⟨"AllocateSolveLaw", "undo", "(LAllocateSolve;I[J)I"⟩) := rfl
set_option maxRecDepth 50000 in
theorem kw_553 : tables_1[553]? = some (Jvm.Cond.static ⟨"AllocateSolveLaw", "undo", "(LAllocateSolve;I[J)I"⟩) := rfl
set_option maxRecDepth 50000 in
theorem kw_554 : tables_1[554]? = some (Jvm.Cond.codeWith ⟨"AllocateSolveLaw", "undo", "(LAllocateSolve;I[J)I"⟩ method_14_code (4 : Nat) (Option.some Jvm.ClassFile.FieldType.int) [((0 : Nat), (9 : Nat), (12 : Nat), (25 : Nat)), ((0 : Nat), (9 : Nat), (15 : Nat), (57 : Nat))]) := rfl
set_option maxRecDepth 50000 in
theorem kw_555 : tables_1[555]? = some (Jvm.Cond.classLink "AllocateSolveLaw" (57 : Nat) "java/lang/IllegalStateException") := rfl
set_option maxRecDepth 50000 in
theorem kw_556 : tables_1[556]? = some (Jvm.Cond.methodLink "AllocateSolveLaw" (54 : Nat) ⟨"AllocateSolve", "undo", "(I)I"⟩) := rfl
set_option maxRecDepth 50000 in
theorem kw_557 : tables_1[557]? = some (Jvm.Cond.instanceMethod ⟨"AllocateSolve", "undo", "(I)I"⟩) := rfl
set_option maxRecDepth 50000 in
theorem kw_558 : tables_1[558]? = some (Jvm.Cond.selects "AllocateSolve" ⟨"AllocateSolve", "undo", "(I)I"⟩ ⟨"AllocateSolve", "undo", "(I)I"⟩) := rfl
set_option maxRecDepth 50000 in
theorem kw_559 : tables_1[559]? = some (Jvm.Cond.code ⟨"AllocateSolve", "undo", "(I)I"⟩ prog_1_method_16_code (3 : Nat) (Option.some Jvm.ClassFile.FieldType.int)) := rfl
set_option maxRecDepth 50000 in
theorem kw_560 : tables_1[560]? = some (Jvm.Cond.methodLink "AllocateSolve" (145 : Nat) ⟨"AllocateSolve$Floor", "piecesOf", "(I)I"⟩) := rfl
set_option maxRecDepth 50000 in
theorem kw_561 : tables_1[561]? = some (Jvm.Cond.classLink "AllocateSolve" (148 : Nat) "java/lang/IllegalStateException") := rfl
set_option maxRecDepth 50000 in
theorem kw_562 : tables_1[562]? = some (Jvm.Cond.instantiable "java/lang/IllegalStateException" (6 : Nat)) := rfl
set_option maxRecDepth 50000 in
theorem kw_563 : tables_1[563]? = some (Jvm.Cond.castable "java/lang/IllegalStateException" "java/lang/IllegalStateException") := rfl
set_option maxRecDepth 50000 in
theorem kw_564 : tables_1[564]? = some (Jvm.Cond.selects "java/lang/IllegalStateException" ⟨"java/lang/Throwable", "fillInStackTrace", "(I)Ljava/lang/Throwable;"⟩ ⟨"java/lang/Throwable", "fillInStackTrace", "(I)Ljava/lang/Throwable;"⟩) := rfl
set_option maxRecDepth 50000 in
theorem kw_570 : tables_1[570]? = some (Jvm.Cond.stringRef "AllocateSolve" (150 : Nat) "the line holds nothing") := rfl
set_option maxRecDepth 50000 in
theorem kw_571 : tables_1[571]? = some (Jvm.Cond.methodLink "AllocateSolve" (152 : Nat) ⟨"java/lang/IllegalStateException", "<init>", "(Ljava/lang/String;)V"⟩) := rfl
set_option maxRecDepth 50000 in
theorem kw_572 : tables_1[572]? = some (Jvm.Cond.instanceMethod ⟨"java/lang/IllegalStateException", "<init>", "(Ljava/lang/String;)V"⟩) := rfl
set_option maxRecDepth 50000 in
theorem kw_573 : tables_1[573]? = some (Jvm.Cond.code ⟨"java/lang/IllegalStateException", "<init>", "(Ljava/lang/String;)V"⟩ prog_11_method_2_code (2 : Nat) (Option.none : Option Jvm.ClassFile.FieldType)) := rfl
set_option maxRecDepth 50000 in
theorem kw_574 : tables_1[574]? = some (Jvm.Cond.methodLink "java/lang/IllegalStateException" (7 : Nat) ⟨"java/lang/RuntimeException", "<init>", "(Ljava/lang/String;)V"⟩) := rfl
set_option maxRecDepth 50000 in
theorem kw_577 : tables_1[577]? = some (Jvm.Cond.methodLink "AllocateSolve" (153 : Nat) ⟨"AllocateSolve$Floor", "letGo", "(I)V"⟩) := rfl
set_option maxRecDepth 50000 in
theorem kw_578 : tables_1[578]? = some (Jvm.Cond.methodLink "AllocateSolveLaw" (132 : Nat) ⟨"AllocateSolveLaw", "refused", "(LAllocateSolve;I[J)I"⟩) := rfl
set_option maxRecDepth 50000 in
theorem kw_579 : tables_1[579]? = some (Jvm.Cond.static ⟨"AllocateSolveLaw", "refused", "(LAllocateSolve;I[J)I"⟩) := rfl
set_option maxRecDepth 50000 in
theorem kw_580 : tables_1[580]? = some (Jvm.Cond.codeWith ⟨"AllocateSolveLaw", "refused", "(LAllocateSolve;I[J)I"⟩ method_15_code (4 : Nat) (Option.some Jvm.ClassFile.FieldType.int) [((0 : Nat), (9 : Nat), (12 : Nat), (25 : Nat))]) := rfl
set_option maxRecDepth 50000 in
theorem kw_581 : tables_1[581]? = some (Jvm.Cond.methodLink "AllocateSolveLaw" (59 : Nat) ⟨"AllocateSolve", "refused", "(I)I"⟩) := rfl
set_option maxRecDepth 50000 in
theorem kw_582 : tables_1[582]? = some (Jvm.Cond.instanceMethod ⟨"AllocateSolve", "refused", "(I)I"⟩) := rfl
set_option maxRecDepth 50000 in
theorem kw_583 : tables_1[583]? = some (Jvm.Cond.selects "AllocateSolve" ⟨"AllocateSolve", "refused", "(I)I"⟩ ⟨"AllocateSolve", "refused", "(I)I"⟩) := rfl
set_option maxRecDepth 50000 in
theorem kw_584 : tables_1[584]? = some (Jvm.Cond.code ⟨"AllocateSolve", "refused", "(I)I"⟩ prog_1_method_17_code (2 : Nat) (Option.some Jvm.ClassFile.FieldType.int)) := rfl
set_option maxRecDepth 50000 in
theorem kw_585 : tables_1[585]? = some (Jvm.Cond.methodLink "AllocateSolveLaw" (135 : Nat) ⟨"AllocateSolveLaw", "average", "(LAllocateSolve;I[J)I"⟩) := rfl
set_option maxRecDepth 50000 in
theorem kw_586 : tables_1[586]? = some (Jvm.Cond.static ⟨"AllocateSolveLaw", "average", "(LAllocateSolve;I[J)I"⟩) := rfl
set_option maxRecDepth 50000 in
theorem kw_587 : tables_1[587]? = some (Jvm.Cond.codeWith ⟨"AllocateSolveLaw", "average", "(LAllocateSolve;I[J)I"⟩ method_16_code (4 : Nat) (Option.some Jvm.ClassFile.FieldType.int) [((0 : Nat), (9 : Nat), (12 : Nat), (25 : Nat)), ((0 : Nat), (9 : Nat), (15 : Nat), (65 : Nat))]) := rfl
set_option maxRecDepth 50000 in
theorem kw_588 : tables_1[588]? = some (Jvm.Cond.classLink "AllocateSolveLaw" (65 : Nat) "java/lang/ArithmeticException") := rfl
set_option maxRecDepth 50000 in
theorem kw_589 : tables_1[589]? = some (Jvm.Cond.methodLink "AllocateSolveLaw" (62 : Nat) ⟨"AllocateSolve", "average", "(I)I"⟩) := rfl
set_option maxRecDepth 50000 in
theorem kw_590 : tables_1[590]? = some (Jvm.Cond.instanceMethod ⟨"AllocateSolve", "average", "(I)I"⟩) := rfl
set_option maxRecDepth 50000 in
theorem kw_591 : tables_1[591]? = some (Jvm.Cond.selects "AllocateSolve" ⟨"AllocateSolve", "average", "(I)I"⟩ ⟨"AllocateSolve", "average", "(I)I"⟩) := rfl
set_option maxRecDepth 50000 in
theorem kw_592 : tables_1[592]? = some (Jvm.Cond.code ⟨"AllocateSolve", "average", "(I)I"⟩ prog_1_method_18_code (3 : Nat) (Option.some Jvm.ClassFile.FieldType.int)) := rfl
set_option maxRecDepth 50000 in
theorem kw_593 : tables_1[593]? = some (Jvm.Cond.classLink "AllocateSolve" (159 : Nat) "java/lang/ArithmeticException") := rfl
set_option maxRecDepth 50000 in
theorem kw_594 : tables_1[594]? = some (Jvm.Cond.instantiable "java/lang/ArithmeticException" (6 : Nat)) := rfl
set_option maxRecDepth 50000 in
theorem kw_595 : tables_1[595]? = some (Jvm.Cond.castable "java/lang/ArithmeticException" "java/lang/ArithmeticException") := rfl
set_option maxRecDepth 50000 in
theorem kw_596 : tables_1[596]? = some (Jvm.Cond.selects "java/lang/ArithmeticException" ⟨"java/lang/Throwable", "fillInStackTrace", "(I)Ljava/lang/Throwable;"⟩ ⟨"java/lang/Throwable", "fillInStackTrace", "(I)Ljava/lang/Throwable;"⟩) := rfl
set_option maxRecDepth 50000 in
theorem kw_602 : tables_1[602]? = some (Jvm.Cond.stringRef "AllocateSolve" (161 : Nat) "/ by zero") := rfl
set_option maxRecDepth 50000 in
theorem kw_603 : tables_1[603]? = some (Jvm.Cond.methodLink "AllocateSolve" (163 : Nat) ⟨"java/lang/ArithmeticException", "<init>", "(Ljava/lang/String;)V"⟩) := rfl
set_option maxRecDepth 50000 in
theorem kw_604 : tables_1[604]? = some (Jvm.Cond.instanceMethod ⟨"java/lang/ArithmeticException", "<init>", "(Ljava/lang/String;)V"⟩) := rfl
set_option maxRecDepth 50000 in
theorem kw_605 : tables_1[605]? = some (Jvm.Cond.code ⟨"java/lang/ArithmeticException", "<init>", "(Ljava/lang/String;)V"⟩ prog_8_method_2_code (2 : Nat) (Option.none : Option Jvm.ClassFile.FieldType)) := rfl
set_option maxRecDepth 50000 in
theorem kw_606 : tables_1[606]? = some (Jvm.Cond.methodLink "java/lang/ArithmeticException" (7 : Nat) ⟨"java/lang/RuntimeException", "<init>", "(Ljava/lang/String;)V"⟩) := rfl
set_option maxRecDepth 50000 in
theorem kw_609 : tables_1[609]? = some (Jvm.Cond.methodLink "AllocateSolve" (164 : Nat) ⟨"AllocateSolve$Floor", "costOfPieces", "(I)I"⟩) := rfl
set_option maxRecDepth 50000 in
theorem kw_610 : tables_1[610]? = some (Jvm.Cond.instanceMethod ⟨"AllocateSolve$Floor", "costOfPieces", "(I)I"⟩) := rfl
set_option maxRecDepth 50000 in
theorem kw_611 : tables_1[611]? = some (Jvm.Cond.selects "AllocateSolve$Floor" ⟨"AllocateSolve$Floor", "costOfPieces", "(I)I"⟩ ⟨"AllocateSolve$Floor", "costOfPieces", "(I)I"⟩) := rfl
set_option maxRecDepth 50000 in
theorem kw_612 : tables_1[612]? = some (Jvm.Cond.code ⟨"AllocateSolve$Floor", "costOfPieces", "(I)I"⟩ prog_2_method_11_code (4 : Nat) (Option.some Jvm.ClassFile.FieldType.int)) := rfl
set_option maxRecDepth 50000 in
theorem kw_613 : tables_1[613]? = some (Jvm.Cond.classLink "AllocateSolveLaw" (68 : Nat) "AllocateSolveModel") := rfl
set_option maxRecDepth 50000 in
theorem kw_614 : tables_1[614]? = some (Jvm.Cond.instantiable "AllocateSolveModel" (21 : Nat)) := rfl
set_option maxRecDepth 50000 in
theorem kw_615 : tables_1[615]? = some (Jvm.Cond.methodLink "AllocateSolveLaw" (70 : Nat) ⟨"AllocateSolveModel", "<init>", "()V"⟩) := rfl
set_option maxRecDepth 50000 in
theorem kw_616 : tables_1[616]? = some (Jvm.Cond.instanceMethod ⟨"AllocateSolveModel", "<init>", "()V"⟩) := rfl
set_option maxRecDepth 50000 in
theorem kw_617 : tables_1[617]? = some (Jvm.Cond.code ⟨"AllocateSolveModel", "<init>", "()V"⟩ prog_7_method_1_code (2 : Nat) (Option.none : Option Jvm.ClassFile.FieldType)) := rfl
set_option maxRecDepth 50000 in
theorem kw_618 : tables_1[618]? = some (Jvm.Cond.methodLink "AllocateSolveModel" (1 : Nat) ⟨"java/lang/Object", "<init>", "()V"⟩) := rfl
set_option maxRecDepth 50000 in
theorem kw_619 : tables_1[619]? = some (Jvm.Cond.fieldLink "AllocateSolveModel" (62 : Nat) "AllocateSolveModel" "code" "I") := rfl
set_option maxRecDepth 50000 in
theorem kw_620 : tables_1[620]? = some (Jvm.Cond.fieldLink "AllocateSolveModel" (66 : Nat) "AllocateSolveModel" "lots" "I") := rfl
set_option maxRecDepth 50000 in
theorem kw_621 : tables_1[621]? = some (Jvm.Cond.fieldLink "AllocateSolveModel" (7 : Nat) "AllocateSolveModel" "place" "[I") := rfl
set_option maxRecDepth 50000 in
theorem kw_622 : tables_1[622]? = some (Jvm.Cond.fieldLink "AllocateSolveModel" (13 : Nat) "AllocateSolveModel" "good" "[I") := rfl
set_option maxRecDepth 50000 in
theorem kw_623 : tables_1[623]? = some (Jvm.Cond.fieldLink "AllocateSolveModel" (16 : Nat) "AllocateSolveModel" "pieces" "[I") := rfl
set_option maxRecDepth 50000 in
theorem kw_624 : tables_1[624]? = some (Jvm.Cond.fieldLink "AllocateSolveModel" (19 : Nat) "AllocateSolveModel" "until" "[I") := rfl
set_option maxRecDepth 50000 in
theorem kw_625 : tables_1[625]? = some (Jvm.Cond.fieldLink "AllocateSolveModel" (73 : Nat) "AllocateSolveModel" "lines" "I") := rfl
set_option maxRecDepth 50000 in
theorem kw_626 : tables_1[626]? = some (Jvm.Cond.fieldLink "AllocateSolveModel" (22 : Nat) "AllocateSolveModel" "wish" "[I") := rfl
set_option maxRecDepth 50000 in
theorem kw_627 : tables_1[627]? = some (Jvm.Cond.fieldLink "AllocateSolveModel" (25 : Nat) "AllocateSolveModel" "many" "[I") := rfl
set_option maxRecDepth 50000 in
theorem kw_628 : tables_1[628]? = some (Jvm.Cond.fieldLink "AllocateSolveModel" (28 : Nat) "AllocateSolveModel" "rules" "[I") := rfl
set_option maxRecDepth 50000 in
theorem kw_629 : tables_1[629]? = some (Jvm.Cond.fieldLink "AllocateSolveModel" (31 : Nat) "AllocateSolveModel" "told" "[I") := rfl
set_option maxRecDepth 50000 in
theorem kw_630 : tables_1[630]? = some (Jvm.Cond.fieldLink "AllocateSolveModel" (34 : Nat) "AllocateSolveModel" "barred" "[Z") := rfl
set_option maxRecDepth 50000 in
theorem kw_631 : tables_1[631]? = some (Jvm.Cond.fieldLink "AllocateSolveModel" (38 : Nat) "AllocateSolveModel" "holds" "[I") := rfl
set_option maxRecDepth 50000 in
theorem kw_632 : tables_1[632]? = some (Jvm.Cond.fieldLink "AllocateSolveModel" (128 : Nat) "AllocateSolveModel" "exact" "Z") := rfl
set_option maxRecDepth 50000 in
theorem kw_633 : tables_1[633]? = some (Jvm.Cond.fieldLink "AllocateSolveModel" (41 : Nat) "AllocateSolveModel" "allowed" "[I") := rfl
set_option maxRecDepth 50000 in
theorem kw_634 : tables_1[634]? = some (Jvm.Cond.fieldLink "AllocateSolveModel" (44 : Nat) "AllocateSolveModel" "allowedCount" "[I") := rfl
set_option maxRecDepth 50000 in
theorem kw_635 : tables_1[635]? = some (Jvm.Cond.fieldLink "AllocateSolveModel" (47 : Nat) "AllocateSolveModel" "sets" "[I") := rfl
set_option maxRecDepth 50000 in
theorem kw_636 : tables_1[636]? = some (Jvm.Cond.fieldLink "AllocateSolveModel" (50 : Nat) "AllocateSolveModel" "bestSets" "[I") := rfl
set_option maxRecDepth 50000 in
theorem kw_637 : tables_1[637]? = some (Jvm.Cond.fieldLink "AllocateSolveModel" (53 : Nat) "AllocateSolveModel" "rest" "[I") := rfl
set_option maxRecDepth 50000 in
theorem kw_638 : tables_1[638]? = some (Jvm.Cond.fieldLink "AllocateSolveModel" (56 : Nat) "AllocateSolveModel" "spent" "[I") := rfl
set_option maxRecDepth 50000 in
theorem kw_639 : tables_1[639]? = some (Jvm.Cond.fieldLink "AllocateSolveModel" (59 : Nat) "AllocateSolveModel" "taken" "[I") := rfl
set_option maxRecDepth 50000 in
theorem kw_640 : tables_1[640]? = some (Jvm.Cond.lays "AllocateSolveModel" "AllocateSolveModel" "code" "I") := rfl
set_option maxRecDepth 50000 in
theorem kw_642 : tables_1[642]? = some (Jvm.Cond.lays "AllocateSolveModel" "AllocateSolveModel" "lots" "I") := rfl
set_option maxRecDepth 50000 in
theorem kw_644 : tables_1[644]? = some (Jvm.Cond.laysFinal "AllocateSolveModel" "AllocateSolveModel" "place" "[I") := rfl
set_option maxRecDepth 50000 in
theorem kw_646 : tables_1[646]? = some (Jvm.Cond.laysFinal "AllocateSolveModel" "AllocateSolveModel" "good" "[I") := rfl
set_option maxRecDepth 50000 in
theorem kw_648 : tables_1[648]? = some (Jvm.Cond.laysFinal "AllocateSolveModel" "AllocateSolveModel" "pieces" "[I") := rfl
set_option maxRecDepth 50000 in
theorem kw_650 : tables_1[650]? = some (Jvm.Cond.laysFinal "AllocateSolveModel" "AllocateSolveModel" "until" "[I") := rfl
set_option maxRecDepth 50000 in
theorem kw_652 : tables_1[652]? = some (Jvm.Cond.lays "AllocateSolveModel" "AllocateSolveModel" "lines" "I") := rfl
set_option maxRecDepth 50000 in
theorem kw_654 : tables_1[654]? = some (Jvm.Cond.laysFinal "AllocateSolveModel" "AllocateSolveModel" "wish" "[I") := rfl
set_option maxRecDepth 50000 in
theorem kw_656 : tables_1[656]? = some (Jvm.Cond.laysFinal "AllocateSolveModel" "AllocateSolveModel" "many" "[I") := rfl
set_option maxRecDepth 50000 in
theorem kw_658 : tables_1[658]? = some (Jvm.Cond.laysFinal "AllocateSolveModel" "AllocateSolveModel" "rules" "[I") := rfl
set_option maxRecDepth 50000 in
theorem kw_660 : tables_1[660]? = some (Jvm.Cond.laysFinal "AllocateSolveModel" "AllocateSolveModel" "told" "[I") := rfl
set_option maxRecDepth 50000 in
theorem kw_662 : tables_1[662]? = some (Jvm.Cond.laysFinal "AllocateSolveModel" "AllocateSolveModel" "barred" "[Z") := rfl
set_option maxRecDepth 50000 in
theorem kw_664 : tables_1[664]? = some (Jvm.Cond.laysFinal "AllocateSolveModel" "AllocateSolveModel" "holds" "[I") := rfl
set_option maxRecDepth 50000 in
theorem kw_666 : tables_1[666]? = some (Jvm.Cond.lays "AllocateSolveModel" "AllocateSolveModel" "exact" "Z") := rfl
set_option maxRecDepth 50000 in
theorem kw_668 : tables_1[668]? = some (Jvm.Cond.laysFinal "AllocateSolveModel" "AllocateSolveModel" "allowed" "[I") := rfl
set_option maxRecDepth 50000 in
theorem kw_670 : tables_1[670]? = some (Jvm.Cond.laysFinal "AllocateSolveModel" "AllocateSolveModel" "allowedCount" "[I") := rfl
set_option maxRecDepth 50000 in
theorem kw_672 : tables_1[672]? = some (Jvm.Cond.laysFinal "AllocateSolveModel" "AllocateSolveModel" "sets" "[I") := rfl
set_option maxRecDepth 50000 in
theorem kw_674 : tables_1[674]? = some (Jvm.Cond.laysFinal "AllocateSolveModel" "AllocateSolveModel" "bestSets" "[I") := rfl
set_option maxRecDepth 50000 in
theorem kw_676 : tables_1[676]? = some (Jvm.Cond.laysFinal "AllocateSolveModel" "AllocateSolveModel" "rest" "[I") := rfl
set_option maxRecDepth 50000 in
theorem kw_678 : tables_1[678]? = some (Jvm.Cond.laysFinal "AllocateSolveModel" "AllocateSolveModel" "spent" "[I") := rfl
set_option maxRecDepth 50000 in
theorem kw_680 : tables_1[680]? = some (Jvm.Cond.laysFinal "AllocateSolveModel" "AllocateSolveModel" "taken" "[I") := rfl
set_option maxRecDepth 50000 in
theorem kw_683 : tables_1[683]? = some (Jvm.Cond.arrayClass Jvm.ClassFile.FieldType.boolean) := rfl
set_option maxRecDepth 50000 in
theorem kw_684 : tables_1[684]? = some (Jvm.Cond.methodLink "AllocateSolveLaw" (77 : Nat) ⟨"AllocateSolveModel", "thrown", "()I"⟩) := rfl
set_option maxRecDepth 50000 in
theorem kw_685 : tables_1[685]? = some (Jvm.Cond.instanceMethod ⟨"AllocateSolveModel", "thrown", "()I"⟩) := rfl
set_option maxRecDepth 50000 in
theorem kw_686 : tables_1[686]? = some (Jvm.Cond.selects "AllocateSolveModel" ⟨"AllocateSolveModel", "thrown", "()I"⟩ ⟨"AllocateSolveModel", "thrown", "()I"⟩) := rfl
set_option maxRecDepth 50000 in
theorem kw_687 : tables_1[687]? = some (Jvm.Cond.code ⟨"AllocateSolveModel", "thrown", "()I"⟩ prog_7_method_2_code (1 : Nat) (Option.some Jvm.ClassFile.FieldType.int)) := rfl
set_option maxRecDepth 50000 in
theorem kw_688 : tables_1[688]? = some (Jvm.Cond.methodLink "AllocateSolveLaw" (76 : Nat) ⟨"AllocateSolveModel", "lot", "(IIII)I"⟩) := rfl
set_option maxRecDepth 50000 in
theorem kw_689 : tables_1[689]? = some (Jvm.Cond.instanceMethod ⟨"AllocateSolveModel", "lot", "(IIII)I"⟩) := rfl
set_option maxRecDepth 50000 in
theorem kw_690 : tables_1[690]? = some (Jvm.Cond.selects "AllocateSolveModel" ⟨"AllocateSolveModel", "lot", "(IIII)I"⟩ ⟨"AllocateSolveModel", "lot", "(IIII)I"⟩) := rfl
set_option maxRecDepth 50000 in
theorem kw_691 : tables_1[691]? = some (Jvm.Cond.code ⟨"AllocateSolveModel", "lot", "(IIII)I"⟩ prog_7_method_6_code (5 : Nat) (Option.some Jvm.ClassFile.FieldType.int)) := rfl
set_option maxRecDepth 50000 in
theorem kw_692 : tables_1[692]? = some (Jvm.Cond.methodLink "AllocateSolveModel" (69 : Nat) ⟨"AllocateSolveModel", "in", "(III)Z"⟩) := rfl
set_option maxRecDepth 50000 in
theorem kw_693 : tables_1[693]? = some (Jvm.Cond.static ⟨"AllocateSolveModel", "in", "(III)Z"⟩) := rfl
set_option maxRecDepth 50000 in
theorem kw_694 : tables_1[694]? = some (Jvm.Cond.code ⟨"AllocateSolveModel", "in", "(III)Z"⟩ prog_7_method_3_code (3 : Nat) (Option.some Jvm.ClassFile.FieldType.boolean)) := rfl
set_option maxRecDepth 50000 in
theorem kw_695 : tables_1[695]? = some (Jvm.Cond.methodLink "AllocateSolveLaw" (84 : Nat) ⟨"AllocateSolveModel", "line", "(II)I"⟩) := rfl
set_option maxRecDepth 50000 in
theorem kw_696 : tables_1[696]? = some (Jvm.Cond.instanceMethod ⟨"AllocateSolveModel", "line", "(II)I"⟩) := rfl
set_option maxRecDepth 50000 in
theorem kw_697 : tables_1[697]? = some (Jvm.Cond.selects "AllocateSolveModel" ⟨"AllocateSolveModel", "line", "(II)I"⟩ ⟨"AllocateSolveModel", "line", "(II)I"⟩) := rfl
set_option maxRecDepth 50000 in
theorem kw_698 : tables_1[698]? = some (Jvm.Cond.code ⟨"AllocateSolveModel", "line", "(II)I"⟩ prog_7_method_7_code (3 : Nat) (Option.some Jvm.ClassFile.FieldType.int)) := rfl
set_option maxRecDepth 50000 in
theorem kw_699 : tables_1[699]? = some (Jvm.Cond.methodLink "AllocateSolveLaw" (88 : Nat) ⟨"AllocateSolveModel", "rule", "(III)V"⟩) := rfl
set_option maxRecDepth 50000 in
theorem kw_700 : tables_1[700]? = some (Jvm.Cond.instanceMethod ⟨"AllocateSolveModel", "rule", "(III)V"⟩) := rfl
set_option maxRecDepth 50000 in
theorem kw_701 : tables_1[701]? = some (Jvm.Cond.selects "AllocateSolveModel" ⟨"AllocateSolveModel", "rule", "(III)V"⟩ ⟨"AllocateSolveModel", "rule", "(III)V"⟩) := rfl
set_option maxRecDepth 50000 in
theorem kw_702 : tables_1[702]? = some (Jvm.Cond.code ⟨"AllocateSolveModel", "rule", "(III)V"⟩ prog_7_method_9_code (4 : Nat) (Option.none : Option Jvm.ClassFile.FieldType)) := rfl
set_option maxRecDepth 50000 in
theorem kw_703 : tables_1[703]? = some (Jvm.Cond.methodLink "AllocateSolveModel" (76 : Nat) ⟨"AllocateSolveModel", "isLine", "(I)Z"⟩) := rfl
set_option maxRecDepth 50000 in
theorem kw_705 : tables_1[705]? = some (Jvm.Cond.instanceMethod ⟨"AllocateSolveModel", "isLine", "(I)Z"⟩) := rfl
set_option maxRecDepth 50000 in
theorem kw_706 : tables_1[706]? = some (Jvm.Cond.code ⟨"AllocateSolveModel", "isLine", "(I)Z"⟩ prog_7_method_5_code (2 : Nat) (Option.some Jvm.ClassFile.FieldType.boolean)) := rfl
set_option maxRecDepth 50000 in
theorem kw_707 : tables_1[707]? = some (Jvm.Cond.methodLink "AllocateSolveModel" (80 : Nat) ⟨"AllocateSolveModel", "isRule", "(II)Z"⟩) := rfl
set_option maxRecDepth 50000 in
theorem kw_708 : tables_1[708]? = some (Jvm.Cond.static ⟨"AllocateSolveModel", "isRule", "(II)Z"⟩) := rfl
set_option maxRecDepth 50000 in
theorem kw_709 : tables_1[709]? = some (Jvm.Cond.code ⟨"AllocateSolveModel", "isRule", "(II)Z"⟩ prog_7_method_8_code (2 : Nat) (Option.some Jvm.ClassFile.FieldType.boolean)) := rfl
set_option maxRecDepth 50000 in
theorem kw_710 : tables_1[710]? = some (Jvm.Cond.methodLink "AllocateSolveLaw" (91 : Nat) ⟨"AllocateSolveModel", "cost", "(III)V"⟩) := rfl
set_option maxRecDepth 50000 in
theorem kw_711 : tables_1[711]? = some (Jvm.Cond.instanceMethod ⟨"AllocateSolveModel", "cost", "(III)V"⟩) := rfl
set_option maxRecDepth 50000 in
theorem kw_712 : tables_1[712]? = some (Jvm.Cond.selects "AllocateSolveModel" ⟨"AllocateSolveModel", "cost", "(III)V"⟩ ⟨"AllocateSolveModel", "cost", "(III)V"⟩) := rfl
set_option maxRecDepth 50000 in
theorem kw_713 : tables_1[713]? = some (Jvm.Cond.code ⟨"AllocateSolveModel", "cost", "(III)V"⟩ prog_7_method_10_code (4 : Nat) (Option.none : Option Jvm.ClassFile.FieldType)) := rfl
set_option maxRecDepth 50000 in
theorem kw_714 : tables_1[714]? = some (Jvm.Cond.methodLink "AllocateSolveModel" (84 : Nat) ⟨"AllocateSolveModel", "isLot", "(I)Z"⟩) := rfl
set_option maxRecDepth 50000 in
theorem kw_716 : tables_1[716]? = some (Jvm.Cond.instanceMethod ⟨"AllocateSolveModel", "isLot", "(I)Z"⟩) := rfl
set_option maxRecDepth 50000 in
theorem kw_717 : tables_1[717]? = some (Jvm.Cond.code ⟨"AllocateSolveModel", "isLot", "(I)Z"⟩ prog_7_method_4_code (2 : Nat) (Option.some Jvm.ClassFile.FieldType.boolean)) := rfl
set_option maxRecDepth 50000 in
theorem kw_718 : tables_1[718]? = some (Jvm.Cond.methodLink "AllocateSolveLaw" (95 : Nat) ⟨"AllocateSolveModel", "may", "(IIZ)Z"⟩) := rfl
set_option maxRecDepth 50000 in
theorem kw_719 : tables_1[719]? = some (Jvm.Cond.instanceMethod ⟨"AllocateSolveModel", "may", "(IIZ)Z"⟩) := rfl
set_option maxRecDepth 50000 in
theorem kw_720 : tables_1[720]? = some (Jvm.Cond.selects "AllocateSolveModel" ⟨"AllocateSolveModel", "may", "(IIZ)Z"⟩ ⟨"AllocateSolveModel", "may", "(IIZ)Z"⟩) := rfl
set_option maxRecDepth 50000 in
theorem kw_721 : tables_1[721]? = some (Jvm.Cond.code ⟨"AllocateSolveModel", "may", "(IIZ)Z"⟩ prog_7_method_14_code (4 : Nat) (Option.some Jvm.ClassFile.FieldType.boolean)) := rfl
set_option maxRecDepth 50000 in
theorem kw_722 : tables_1[722]? = some (Jvm.Cond.methodLink "AllocateSolveModel" (90 : Nat) ⟨"AllocateSolveModel", "isAllowed", "(II)Z"⟩) := rfl
set_option maxRecDepth 50000 in
theorem kw_724 : tables_1[724]? = some (Jvm.Cond.instanceMethod ⟨"AllocateSolveModel", "isAllowed", "(II)Z"⟩) := rfl
set_option maxRecDepth 50000 in
theorem kw_725 : tables_1[725]? = some (Jvm.Cond.code ⟨"AllocateSolveModel", "isAllowed", "(II)Z"⟩ prog_7_method_12_code (3 : Nat) (Option.some Jvm.ClassFile.FieldType.boolean)) := rfl
set_option maxRecDepth 50000 in
theorem kw_726 : tables_1[726]? = some (Jvm.Cond.methodLink "AllocateSolveModel" (87 : Nat) ⟨"AllocateSolveModel", "passes", "(III)Z"⟩) := rfl
set_option maxRecDepth 50000 in
theorem kw_728 : tables_1[728]? = some (Jvm.Cond.instanceMethod ⟨"AllocateSolveModel", "passes", "(III)Z"⟩) := rfl
set_option maxRecDepth 50000 in
theorem kw_729 : tables_1[729]? = some (Jvm.Cond.code ⟨"AllocateSolveModel", "passes", "(III)Z"⟩ prog_7_method_11_code (4 : Nat) (Option.some Jvm.ClassFile.FieldType.boolean)) := rfl
set_option maxRecDepth 50000 in
theorem kw_730 : tables_1[730]? = some (Jvm.Cond.methodLink "AllocateSolveLaw" (99 : Nat) ⟨"AllocateSolveModel", "solve", "(I)I"⟩) := rfl
set_option maxRecDepth 50000 in
theorem kw_731 : tables_1[731]? = some (Jvm.Cond.instanceMethod ⟨"AllocateSolveModel", "solve", "(I)I"⟩) := rfl
set_option maxRecDepth 50000 in
theorem kw_732 : tables_1[732]? = some (Jvm.Cond.selects "AllocateSolveModel" ⟨"AllocateSolveModel", "solve", "(I)I"⟩ ⟨"AllocateSolveModel", "solve", "(I)I"⟩) := rfl
set_option maxRecDepth 50000 in
theorem kw_733 : tables_1[733]? = some (Jvm.Cond.code ⟨"AllocateSolveModel", "solve", "(I)I"⟩ prog_7_method_25_code (4 : Nat) (Option.some Jvm.ClassFile.FieldType.int)) := rfl
set_option maxRecDepth 50000 in
theorem kw_734 : tables_1[734]? = some (Jvm.Cond.constant "AllocateSolveModel" (120 : Nat) (40000 : Int32)) := rfl
set_option maxRecDepth 50000 in
theorem kw_735 : tables_1[735]? = some (Jvm.Cond.methodLink "AllocateSolveModel" (121 : Nat) ⟨"AllocateSolveModel", "layOut", "()V"⟩) := rfl
set_option maxRecDepth 50000 in
theorem kw_737 : tables_1[737]? = some (Jvm.Cond.instanceMethod ⟨"AllocateSolveModel", "layOut", "()V"⟩) := rfl
set_option maxRecDepth 50000 in
theorem kw_738 : tables_1[738]? = some (Jvm.Cond.code ⟨"AllocateSolveModel", "layOut", "()V"⟩ prog_7_method_17_code (4 : Nat) (Option.none : Option Jvm.ClassFile.FieldType)) := rfl
set_option maxRecDepth 50000 in
theorem kw_739 : tables_1[739]? = some (Jvm.Cond.methodLink "AllocateSolveModel" (96 : Nat) ⟨"AllocateSolveModel", "lotAt", "(I)I"⟩) := rfl
set_option maxRecDepth 50000 in
theorem kw_741 : tables_1[741]? = some (Jvm.Cond.instanceMethod ⟨"AllocateSolveModel", "lotAt", "(I)I"⟩) := rfl
set_option maxRecDepth 50000 in
theorem kw_742 : tables_1[742]? = some (Jvm.Cond.code ⟨"AllocateSolveModel", "lotAt", "(I)I"⟩ prog_7_method_16_code (5 : Nat) (Option.some Jvm.ClassFile.FieldType.int)) := rfl
set_option maxRecDepth 50000 in
theorem kw_743 : tables_1[743]? = some (Jvm.Cond.methodLink "AllocateSolveModel" (93 : Nat) ⟨"AllocateSolveModel", "isBefore", "(II)Z"⟩) := rfl
set_option maxRecDepth 50000 in
theorem kw_745 : tables_1[745]? = some (Jvm.Cond.instanceMethod ⟨"AllocateSolveModel", "isBefore", "(II)Z"⟩) := rfl
set_option maxRecDepth 50000 in
theorem kw_746 : tables_1[746]? = some (Jvm.Cond.code ⟨"AllocateSolveModel", "isBefore", "(II)Z"⟩ prog_7_method_15_code (3 : Nat) (Option.some Jvm.ClassFile.FieldType.boolean)) := rfl
set_option maxRecDepth 50000 in
theorem kw_747 : tables_1[747]? = some (Jvm.Cond.methodLink "AllocateSolveModel" (124 : Nat) ⟨"AllocateSolveModel", "product", "()J"⟩) := rfl
set_option maxRecDepth 50000 in
theorem kw_749 : tables_1[749]? = some (Jvm.Cond.instanceMethod ⟨"AllocateSolveModel", "product", "()J"⟩) := rfl
set_option maxRecDepth 50000 in
theorem kw_750 : tables_1[750]? = some (Jvm.Cond.code ⟨"AllocateSolveModel", "product", "()J"⟩ prog_7_method_24_code (5 : Nat) (Option.some Jvm.ClassFile.FieldType.long)) := rfl
set_option maxRecDepth 50000 in
theorem kw_751 : tables_1[751]? = some (Jvm.Cond.constantLong "AllocateSolveModel" (118 : Nat) (2 : Int64)) := rfl
set_option maxRecDepth 50000 in
theorem kw_752 : tables_1[752]? = some (Jvm.Cond.methodLink "AllocateSolveModel" (132 : Nat) ⟨"AllocateSolveModel", "exactly", "()V"⟩) := rfl
set_option maxRecDepth 50000 in
theorem kw_754 : tables_1[754]? = some (Jvm.Cond.instanceMethod ⟨"AllocateSolveModel", "exactly", "()V"⟩) := rfl
set_option maxRecDepth 50000 in
theorem kw_755 : tables_1[755]? = some (Jvm.Cond.code ⟨"AllocateSolveModel", "exactly", "()V"⟩ prog_7_method_22_code (4 : Nat) (Option.none : Option Jvm.ClassFile.FieldType)) := rfl
set_option maxRecDepth 50000 in
theorem kw_756 : tables_1[756]? = some (Jvm.Cond.methodLink "AllocateSolveModel" (111 : Nat) ⟨"AllocateSolveModel", "takeFrom", "(I)V"⟩) := rfl
set_option maxRecDepth 50000 in
theorem kw_758 : tables_1[758]? = some (Jvm.Cond.instanceMethod ⟨"AllocateSolveModel", "takeFrom", "(I)V"⟩) := rfl
set_option maxRecDepth 50000 in
theorem kw_759 : tables_1[759]? = some (Jvm.Cond.code ⟨"AllocateSolveModel", "takeFrom", "(I)V"⟩ prog_7_method_20_code (3 : Nat) (Option.none : Option Jvm.ClassFile.FieldType)) := rfl
set_option maxRecDepth 50000 in
theorem kw_760 : tables_1[760]? = some (Jvm.Cond.methodLink "AllocateSolveModel" (104 : Nat) ⟨"AllocateSolveModel", "take", "(I)V"⟩) := rfl
set_option maxRecDepth 50000 in
theorem kw_762 : tables_1[762]? = some (Jvm.Cond.instanceMethod ⟨"AllocateSolveModel", "take", "(I)V"⟩) := rfl
set_option maxRecDepth 50000 in
theorem kw_763 : tables_1[763]? = some (Jvm.Cond.code ⟨"AllocateSolveModel", "take", "(I)V"⟩ prog_7_method_19_code (7 : Nat) (Option.none : Option Jvm.ClassFile.FieldType)) := rfl
set_option maxRecDepth 50000 in
theorem kw_764 : tables_1[764]? = some (Jvm.Cond.methodLink "AllocateSolveModel" (100 : Nat) ⟨"AllocateSolveModel", "costOf", "(II)I"⟩) := rfl
set_option maxRecDepth 50000 in
theorem kw_766 : tables_1[766]? = some (Jvm.Cond.instanceMethod ⟨"AllocateSolveModel", "costOf", "(II)I"⟩) := rfl
set_option maxRecDepth 50000 in
theorem kw_767 : tables_1[767]? = some (Jvm.Cond.code ⟨"AllocateSolveModel", "costOf", "(II)I"⟩ prog_7_method_13_code (3 : Nat) (Option.some Jvm.ClassFile.FieldType.int)) := rfl
set_option maxRecDepth 50000 in
theorem kw_768 : tables_1[768]? = some (Jvm.Cond.methodLink "AllocateSolveModel" (114 : Nat) ⟨"AllocateSolveModel", "nextSets", "()I"⟩) := rfl
set_option maxRecDepth 50000 in
theorem kw_770 : tables_1[770]? = some (Jvm.Cond.instanceMethod ⟨"AllocateSolveModel", "nextSets", "()I"⟩) := rfl
set_option maxRecDepth 50000 in
theorem kw_771 : tables_1[771]? = some (Jvm.Cond.code ⟨"AllocateSolveModel", "nextSets", "()I"⟩ prog_7_method_21_code (2 : Nat) (Option.some Jvm.ClassFile.FieldType.int)) := rfl
set_option maxRecDepth 50000 in
theorem kw_772 : tables_1[772]? = some (Jvm.Cond.methodLink "AllocateSolveModel" (108 : Nat) ⟨"AllocateSolveModel", "bits", "(I)I"⟩) := rfl
set_option maxRecDepth 50000 in
theorem kw_773 : tables_1[773]? = some (Jvm.Cond.static ⟨"AllocateSolveModel", "bits", "(I)I"⟩) := rfl
set_option maxRecDepth 50000 in
theorem kw_774 : tables_1[774]? = some (Jvm.Cond.code ⟨"AllocateSolveModel", "bits", "(I)I"⟩ prog_7_method_18_code (3 : Nat) (Option.some Jvm.ClassFile.FieldType.int)) := rfl
set_option maxRecDepth 50000 in
theorem kw_775 : tables_1[775]? = some (Jvm.Cond.methodLink "AllocateSolveModel" (135 : Nat) ⟨"AllocateSolveModel", "byRule", "()V"⟩) := rfl
set_option maxRecDepth 50000 in
theorem kw_777 : tables_1[777]? = some (Jvm.Cond.instanceMethod ⟨"AllocateSolveModel", "byRule", "()V"⟩) := rfl
set_option maxRecDepth 50000 in
theorem kw_778 : tables_1[778]? = some (Jvm.Cond.code ⟨"AllocateSolveModel", "byRule", "()V"⟩ prog_7_method_23_code (3 : Nat) (Option.none : Option Jvm.ClassFile.FieldType)) := rfl
set_option maxRecDepth 50000 in
theorem kw_779 : tables_1[779]? = some (Jvm.Cond.methodLink "AllocateSolveLaw" (104 : Nat) ⟨"AllocateSolveModel", "exact", "()Z"⟩) := rfl
set_option maxRecDepth 50000 in
theorem kw_780 : tables_1[780]? = some (Jvm.Cond.instanceMethod ⟨"AllocateSolveModel", "exact", "()Z"⟩) := rfl
set_option maxRecDepth 50000 in
theorem kw_781 : tables_1[781]? = some (Jvm.Cond.selects "AllocateSolveModel" ⟨"AllocateSolveModel", "exact", "()Z"⟩ ⟨"AllocateSolveModel", "exact", "()Z"⟩) := rfl
set_option maxRecDepth 50000 in
theorem kw_782 : tables_1[782]? = some (Jvm.Cond.code ⟨"AllocateSolveModel", "exact", "()Z"⟩ prog_7_method_26_code (1 : Nat) (Option.some Jvm.ClassFile.FieldType.boolean)) := rfl
set_option maxRecDepth 50000 in
theorem kw_783 : tables_1[783]? = some (Jvm.Cond.methodLink "AllocateSolveLaw" (108 : Nat) ⟨"AllocateSolveModel", "choices", "()I"⟩) := rfl
set_option maxRecDepth 50000 in
theorem kw_784 : tables_1[784]? = some (Jvm.Cond.instanceMethod ⟨"AllocateSolveModel", "choices", "()I"⟩) := rfl
set_option maxRecDepth 50000 in
theorem kw_785 : tables_1[785]? = some (Jvm.Cond.selects "AllocateSolveModel" ⟨"AllocateSolveModel", "choices", "()I"⟩ ⟨"AllocateSolveModel", "choices", "()I"⟩) := rfl
set_option maxRecDepth 50000 in
theorem kw_786 : tables_1[786]? = some (Jvm.Cond.code ⟨"AllocateSolveModel", "choices", "()I"⟩ prog_7_method_27_code (1 : Nat) (Option.some Jvm.ClassFile.FieldType.int)) := rfl
set_option maxRecDepth 50000 in
theorem kw_787 : tables_1[787]? = some (Jvm.Cond.constantLong "AllocateSolveModel" (138 : Nat) (1000000 : Int64)) := rfl
set_option maxRecDepth 50000 in
theorem kw_788 : tables_1[788]? = some (Jvm.Cond.methodLink "AllocateSolveLaw" (112 : Nat) ⟨"AllocateSolveModel", "bound", "()I"⟩) := rfl
set_option maxRecDepth 50000 in
theorem kw_789 : tables_1[789]? = some (Jvm.Cond.instanceMethod ⟨"AllocateSolveModel", "bound", "()I"⟩) := rfl
set_option maxRecDepth 50000 in
theorem kw_790 : tables_1[790]? = some (Jvm.Cond.selects "AllocateSolveModel" ⟨"AllocateSolveModel", "bound", "()I"⟩ ⟨"AllocateSolveModel", "bound", "()I"⟩) := rfl
set_option maxRecDepth 50000 in
theorem kw_791 : tables_1[791]? = some (Jvm.Cond.code ⟨"AllocateSolveModel", "bound", "()I"⟩ prog_7_method_28_code (6 : Nat) (Option.some Jvm.ClassFile.FieldType.int)) := rfl
set_option maxRecDepth 50000 in
theorem kw_792 : tables_1[792]? = some (Jvm.Cond.methodLink "AllocateSolveLaw" (116 : Nat) ⟨"AllocateSolveModel", "give", "(III)I"⟩) := rfl
set_option maxRecDepth 50000 in
theorem kw_793 : tables_1[793]? = some (Jvm.Cond.instanceMethod ⟨"AllocateSolveModel", "give", "(III)I"⟩) := rfl
set_option maxRecDepth 50000 in
theorem kw_794 : tables_1[794]? = some (Jvm.Cond.selects "AllocateSolveModel" ⟨"AllocateSolveModel", "give", "(III)I"⟩ ⟨"AllocateSolveModel", "give", "(III)I"⟩) := rfl
set_option maxRecDepth 50000 in
theorem kw_795 : tables_1[795]? = some (Jvm.Cond.code ⟨"AllocateSolveModel", "give", "(III)I"⟩ prog_7_method_32_code (5 : Nat) (Option.some Jvm.ClassFile.FieldType.int)) := rfl
set_option maxRecDepth 50000 in
theorem kw_796 : tables_1[796]? = some (Jvm.Cond.methodLink "AllocateSolveModel" (140 : Nat) ⟨"AllocateSolveModel", "giftAt", "(II)I"⟩) := rfl
set_option maxRecDepth 50000 in
theorem kw_798 : tables_1[798]? = some (Jvm.Cond.instanceMethod ⟨"AllocateSolveModel", "giftAt", "(II)I"⟩) := rfl
set_option maxRecDepth 50000 in
theorem kw_799 : tables_1[799]? = some (Jvm.Cond.code ⟨"AllocateSolveModel", "giftAt", "(II)I"⟩ prog_7_method_31_code (6 : Nat) (Option.some Jvm.ClassFile.FieldType.int)) := rfl
set_option maxRecDepth 50000 in
theorem kw_800 : tables_1[800]? = some (Jvm.Cond.methodLink "AllocateSolveLaw" (119 : Nat) ⟨"AllocateSolveModel", "held", "(I)I"⟩) := rfl
set_option maxRecDepth 50000 in
theorem kw_801 : tables_1[801]? = some (Jvm.Cond.instanceMethod ⟨"AllocateSolveModel", "held", "(I)I"⟩) := rfl
set_option maxRecDepth 50000 in
theorem kw_802 : tables_1[802]? = some (Jvm.Cond.selects "AllocateSolveModel" ⟨"AllocateSolveModel", "held", "(I)I"⟩ ⟨"AllocateSolveModel", "held", "(I)I"⟩) := rfl
set_option maxRecDepth 50000 in
theorem kw_803 : tables_1[803]? = some (Jvm.Cond.code ⟨"AllocateSolveModel", "held", "(I)I"⟩ prog_7_method_33_code (2 : Nat) (Option.some Jvm.ClassFile.FieldType.int)) := rfl
set_option maxRecDepth 50000 in
theorem kw_804 : tables_1[804]? = some (Jvm.Cond.methodLink "AllocateSolveModel" (143 : Nat) ⟨"AllocateSolveModel", "heldOf", "(I)I"⟩) := rfl
set_option maxRecDepth 50000 in
theorem kw_806 : tables_1[806]? = some (Jvm.Cond.instanceMethod ⟨"AllocateSolveModel", "heldOf", "(I)I"⟩) := rfl
set_option maxRecDepth 50000 in
theorem kw_807 : tables_1[807]? = some (Jvm.Cond.code ⟨"AllocateSolveModel", "heldOf", "(I)I"⟩ prog_7_method_30_code (4 : Nat) (Option.some Jvm.ClassFile.FieldType.int)) := rfl
set_option maxRecDepth 50000 in
theorem kw_808 : tables_1[808]? = some (Jvm.Cond.methodLink "AllocateSolveLaw" (122 : Nat) ⟨"AllocateSolveModel", "left", "(I)I"⟩) := rfl
set_option maxRecDepth 50000 in
theorem kw_809 : tables_1[809]? = some (Jvm.Cond.instanceMethod ⟨"AllocateSolveModel", "left", "(I)I"⟩) := rfl
set_option maxRecDepth 50000 in
theorem kw_810 : tables_1[810]? = some (Jvm.Cond.selects "AllocateSolveModel" ⟨"AllocateSolveModel", "left", "(I)I"⟩ ⟨"AllocateSolveModel", "left", "(I)I"⟩) := rfl
set_option maxRecDepth 50000 in
theorem kw_811 : tables_1[811]? = some (Jvm.Cond.code ⟨"AllocateSolveModel", "left", "(I)I"⟩ prog_7_method_34_code (2 : Nat) (Option.some Jvm.ClassFile.FieldType.int)) := rfl
set_option maxRecDepth 50000 in
theorem kw_812 : tables_1[812]? = some (Jvm.Cond.methodLink "AllocateSolveLaw" (125 : Nat) ⟨"AllocateSolveModel", "bar", "(I)I"⟩) := rfl
set_option maxRecDepth 50000 in
theorem kw_813 : tables_1[813]? = some (Jvm.Cond.instanceMethod ⟨"AllocateSolveModel", "bar", "(I)I"⟩) := rfl
set_option maxRecDepth 50000 in
theorem kw_814 : tables_1[814]? = some (Jvm.Cond.selects "AllocateSolveModel" ⟨"AllocateSolveModel", "bar", "(I)I"⟩ ⟨"AllocateSolveModel", "bar", "(I)I"⟩) := rfl
set_option maxRecDepth 50000 in
theorem kw_815 : tables_1[815]? = some (Jvm.Cond.code ⟨"AllocateSolveModel", "bar", "(I)I"⟩ prog_7_method_35_code (5 : Nat) (Option.some Jvm.ClassFile.FieldType.int)) := rfl
set_option maxRecDepth 50000 in
theorem kw_816 : tables_1[816]? = some (Jvm.Cond.methodLink "AllocateSolveLaw" (128 : Nat) ⟨"AllocateSolveModel", "change", "(II)I"⟩) := rfl
set_option maxRecDepth 50000 in
theorem kw_817 : tables_1[817]? = some (Jvm.Cond.instanceMethod ⟨"AllocateSolveModel", "change", "(II)I"⟩) := rfl
set_option maxRecDepth 50000 in
theorem kw_818 : tables_1[818]? = some (Jvm.Cond.selects "AllocateSolveModel" ⟨"AllocateSolveModel", "change", "(II)I"⟩ ⟨"AllocateSolveModel", "change", "(II)I"⟩) := rfl
set_option maxRecDepth 50000 in
theorem kw_819 : tables_1[819]? = some (Jvm.Cond.code ⟨"AllocateSolveModel", "change", "(II)I"⟩ prog_7_method_36_code (8 : Nat) (Option.some Jvm.ClassFile.FieldType.int)) := rfl
set_option maxRecDepth 50000 in
theorem kw_820 : tables_1[820]? = some (Jvm.Cond.methodLink "AllocateSolveLaw" (131 : Nat) ⟨"AllocateSolveModel", "undo", "(I)I"⟩) := rfl
set_option maxRecDepth 50000 in
theorem kw_821 : tables_1[821]? = some (Jvm.Cond.instanceMethod ⟨"AllocateSolveModel", "undo", "(I)I"⟩) := rfl
set_option maxRecDepth 50000 in
theorem kw_822 : tables_1[822]? = some (Jvm.Cond.selects "AllocateSolveModel" ⟨"AllocateSolveModel", "undo", "(I)I"⟩ ⟨"AllocateSolveModel", "undo", "(I)I"⟩) := rfl
set_option maxRecDepth 50000 in
theorem kw_823 : tables_1[823]? = some (Jvm.Cond.code ⟨"AllocateSolveModel", "undo", "(I)I"⟩ prog_7_method_37_code (4 : Nat) (Option.some Jvm.ClassFile.FieldType.int)) := rfl
set_option maxRecDepth 50000 in
theorem kw_824 : tables_1[824]? = some (Jvm.Cond.methodLink "AllocateSolveModel" (146 : Nat) ⟨"AllocateSolveModel", "heldBy", "(I)I"⟩) := rfl
set_option maxRecDepth 50000 in
theorem kw_826 : tables_1[826]? = some (Jvm.Cond.instanceMethod ⟨"AllocateSolveModel", "heldBy", "(I)I"⟩) := rfl
set_option maxRecDepth 50000 in
theorem kw_827 : tables_1[827]? = some (Jvm.Cond.code ⟨"AllocateSolveModel", "heldBy", "(I)I"⟩ prog_7_method_29_code (4 : Nat) (Option.some Jvm.ClassFile.FieldType.int)) := rfl
set_option maxRecDepth 50000 in
theorem kw_828 : tables_1[828]? = some (Jvm.Cond.methodLink "AllocateSolveLaw" (134 : Nat) ⟨"AllocateSolveModel", "refused", "(I)I"⟩) := rfl
set_option maxRecDepth 50000 in
theorem kw_829 : tables_1[829]? = some (Jvm.Cond.instanceMethod ⟨"AllocateSolveModel", "refused", "(I)I"⟩) := rfl
set_option maxRecDepth 50000 in
theorem kw_830 : tables_1[830]? = some (Jvm.Cond.selects "AllocateSolveModel" ⟨"AllocateSolveModel", "refused", "(I)I"⟩ ⟨"AllocateSolveModel", "refused", "(I)I"⟩) := rfl
set_option maxRecDepth 50000 in
theorem kw_831 : tables_1[831]? = some (Jvm.Cond.code ⟨"AllocateSolveModel", "refused", "(I)I"⟩ prog_7_method_38_code (2 : Nat) (Option.some Jvm.ClassFile.FieldType.int)) := rfl
set_option maxRecDepth 50000 in
theorem kw_832 : tables_1[832]? = some (Jvm.Cond.methodLink "AllocateSolveLaw" (137 : Nat) ⟨"AllocateSolveModel", "average", "(I)I"⟩) := rfl
set_option maxRecDepth 50000 in
theorem kw_833 : tables_1[833]? = some (Jvm.Cond.instanceMethod ⟨"AllocateSolveModel", "average", "(I)I"⟩) := rfl
set_option maxRecDepth 50000 in
theorem kw_834 : tables_1[834]? = some (Jvm.Cond.selects "AllocateSolveModel" ⟨"AllocateSolveModel", "average", "(I)I"⟩ ⟨"AllocateSolveModel", "average", "(I)I"⟩) := rfl
set_option maxRecDepth 50000 in
theorem kw_835 : tables_1[835]? = some (Jvm.Cond.code ⟨"AllocateSolveModel", "average", "(I)I"⟩ prog_7_method_39_code (4 : Nat) (Option.some Jvm.ClassFile.FieldType.int)) := rfl
set_option maxRecDepth 50000 in
theorem kw_836 : tables_1[836]? = some (Jvm.Cond.methodLink "AllocateSolveLaw" (141 : Nat) ⟨"AllocateSolveModel", "count", "(I)I"⟩) := rfl
set_option maxRecDepth 50000 in
theorem kw_837 : tables_1[837]? = some (Jvm.Cond.instanceMethod ⟨"AllocateSolveModel", "count", "(I)I"⟩) := rfl
set_option maxRecDepth 50000 in
theorem kw_838 : tables_1[838]? = some (Jvm.Cond.selects "AllocateSolveModel" ⟨"AllocateSolveModel", "count", "(I)I"⟩ ⟨"AllocateSolveModel", "count", "(I)I"⟩) := rfl
set_option maxRecDepth 50000 in
theorem kw_839 : tables_1[839]? = some (Jvm.Cond.code ⟨"AllocateSolveModel", "count", "(I)I"⟩ prog_7_method_40_code (8 : Nat) (Option.some Jvm.ClassFile.FieldType.int)) := rfl
set_option maxRecDepth 50000 in
theorem kw_840 : tables_1[840]? = some (Jvm.Cond.arrayClass Jvm.ClassFile.FieldType.long) := rfl
