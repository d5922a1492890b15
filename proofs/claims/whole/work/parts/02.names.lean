/-! the classes of the claim: a class, its fields in the order of the tables (declaring class, name, descriptor, final), their types; by program out of the Statement's own tables -/
/-- the words that outlast a call -/
def lw_ok : List Cond := lw_tbl.filter goodWord
theorem lw_in {w : Cond} (h : w ∈ lw_tbl) (g : goodWord w = true) : w ∈ lw_ok := List.mem_filter.mpr ⟨h, g⟩
def ct_R0 : String := "FlakeArms$Armed"
def ct_T0 : u_T := fun k => match k with
  | 0 => ("FlakeArms$Growth", "kind", "I", true)
  | 1 => ("FlakeArms$Growth", "number", "I", true)
  | 2 => ("FlakeArms$Growth", "a", "I", true)
  | _ => ("FlakeArms$Growth", "ran", "LFlakeArms$Trace;", true)
def ct_t0 : Nat → FieldType := fun k => match k with
  | 0 => .int
  | 1 => .int
  | 2 => .int
  | _ => .object "FlakeArms$Trace"
theorem ct_n0 : ∀ a, a < 4 → ∀ b, b < 4 → a ≠ b → (ct_T0 a).2.1 ≠ (ct_T0 b).2.1 := by decide +kernel
theorem ct_k0 : ∀ k, k < 4 → parseFieldDescriptor (ct_T0 k).2.2.1 = some (ct_t0 k) := by decide +kernel
theorem ct_i0 : ∀ w ∈ u_ws ct_R0 ct_T0 4, w ∈ lw_ok := by decide +kernel
def ct_R1 : String := "FlakeArms$Broken"
def ct_T1 : u_T := fun k => match k with
  | 0 => ("FlakeArms$Growth", "kind", "I", true)
  | 1 => ("FlakeArms$Growth", "number", "I", true)
  | 2 => ("FlakeArms$Growth", "a", "I", true)
  | _ => ("FlakeArms$Growth", "ran", "LFlakeArms$Trace;", true)
def ct_t1 : Nat → FieldType := fun k => match k with
  | 0 => .int
  | 1 => .int
  | 2 => .int
  | _ => .object "FlakeArms$Trace"
theorem ct_n1 : ∀ a, a < 4 → ∀ b, b < 4 → a ≠ b → (ct_T1 a).2.1 ≠ (ct_T1 b).2.1 := by decide +kernel
theorem ct_k1 : ∀ k, k < 4 → parseFieldDescriptor (ct_T1 k).2.2.1 = some (ct_t1 k) := by decide +kernel
theorem ct_i1 : ∀ w ∈ u_ws ct_R1 ct_T1 4, w ∈ lw_ok := by decide +kernel
def ct_R2 : String := "FlakeArms$Flake"
def ct_T2 : u_T := fun k => match k with
  | 0 => ("FlakeArms$Flake", "minute", "I", false)
  | 1 => ("FlakeArms$Flake", "since", "[I", true)
  | _ => ("FlakeArms$Flake", "reached", "[B", true)
def ct_t2 : Nat → FieldType := fun k => match k with
  | 0 => .int
  | 1 => .array .int
  | _ => .array .byte
theorem ct_n2 : ∀ a, a < 3 → ∀ b, b < 3 → a ≠ b → (ct_T2 a).2.1 ≠ (ct_T2 b).2.1 := by decide +kernel
theorem ct_k2 : ∀ k, k < 3 → parseFieldDescriptor (ct_T2 k).2.2.1 = some (ct_t2 k) := by decide +kernel
theorem ct_i2 : ∀ w ∈ u_ws ct_R2 ct_T2 3, w ∈ lw_ok := by decide +kernel
def ct_R3 : String := "FlakeArms$Growth"
def ct_T3 : u_T := fun k => match k with
  | 0 => ("FlakeArms$Growth", "kind", "I", true)
  | 1 => ("FlakeArms$Growth", "number", "I", true)
  | 2 => ("FlakeArms$Growth", "a", "I", true)
  | _ => ("FlakeArms$Growth", "ran", "LFlakeArms$Trace;", true)
def ct_t3 : Nat → FieldType := fun k => match k with
  | 0 => .int
  | 1 => .int
  | 2 => .int
  | _ => .object "FlakeArms$Trace"
theorem ct_n3 : ∀ a, a < 4 → ∀ b, b < 4 → a ≠ b → (ct_T3 a).2.1 ≠ (ct_T3 b).2.1 := by decide +kernel
theorem ct_k3 : ∀ k, k < 4 → parseFieldDescriptor (ct_T3 k).2.2.1 = some (ct_t3 k) := by decide +kernel
theorem ct_i3 : ∀ w ∈ u_ws ct_R3 ct_T3 4, w ∈ lw_ok := by decide +kernel
def ct_R4 : String := "FlakeArms$Law"
def ct_T4 : u_T := fun k => match k with
  | 0 => ("FlakeArms$Law", "clauses", "I", false)
  | 1 => ("FlakeArms$Law", "used", "[I", true)
  | 2 => ("FlakeArms$Law", "codeEnd", "[I", true)
  | 3 => ("FlakeArms$Law", "code", "[I", true)
  | _ => ("FlakeArms$Law", "codeSize", "I", false)
def ct_t4 : Nat → FieldType := fun k => match k with
  | 0 => .int
  | 1 => .array .int
  | 2 => .array .int
  | 3 => .array .int
  | _ => .int
theorem ct_n4 : ∀ a, a < 5 → ∀ b, b < 5 → a ≠ b → (ct_T4 a).2.1 ≠ (ct_T4 b).2.1 := by decide +kernel
theorem ct_k4 : ∀ k, k < 5 → parseFieldDescriptor (ct_T4 k).2.2.1 = some (ct_t4 k) := by decide +kernel
theorem ct_i4 : ∀ w ∈ u_ws ct_R4 ct_T4 5, w ∈ lw_ok := by decide +kernel
def ct_R5 : String := "FlakeArms$LawReader"
def ct_T5 : u_T := fun k => match k with
  | 0 => ("FlakeArms$LawReader", "text", "[B", true)
  | 1 => ("FlakeArms$LawReader", "textSize", "I", false)
  | 2 => ("FlakeArms$LawReader", "sorts", "[I", true)
  | 3 => ("FlakeArms$LawReader", "starts", "[I", true)
  | 4 => ("FlakeArms$LawReader", "values", "[I", true)
  | 5 => ("FlakeArms$LawReader", "at", "I", false)
  | _ => ("FlakeArms$LawReader", "law", "LFlakeArms$Law;", false)
def ct_t5 : Nat → FieldType := fun k => match k with
  | 0 => .array .byte
  | 1 => .int
  | 2 => .array .int
  | 3 => .array .int
  | 4 => .array .int
  | 5 => .int
  | _ => .object "FlakeArms$Law"
theorem ct_n5 : ∀ a, a < 7 → ∀ b, b < 7 → a ≠ b → (ct_T5 a).2.1 ≠ (ct_T5 b).2.1 := by decide +kernel
theorem ct_k5 : ∀ k, k < 7 → parseFieldDescriptor (ct_T5 k).2.2.1 = some (ct_t5 k) := by decide +kernel
theorem ct_i5 : ∀ w ∈ u_ws ct_R5 ct_T5 7, w ∈ lw_ok := by decide +kernel
def ct_R6 : String := "FlakeArms$Needled"
def ct_T6 : u_T := fun k => match k with
  | 0 => ("FlakeArms$Growth", "kind", "I", true)
  | 1 => ("FlakeArms$Growth", "number", "I", true)
  | 2 => ("FlakeArms$Growth", "a", "I", true)
  | _ => ("FlakeArms$Growth", "ran", "LFlakeArms$Trace;", true)
def ct_t6 : Nat → FieldType := fun k => match k with
  | 0 => .int
  | 1 => .int
  | 2 => .int
  | _ => .object "FlakeArms$Trace"
theorem ct_n6 : ∀ a, a < 4 → ∀ b, b < 4 → a ≠ b → (ct_T6 a).2.1 ≠ (ct_T6 b).2.1 := by decide +kernel
theorem ct_k6 : ∀ k, k < 4 → parseFieldDescriptor (ct_T6 k).2.2.1 = some (ct_t6 k) := by decide +kernel
theorem ct_i6 : ∀ w ∈ u_ws ct_R6 ct_T6 4, w ∈ lw_ok := by decide +kernel
def ct_R7 : String := "FlakeArms$Plated"
def ct_T7 : u_T := fun k => match k with
  | 0 => ("FlakeArms$Growth", "kind", "I", true)
  | 1 => ("FlakeArms$Growth", "number", "I", true)
  | 2 => ("FlakeArms$Growth", "a", "I", true)
  | _ => ("FlakeArms$Growth", "ran", "LFlakeArms$Trace;", true)
def ct_t7 : Nat → FieldType := fun k => match k with
  | 0 => .int
  | 1 => .int
  | 2 => .int
  | _ => .object "FlakeArms$Trace"
theorem ct_n7 : ∀ a, a < 4 → ∀ b, b < 4 → a ≠ b → (ct_T7 a).2.1 ≠ (ct_T7 b).2.1 := by decide +kernel
theorem ct_k7 : ∀ k, k < 4 → parseFieldDescriptor (ct_T7 k).2.2.1 = some (ct_t7 k) := by decide +kernel
theorem ct_i7 : ∀ w ∈ u_ws ct_R7 ct_T7 4, w ∈ lw_ok := by decide +kernel
def ct_R8 : String := "FlakeArms$Sided"
def ct_T8 : u_T := fun k => match k with
  | 0 => ("FlakeArms$Growth", "kind", "I", true)
  | 1 => ("FlakeArms$Growth", "number", "I", true)
  | 2 => ("FlakeArms$Growth", "a", "I", true)
  | _ => ("FlakeArms$Growth", "ran", "LFlakeArms$Trace;", true)
def ct_t8 : Nat → FieldType := fun k => match k with
  | 0 => .int
  | 1 => .int
  | 2 => .int
  | _ => .object "FlakeArms$Trace"
theorem ct_n8 : ∀ a, a < 4 → ∀ b, b < 4 → a ≠ b → (ct_T8 a).2.1 ≠ (ct_T8 b).2.1 := by decide +kernel
theorem ct_k8 : ∀ k, k < 4 → parseFieldDescriptor (ct_T8 k).2.2.1 = some (ct_t8 k) := by decide +kernel
theorem ct_i8 : ∀ w ∈ u_ws ct_R8 ct_T8 4, w ∈ lw_ok := by decide +kernel
def ct_R9 : String := "FlakeArms$Trace"
def ct_T9 : u_T := fun k => match k with
  | 0 => ("FlakeArms$Trace", "numbers", "[I", true)
  | 1 => ("FlakeArms$Trace", "count", "I", false)
  | _ => ("FlakeArms$Trace", "parted", "Z", false)
def ct_t9 : Nat → FieldType := fun k => match k with
  | 0 => .array .int
  | 1 => .int
  | _ => .boolean
theorem ct_n9 : ∀ a, a < 3 → ∀ b, b < 3 → a ≠ b → (ct_T9 a).2.1 ≠ (ct_T9 b).2.1 := by decide +kernel
theorem ct_k9 : ∀ k, k < 3 → parseFieldDescriptor (ct_T9 k).2.2.1 = some (ct_t9 k) := by decide +kernel
theorem ct_i9 : ∀ w ∈ u_ws ct_R9 ct_T9 3, w ∈ lw_ok := by decide +kernel
def ct_R10 : String := "FlakeArms$World"
def ct_T10 : u_T := fun k => match k with
  | 0 => ("FlakeArms$World", "flakes", "[LFlakeArms$Flake;", true)
  | 1 => ("FlakeArms$World", "growths", "[LFlakeArms$Growth;", true)
  | 2 => ("FlakeArms$World", "growthCount", "I", false)
  | 3 => ("FlakeArms$World", "law", "LFlakeArms$Law;", true)
  | 4 => ("FlakeArms$World", "warmOf", "[I", true)
  | 5 => ("FlakeArms$World", "wetOf", "[I", true)
  | 6 => ("FlakeArms$World", "missed", "I", false)
  | 7 => ("FlakeArms$World", "z", "I", false)
  | 8 => ("FlakeArms$World", "freezing", "[I", true)
  | _ => ("FlakeArms$World", "named", "[I", true)
def ct_t10 : Nat → FieldType := fun k => match k with
  | 0 => .array (.object "FlakeArms$Flake")
  | 1 => .array (.object "FlakeArms$Growth")
  | 2 => .int
  | 3 => .object "FlakeArms$Law"
  | 4 => .array .int
  | 5 => .array .int
  | 6 => .int
  | 7 => .int
  | 8 => .array .int
  | _ => .array .int
theorem ct_n10 : ∀ a, a < 10 → ∀ b, b < 10 → a ≠ b → (ct_T10 a).2.1 ≠ (ct_T10 b).2.1 := by decide +kernel
theorem ct_k10 : ∀ k, k < 10 → parseFieldDescriptor (ct_T10 k).2.2.1 = some (ct_t10 k) := by decide +kernel
theorem ct_i10 : ∀ w ∈ u_ws ct_R10 ct_T10 10, w ∈ lw_ok := by decide +kernel
def ct_R11 : String := "FlakeArms"
def ct_T11 : u_T := fun k => match k with
  | 0 => ("FlakeArms", "now", "LFlakeArms$World;", true)
  | 1 => ("FlakeArms", "kept", "LFlakeArms$World;", true)
  | 2 => ("FlakeArms", "isKept", "Z", false)
  | 3 => ("FlakeArms", "tape", "[B", true)
  | 4 => ("FlakeArms", "tapeSize", "I", false)
  | 5 => ("FlakeArms", "reader", "LFlakeArms$LawReader;", true)
  | 6 => ("FlakeArms", "draft", "LFlakeArms$Law;", true)
  | 7 => ("FlakeArms", "rows", "[[I", true)
  | 8 => ("FlakeArms", "rowsProved", "I", false)
  | 9 => ("FlakeArms", "sheetItems", "[[I", true)
  | 10 => ("FlakeArms", "sheetSort", "[I", true)
  | 11 => ("FlakeArms", "sheetSize", "[I", true)
  | 12 => ("FlakeArms", "shelfHolds", "[I", true)
  | 13 => ("FlakeArms", "shelfNumber", "[I", true)
  | 14 => ("FlakeArms", "bodies", "LFlakeArms$Trace;", true)
  | 15 => ("FlakeArms", "lowOfWay", "[J", true)
  | 16 => ("FlakeArms", "highOfWay", "[J", true)
  | _ => ("FlakeArms", "scratch", "LFlakeArms$Flake;", true)
def ct_t11 : Nat → FieldType := fun k => match k with
  | 0 => .object "FlakeArms$World"
  | 1 => .object "FlakeArms$World"
  | 2 => .boolean
  | 3 => .array .byte
  | 4 => .int
  | 5 => .object "FlakeArms$LawReader"
  | 6 => .object "FlakeArms$Law"
  | 7 => .array (.array .int)
  | 8 => .int
  | 9 => .array (.array .int)
  | 10 => .array .int
  | 11 => .array .int
  | 12 => .array .int
  | 13 => .array .int
  | 14 => .object "FlakeArms$Trace"
  | 15 => .array .long
  | 16 => .array .long
  | _ => .object "FlakeArms$Flake"
theorem ct_n11 : ∀ a, a < 18 → ∀ b, b < 18 → a ≠ b → (ct_T11 a).2.1 ≠ (ct_T11 b).2.1 := by decide +kernel
theorem ct_k11 : ∀ k, k < 18 → parseFieldDescriptor (ct_T11 k).2.2.1 = some (ct_t11 k) := by decide +kernel
theorem ct_i11 : ∀ w ∈ u_ws ct_R11 ct_T11 18, w ∈ lw_ok := by decide +kernel
def ct_R12 : String := "FlakeArmsModel"
def ct_T12 : u_T := fun k => match k with
  | 0 => ("FlakeArmsModel", "qOf", "[I", true)
  | 1 => ("FlakeArmsModel", "rOf", "[I", true)
  | 2 => ("FlakeArmsModel", "ringOf", "[I", true)
  | 3 => ("FlakeArmsModel", "turned", "[I", true)
  | 4 => ("FlakeArmsModel", "mirrored", "[I", true)
  | 5 => ("FlakeArmsModel", "beside", "[I", true)
  | 6 => ("FlakeArmsModel", "firstOf", "[I", true)
  | 7 => ("FlakeArmsModel", "ice", "[I", true)
  | 8 => ("FlakeArmsModel", "minutes", "[I", true)
  | 9 => ("FlakeArmsModel", "growths", "I", false)
  | 10 => ("FlakeArmsModel", "growth", "[I", true)
  | 11 => ("FlakeArmsModel", "missed", "I", false)
  | 12 => ("FlakeArmsModel", "z", "I", false)
  | 13 => ("FlakeArmsModel", "airs", "[I", true)
  | 14 => ("FlakeArmsModel", "clauses", "I", false)
  | 15 => ("FlakeArmsModel", "clause", "[I", true)
  | 16 => ("FlakeArmsModel", "signs", "[I", true)
  | 17 => ("FlakeArmsModel", "tape", "[I", true)
  | 18 => ("FlakeArmsModel", "tapeMany", "I", false)
  | 19 => ("FlakeArmsModel", "sort", "I", false)
  | 20 => ("FlakeArmsModel", "begins", "I", false)
  | 21 => ("FlakeArmsModel", "tokenEnds", "I", false)
  | 22 => ("FlakeArmsModel", "word", "J", false)
  | 23 => ("FlakeArmsModel", "value", "I", false)
  | 24 => ("FlakeArmsModel", "good", "Z", false)
  | 25 => ("FlakeArmsModel", "facts", "[I", true)
  | 26 => ("FlakeArmsModel", "fresh", "[I", true)
  | 27 => ("FlakeArmsModel", "pending", "[I", true)
  | 28 => ("FlakeArmsModel", "freshMany", "I", false)
  | 29 => ("FlakeArmsModel", "pendingMany", "I", false)
  | 30 => ("FlakeArmsModel", "open", "I", false)
  | 31 => ("FlakeArmsModel", "pile", "[Z", true)
  | 32 => ("FlakeArmsModel", "freshClause", "[I", true)
  | 33 => ("FlakeArmsModel", "isOut", "[Z", true)
  | 34 => ("FlakeArmsModel", "would", "[Z", true)
  | 35 => ("FlakeArmsModel", "above", "J", false)
  | 36 => ("FlakeArmsModel", "below", "J", false)
  | 37 => ("FlakeArmsModel", "low", "[J", true)
  | 38 => ("FlakeArmsModel", "high", "[J", true)
  | 39 => ("FlakeArmsModel", "rows", "[I", true)
  | 40 => ("FlakeArmsModel", "must", "[I", true)
  | 41 => ("FlakeArmsModel", "rowMany", "I", false)
  | 42 => ("FlakeArmsModel", "mustMany", "I", false)
  | 43 => ("FlakeArmsModel", "sorts", "[I", true)
  | 44 => ("FlakeArmsModel", "sizes", "[I", true)
  | 45 => ("FlakeArmsModel", "sheets", "[J", true)
  | 46 => ("FlakeArmsModel", "held", "[I", true)
  | 47 => ("FlakeArmsModel", "heldNumber", "[I", true)
  | 48 => ("FlakeArmsModel", "heldSize", "[I", true)
  | 49 => ("FlakeArmsModel", "kind", "I", false)
  | 50 => ("FlakeArmsModel", "number", "I", false)
  | 51 => ("FlakeArmsModel", "own", "I", false)
  | 52 => ("FlakeArmsModel", "traced", "[I", true)
  | 53 => ("FlakeArmsModel", "bodies", "I", false)
  | 54 => ("FlakeArmsModel", "isParted", "Z", false)
  | 55 => ("FlakeArmsModel", "isKept", "Z", false)
  | 56 => ("FlakeArmsModel", "kept", "[I", true)
  | 57 => ("FlakeArmsModel", "movedTo", "I", false)
  | _ => ("FlakeArmsModel", "single", "[I", true)
def ct_t12 : Nat → FieldType := fun k => match k with
  | 0 => .array .int
  | 1 => .array .int
  | 2 => .array .int
  | 3 => .array .int
  | 4 => .array .int
  | 5 => .array .int
  | 6 => .array .int
  | 7 => .array .int
  | 8 => .array .int
  | 9 => .int
  | 10 => .array .int
  | 11 => .int
  | 12 => .int
  | 13 => .array .int
  | 14 => .int
  | 15 => .array .int
  | 16 => .array .int
  | 17 => .array .int
  | 18 => .int
  | 19 => .int
  | 20 => .int
  | 21 => .int
  | 22 => .long
  | 23 => .int
  | 24 => .boolean
  | 25 => .array .int
  | 26 => .array .int
  | 27 => .array .int
  | 28 => .int
  | 29 => .int
  | 30 => .int
  | 31 => .array .boolean
  | 32 => .array .int
  | 33 => .array .boolean
  | 34 => .array .boolean
  | 35 => .long
  | 36 => .long
  | 37 => .array .long
  | 38 => .array .long
  | 39 => .array .int
  | 40 => .array .int
  | 41 => .int
  | 42 => .int
  | 43 => .array .int
  | 44 => .array .int
  | 45 => .array .long
  | 46 => .array .int
  | 47 => .array .int
  | 48 => .array .int
  | 49 => .int
  | 50 => .int
  | 51 => .int
  | 52 => .array .int
  | 53 => .int
  | 54 => .boolean
  | 55 => .boolean
  | 56 => .array .int
  | 57 => .int
  | _ => .array .int
theorem ct_n12 : ∀ a, a < 59 → ∀ b, b < 59 → a ≠ b → (ct_T12 a).2.1 ≠ (ct_T12 b).2.1 := by decide +kernel
theorem ct_k12 : ∀ k, k < 59 → parseFieldDescriptor (ct_T12 k).2.2.1 = some (ct_t12 k) := by decide +kernel
theorem ct_i12 : ∀ w ∈ u_ws ct_R12 ct_T12 59, w ∈ lw_ok := by decide +kernel
abbrev classes : List vw_C := [(ct_R0, ct_T0, 4), (ct_R1, ct_T1, 4), (ct_R2, ct_T2, 3), (ct_R3, ct_T3, 4), (ct_R4, ct_T4, 5), (ct_R5, ct_T5, 7), (ct_R6, ct_T6, 4), (ct_R7, ct_T7, 4), (ct_R8, ct_T8, 4), (ct_R9, ct_T9, 3), (ct_R10, ct_T10, 10), (ct_R11, ct_T11, 18), (ct_R12, ct_T12, 59)]
/-- a class' fields: how many, their types, what they are when it is made -/
def ct_N (c : Nat) : Nat := [4, 4, 3, 4, 5, 7, 4, 4, 4, 3, 10, 18, 59].getD c 0
def ct_ty (c k : Nat) : FieldType := match c with
  | 0 => ct_t0 k
  | 1 => ct_t1 k
  | 2 => ct_t2 k
  | 3 => ct_t3 k
  | 4 => ct_t4 k
  | 5 => ct_t5 k
  | 6 => ct_t6 k
  | 7 => ct_t7 k
  | 8 => ct_t8 k
  | 9 => ct_t9 k
  | 10 => ct_t10 k
  | 11 => ct_t11 k
  | 12 => ct_t12 k
  | _ => .int
def ct_T (c : Nat) : u_T := match c with
  | 0 => ct_T0
  | 1 => ct_T1
  | 2 => ct_T2
  | 3 => ct_T3
  | 4 => ct_T4
  | 5 => ct_T5
  | 6 => ct_T6
  | 7 => ct_T7
  | 8 => ct_T8
  | 9 => ct_T9
  | 10 => ct_T10
  | 11 => ct_T11
  | 12 => ct_T12
  | _ => fun _ => ("", "", "", false)
def ct_R (c : Nat) : String := match c with
  | 0 => ct_R0
  | 1 => ct_R1
  | 2 => ct_R2
  | 3 => ct_R3
  | 4 => ct_R4
  | 5 => ct_R5
  | 6 => ct_R6
  | 7 => ct_R7
  | 8 => ct_R8
  | 9 => ct_R9
  | 10 => ct_R10
  | 11 => ct_R11
  | 12 => ct_R12
  | 13 => "FlakeArmsLaw"
  | _ => ""
def ct_d0 : List Value := [.int 0, .int 0, .int 0, .null]
def ct_d1 : List Value := [.int 0, .int 0, .int 0, .null]
def ct_d2 : List Value := [.int 0, .null, .null]
def ct_d3 : List Value := [.int 0, .int 0, .int 0, .null]
def ct_d4 : List Value := [.int 0, .null, .null, .null, .int 0]
def ct_d5 : List Value := [.null, .int 0, .null, .null, .null, .int 0, .null]
def ct_d6 : List Value := [.int 0, .int 0, .int 0, .null]
def ct_d7 : List Value := [.int 0, .int 0, .int 0, .null]
def ct_d8 : List Value := [.int 0, .int 0, .int 0, .null]
def ct_d9 : List Value := [.null, .int 0, .int 0]
def ct_d10 : List Value := [.null, .null, .int 0, .null, .null, .null, .int 0, .int 0, .null, .null]
def ct_d11 : List Value := [.null, .null, .int 0, .null, .int 0, .null, .null, .null, .int 0, .null, .null, .null, .null, .null, .null, .null, .null, .null]
def ct_d12 : List Value := [.null, .null, .null, .null, .null, .null, .null, .null, .null, .int 0, .null, .int 0, .int 0, .null, .int 0, .null, .null, .null, .int 0, .int 0, .int 0, .int 0, .long 0, .int 0, .int 0, .null, .null, .null, .int 0, .int 0, .int 0, .null, .null, .null, .null, .long 0, .long 0, .null, .null, .null, .null, .int 0, .int 0, .null, .null, .null, .null, .null, .null, .int 0, .int 0, .int 0, .null, .int 0, .int 0, .int 0, .null, .int 0, .null]
def ct_d (c : Nat) : List Value := match c with
  | 0 => ct_d0
  | 1 => ct_d1
  | 2 => ct_d2
  | 3 => ct_d3
  | 4 => ct_d4
  | 5 => ct_d5
  | 6 => ct_d6
  | 7 => ct_d7
  | 8 => ct_d8
  | 9 => ct_d9
  | 10 => ct_d10
  | 11 => ct_d11
  | 12 => ct_d12
  | _ => []
