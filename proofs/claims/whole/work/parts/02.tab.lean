/-! Part 02, laid by wip/whole/tab.py: the classes of which cells are made, their fields; the kinds of cells; the order in which cells are made -/
abbrev mA : Type := Nat × Nat × Nat
def c_R0 : String := "RustFamily"
def c_T0 : u_T := fun k => match k with
  | 0 => ("RustFamily", "status", "I", false)
  | 1 => ("RustFamily", "top", "J", false)
  | 2 => ("RustFamily", "bottom", "J", false)
  | 3 => ("RustFamily", "trays", "[LRustFamily$Tray;", true)
  | 4 => ("RustFamily", "text", "LRustFamily$Text;", true)
  | 5 => ("RustFamily", "family", "LRustFamily$Family;", false)
  | 6 => ("RustFamily", "spare", "LRustFamily$Family;", false)
  | 7 => ("RustFamily", "sparePlan", "LRustFamily$Plan;", false)
  | 8 => ("RustFamily", "marked", "[LRustFamily$Family;", true)
  | 9 => ("RustFamily", "marks", "I", false)
  | 10 => ("RustFamily", "ahead", "LRustFamily$Ahead;", true)
  | 11 => ("RustFamily", "sight", "LRustFamily$Sight;", true)
  | 12 => ("RustFamily", "keepers", "LRustFamily$Keepers;", true)
  | 13 => ("RustFamily", "match", "LRustFamily$Game;", true)
  | 14 => ("RustFamily", "latestLived", "[I", true)
  | _ => ("RustFamily", "hasLived", "Z", false)
def c_y0 : Nat → FieldType := fun k => match k with
  | 0 => .int
  | 1 => .long
  | 2 => .long
  | 3 => .array (.object "RustFamily$Tray")
  | 4 => .object "RustFamily$Text"
  | 5 => .object "RustFamily$Family"
  | 6 => .object "RustFamily$Family"
  | 7 => .object "RustFamily$Plan"
  | 8 => .array (.object "RustFamily$Family")
  | 9 => .int
  | 10 => .object "RustFamily$Ahead"
  | 11 => .object "RustFamily$Sight"
  | 12 => .object "RustFamily$Keepers"
  | 13 => .object "RustFamily$Game"
  | 14 => .array .int
  | _ => .boolean
theorem c_n0 : ∀ a, a < 16 → ∀ b, b < 16 → a ≠ b → (c_T0 a).2.1 ≠ (c_T0 b).2.1 := by decide +kernel
theorem c_t0 : ∀ k, k < 16 → parseFieldDescriptor (c_T0 k).2.2.1 = some (c_y0 k) := by decide +kernel
theorem c_i0 : ∀ w ∈ u_ws c_R0 c_T0 16, w ∈ lw_tbl := by decide +kernel
def c_R1 : String := "RustFamily$Tray"
def c_T1 : u_T := fun k => match k with
  | 0 => ("RustFamily$Tray", "sort", "I", false)
  | 1 => ("RustFamily$Tray", "length", "I", false)
  | _ => ("RustFamily$Tray", "numbers", "[J", true)
def c_y1 : Nat → FieldType := fun k => match k with
  | 0 => .int
  | 1 => .int
  | _ => .array .long
theorem c_n1 : ∀ a, a < 3 → ∀ b, b < 3 → a ≠ b → (c_T1 a).2.1 ≠ (c_T1 b).2.1 := by decide +kernel
theorem c_t1 : ∀ k, k < 3 → parseFieldDescriptor (c_T1 k).2.2.1 = some (c_y1 k) := by decide +kernel
theorem c_i1 : ∀ w ∈ u_ws c_R1 c_T1 3, w ∈ lw_tbl := by decide +kernel
def c_R2 : String := "RustFamily$Text"
def c_T2 : u_T := fun k => match k with
  | 0 => ("RustFamily$Text", "bytes", "[B", true)
  | 1 => ("RustFamily$Text", "fed", "I", false)
  | 2 => ("RustFamily$Text", "length", "I", false)
  | 3 => ("RustFamily$Text", "next", "I", false)
  | 4 => ("RustFamily$Text", "kind", "I", false)
  | 5 => ("RustFamily$Text", "start", "I", false)
  | 6 => ("RustFamily$Text", "size", "I", false)
  | 7 => ("RustFamily$Text", "letters", "J", false)
  | 8 => ("RustFamily$Text", "value", "I", false)
  | 9 => ("RustFamily$Text", "amount", "I", false)
  | 10 => ("RustFamily$Text", "faultKind", "I", false)
  | _ => ("RustFamily$Text", "faultPlace", "I", false)
def c_y2 : Nat → FieldType := fun k => match k with
  | 0 => .array .byte
  | 1 => .int
  | 2 => .int
  | 3 => .int
  | 4 => .int
  | 5 => .int
  | 6 => .int
  | 7 => .long
  | 8 => .int
  | 9 => .int
  | 10 => .int
  | _ => .int
theorem c_n2 : ∀ a, a < 12 → ∀ b, b < 12 → a ≠ b → (c_T2 a).2.1 ≠ (c_T2 b).2.1 := by decide +kernel
theorem c_t2 : ∀ k, k < 12 → parseFieldDescriptor (c_T2 k).2.2.1 = some (c_y2 k) := by decide +kernel
theorem c_i2 : ∀ w ∈ u_ws c_R2 c_T2 12, w ∈ lw_tbl := by decide +kernel
def c_R3 : String := "RustFamily$Family"
def c_T3 : u_T := fun k => match k with
  | 0 => ("RustFamily$Family", "people", "I", false)
  | 1 => ("RustFamily$Family", "things", "I", false)
  | 2 => ("RustFamily$Family", "shows", "I", false)
  | 3 => ("RustFamily$Family", "life", "I", false)
  | 4 => ("RustFamily$Family", "damp", "I", false)
  | 5 => ("RustFamily$Family", "breath", "I", false)
  | 6 => ("RustFamily$Family", "year", "I", false)
  | 7 => ("RustFamily$Family", "persons", "[LRustFamily$Person;", true)
  | 8 => ("RustFamily$Family", "items", "[LRustFamily$Thing;", true)
  | _ => ("RustFamily$Family", "plan", "LRustFamily$Plan;", false)
def c_y3 : Nat → FieldType := fun k => match k with
  | 0 => .int
  | 1 => .int
  | 2 => .int
  | 3 => .int
  | 4 => .int
  | 5 => .int
  | 6 => .int
  | 7 => .array (.object "RustFamily$Person")
  | 8 => .array (.object "RustFamily$Thing")
  | _ => .object "RustFamily$Plan"
theorem c_n3 : ∀ a, a < 10 → ∀ b, b < 10 → a ≠ b → (c_T3 a).2.1 ≠ (c_T3 b).2.1 := by decide +kernel
theorem c_t3 : ∀ k, k < 10 → parseFieldDescriptor (c_T3 k).2.2.1 = some (c_y3 k) := by decide +kernel
theorem c_i3 : ∀ w ∈ u_ws c_R3 c_T3 10, w ∈ lw_tbl := by decide +kernel
def c_R4 : String := "RustFamily$Person"
def c_T4 : u_T := fun k => match k with
  | 0 => ("RustFamily$Person", "name", "J", false)
  | 1 => ("RustFamily$Person", "age", "I", false)
  | 2 => ("RustFamily$Person", "of", "Z", false)
  | 3 => ("RustFamily$Person", "lives", "Z", false)
  | _ => ("RustFamily$Person", "love", "[I", true)
def c_y4 : Nat → FieldType := fun k => match k with
  | 0 => .long
  | 1 => .int
  | 2 => .boolean
  | 3 => .boolean
  | _ => .array .int
theorem c_n4 : ∀ a, a < 5 → ∀ b, b < 5 → a ≠ b → (c_T4 a).2.1 ≠ (c_T4 b).2.1 := by decide +kernel
theorem c_t4 : ∀ k, k < 5 → parseFieldDescriptor (c_T4 k).2.2.1 = some (c_y4 k) := by decide +kernel
theorem c_i4 : ∀ w ∈ u_ws c_R4 c_T4 5, w ∈ lw_tbl := by decide +kernel
def c_R5 : String := "RustFamily$Thing"
def c_T5 : u_T := fun k => match k with
  | 0 => ("RustFamily$Thing", "name", "J", false)
  | 1 => ("RustFamily$Thing", "thick", "I", false)
  | 2 => ("RustFamily$Thing", "coat", "I", false)
  | 3 => ("RustFamily$Thing", "rust", "I", false)
  | _ => ("RustFamily$Thing", "oil", "I", false)
def c_y5 : Nat → FieldType := fun k => match k with
  | 0 => .long
  | 1 => .int
  | 2 => .int
  | 3 => .int
  | _ => .int
theorem c_n5 : ∀ a, a < 5 → ∀ b, b < 5 → a ≠ b → (c_T5 a).2.1 ≠ (c_T5 b).2.1 := by decide +kernel
theorem c_t5 : ∀ k, k < 5 → parseFieldDescriptor (c_T5 k).2.2.1 = some (c_y5 k) := by decide +kernel
theorem c_i5 : ∀ w ∈ u_ws c_R5 c_T5 5, w ∈ lw_tbl := by decide +kernel
def c_R6 : String := "RustFamily$Plan"
def c_T6 : u_T := fun k => match k with
  | 0 => ("RustFamily$Plan", "told", "Z", false)
  | 1 => ("RustFamily$Plan", "steps", "I", false)
  | 2 => ("RustFamily$Plan", "kind", "[I", true)
  | 3 => ("RustFamily$Plan", "person", "[I", true)
  | 4 => ("RustFamily$Plan", "thing", "[I", true)
  | 5 => ("RustFamily$Plan", "much", "[I", true)
  | 6 => ("RustFamily$Plan", "past", "[I", true)
  | 7 => ("RustFamily$Plan", "done", "I", false)
  | 8 => ("RustFamily$Plan", "missed", "I", false)
  | 9 => ("RustFamily$Plan", "drawn", "I", false)
  | 10 => ("RustFamily$Plan", "at", "I", false)
  | 11 => ("RustFamily$Plan", "loops", "[I", true)
  | 12 => ("RustFamily$Plan", "rounds", "[I", true)
  | _ => ("RustFamily$Plan", "depth", "I", false)
def c_y6 : Nat → FieldType := fun k => match k with
  | 0 => .boolean
  | 1 => .int
  | 2 => .array .int
  | 3 => .array .int
  | 4 => .array .int
  | 5 => .array .int
  | 6 => .array .int
  | 7 => .int
  | 8 => .int
  | 9 => .int
  | 10 => .int
  | 11 => .array .int
  | 12 => .array .int
  | _ => .int
theorem c_n6 : ∀ a, a < 14 → ∀ b, b < 14 → a ≠ b → (c_T6 a).2.1 ≠ (c_T6 b).2.1 := by decide +kernel
theorem c_t6 : ∀ k, k < 14 → parseFieldDescriptor (c_T6 k).2.2.1 = some (c_y6 k) := by decide +kernel
theorem c_i6 : ∀ w ∈ u_ws c_R6 c_T6 14, w ∈ lw_tbl := by decide +kernel
def c_R7 : String := "RustFamily$Ahead"
def c_T7 : u_T := fun k => match k with
  | 0 => ("RustFamily$Ahead", "allWays", "I", false)
  | 1 => ("RustFamily$Ahead", "then", "LRustFamily$Thing;", true)
  | 2 => ("RustFamily$Ahead", "savings", "[I", true)
  | 3 => ("RustFamily$Ahead", "waysUpTo", "[I", true)
  | _ => ("RustFamily$Ahead", "mostBitten", "I", false)
def c_y7 : Nat → FieldType := fun k => match k with
  | 0 => .int
  | 1 => .object "RustFamily$Thing"
  | 2 => .array .int
  | 3 => .array .int
  | _ => .int
theorem c_n7 : ∀ a, a < 5 → ∀ b, b < 5 → a ≠ b → (c_T7 a).2.1 ≠ (c_T7 b).2.1 := by decide +kernel
theorem c_t7 : ∀ k, k < 5 → parseFieldDescriptor (c_T7 k).2.2.1 = some (c_y7 k) := by decide +kernel
theorem c_i7 : ∀ w ∈ u_ws c_R7 c_T7 5, w ∈ lw_tbl := by decide +kernel
def c_R8 : String := "RustFamily$Sight"
def c_T8 : u_T := fun k => match k with
  | 0 => ("RustFamily$Sight", "fits", "[Z", true)
  | 1 => ("RustFamily$Sight", "waysOfSum", "[I", true)
  | _ => ("RustFamily$Sight", "lovers", "I", false)
def c_y8 : Nat → FieldType := fun k => match k with
  | 0 => .array .boolean
  | 1 => .array .int
  | _ => .int
theorem c_n8 : ∀ a, a < 3 → ∀ b, b < 3 → a ≠ b → (c_T8 a).2.1 ≠ (c_T8 b).2.1 := by decide +kernel
theorem c_t8 : ∀ k, k < 3 → parseFieldDescriptor (c_T8 k).2.2.1 = some (c_y8 k) := by decide +kernel
theorem c_i8 : ∀ w ∈ u_ws c_R8 c_T8 3, w ∈ lw_tbl := by decide +kernel
def c_R9 : String := "RustFamily$Keepers"
def c_T9 : u_T := fun k => match k with
  | 0 => ("RustFamily$Keepers", "kept", "[I", true)
  | 1 => ("RustFamily$Keepers", "keeper", "[I", true)
  | 2 => ("RustFamily$Keepers", "asked", "[I", true)
  | 3 => ("RustFamily$Keepers", "members", "[I", true)
  | 4 => ("RustFamily$Keepers", "size", "I", false)
  | _ => ("RustFamily$Keepers", "leastBehind", "[I", true)
def c_y9 : Nat → FieldType := fun k => match k with
  | 0 => .array .int
  | 1 => .array .int
  | 2 => .array .int
  | 3 => .array .int
  | 4 => .int
  | _ => .array .int
theorem c_n9 : ∀ a, a < 6 → ∀ b, b < 6 → a ≠ b → (c_T9 a).2.1 ≠ (c_T9 b).2.1 := by decide +kernel
theorem c_t9 : ∀ k, k < 6 → parseFieldDescriptor (c_T9 k).2.2.1 = some (c_y9 k) := by decide +kernel
theorem c_i9 : ∀ w ∈ u_ws c_R9 c_T9 6, w ∈ lw_tbl := by decide +kernel
def c_R10 : String := "RustFamily$Game"
def c_T10 : u_T := fun k => match k with
  | 0 => ("RustFamily$Game", "firstMove", "I", false)
  | 1 => ("RustFamily$Game", "boards", "[LRustFamily$Thing;", true)
  | _ => ("RustFamily$Game", "loved", "[I", true)
def c_y10 : Nat → FieldType := fun k => match k with
  | 0 => .int
  | 1 => .array (.object "RustFamily$Thing")
  | _ => .array .int
theorem c_n10 : ∀ a, a < 3 → ∀ b, b < 3 → a ≠ b → (c_T10 a).2.1 ≠ (c_T10 b).2.1 := by decide +kernel
theorem c_t10 : ∀ k, k < 3 → parseFieldDescriptor (c_T10 k).2.2.1 = some (c_y10 k) := by decide +kernel
theorem c_i10 : ∀ w ∈ u_ws c_R10 c_T10 3, w ∈ lw_tbl := by decide +kernel
def c_R11 : String := "RustFamilyModel"
def c_T11 : u_T := fun k => match k with
  | 0 => ("RustFamilyModel", "status", "I", false)
  | 1 => ("RustFamilyModel", "thrown", "I", false)
  | 2 => ("RustFamilyModel", "above", "J", false)
  | 3 => ("RustFamilyModel", "under", "J", false)
  | 4 => ("RustFamilyModel", "traySort", "[I", true)
  | 5 => ("RustFamilyModel", "trayMany", "[I", true)
  | 6 => ("RustFamilyModel", "numbers", "[J", true)
  | 7 => ("RustFamilyModel", "tape", "[B", true)
  | 8 => ("RustFamilyModel", "taped", "I", false)
  | 9 => ("RustFamilyModel", "textEnd", "I", false)
  | 10 => ("RustFamilyModel", "faultKind", "I", false)
  | 11 => ("RustFamilyModel", "faultAt", "I", false)
  | 12 => ("RustFamilyModel", "bad", "I", false)
  | 13 => ("RustFamilyModel", "badAt", "I", false)
  | 14 => ("RustFamilyModel", "token", "I", false)
  | 15 => ("RustFamilyModel", "at", "I", false)
  | 16 => ("RustFamilyModel", "behind", "I", false)
  | 17 => ("RustFamilyModel", "number", "I", false)
  | 18 => ("RustFamilyModel", "letters", "I", false)
  | 19 => ("RustFamilyModel", "word", "J", false)
  | 20 => ("RustFamilyModel", "c", "[I", true)
  | 21 => ("RustFamilyModel", "aside", "[I", true)
  | 22 => ("RustFamilyModel", "before", "[I", true)
  | 23 => ("RustFamilyModel", "words", "[J", true)
  | 24 => ("RustFamilyModel", "markMany", "I", false)
  | 25 => ("RustFamilyModel", "toldOnce", "I", false)
  | 26 => ("RustFamilyModel", "newSteps", "I", false)
  | 27 => ("RustFamilyModel", "diedNow", "I", false)
  | 28 => ("RustFamilyModel", "firstOnes", "I", false)
  | 29 => ("RustFamilyModel", "wayMany", "I", false)
  | 30 => ("RustFamilyModel", "same", "[I", true)
  | 31 => ("RustFamilyModel", "ways", "[I", true)
  | 32 => ("RustFamilyModel", "trial", "[I", true)
  | 33 => ("RustFamilyModel", "kept", "[I", true)
  | 34 => ("RustFamilyModel", "leastLove", "I", false)
  | 35 => ("RustFamilyModel", "keeper", "[I", true)
  | 36 => ("RustFamilyModel", "asked", "[I", true)
  | 37 => ("RustFamilyModel", "turn", "[I", true)
  | 38 => ("RustFamilyModel", "firstMove", "I", false)
  | 39 => ("RustFamilyModel", "bites", "[J", true)
  | 40 => ("RustFamilyModel", "more", "[J", true)
  | 41 => ("RustFamilyModel", "rows", "J", false)
  | 42 => ("RustFamilyModel", "livedLast", "[I", true)
  | 43 => ("RustFamilyModel", "hasLived", "Z", false)
  | 44 => ("RustFamilyModel", "isOver", "Z", false)
  | 45 => ("RustFamilyModel", "random", "I", false)
  | 46 => ("RustFamilyModel", "done", "I", false)
  | 47 => ("RustFamilyModel", "missed", "I", false)
  | 48 => ("RustFamilyModel", "passed", "I", false)
  | 49 => ("RustFamilyModel", "wentThrough", "I", false)
  | _ => ("RustFamilyModel", "leftOver", "I", false)
def c_y11 : Nat → FieldType := fun k => match k with
  | 0 => .int
  | 1 => .int
  | 2 => .long
  | 3 => .long
  | 4 => .array .int
  | 5 => .array .int
  | 6 => .array .long
  | 7 => .array .byte
  | 8 => .int
  | 9 => .int
  | 10 => .int
  | 11 => .int
  | 12 => .int
  | 13 => .int
  | 14 => .int
  | 15 => .int
  | 16 => .int
  | 17 => .int
  | 18 => .int
  | 19 => .long
  | 20 => .array .int
  | 21 => .array .int
  | 22 => .array .int
  | 23 => .array .long
  | 24 => .int
  | 25 => .int
  | 26 => .int
  | 27 => .int
  | 28 => .int
  | 29 => .int
  | 30 => .array .int
  | 31 => .array .int
  | 32 => .array .int
  | 33 => .array .int
  | 34 => .int
  | 35 => .array .int
  | 36 => .array .int
  | 37 => .array .int
  | 38 => .int
  | 39 => .array .long
  | 40 => .array .long
  | 41 => .long
  | 42 => .array .int
  | 43 => .boolean
  | 44 => .boolean
  | 45 => .int
  | 46 => .int
  | 47 => .int
  | 48 => .int
  | 49 => .int
  | _ => .int
theorem c_n11 : ∀ a, a < 51 → ∀ b, b < 51 → a ≠ b → (c_T11 a).2.1 ≠ (c_T11 b).2.1 := by decide +kernel
theorem c_t11 : ∀ k, k < 51 → parseFieldDescriptor (c_T11 k).2.2.1 = some (c_y11 k) := by decide +kernel
theorem c_i11 : ∀ w ∈ u_ws c_R11 c_T11 51, w ∈ lw_tbl := by decide +kernel
/-- the classes of which cells are made -/
abbrev m_cl : List vw_C := [(c_R0, c_T0, 16), (c_R1, c_T1, 3), (c_R2, c_T2, 12), (c_R3, c_T3, 10), (c_R4, c_T4, 5), (c_R5, c_T5, 5), (c_R6, c_T6, 14), (c_R7, c_T7, 5), (c_R8, c_T8, 3), (c_R9, c_T9, 6), (c_R10, c_T10, 3), (c_R11, c_T11, 51)]
/-- the types of a class's fields: 0 int, 1 long, 2 a reference, 3 boolean -/
def m_ft (ci : Nat) : List Nat := match ci with
  | 0 => [0, 1, 1, 2, 2, 2, 2, 2, 2, 0, 2, 2, 2, 2, 2, 3]
  | 1 => [0, 0, 2]
  | 2 => [2, 0, 0, 0, 0, 0, 0, 1, 0, 0, 0, 0]
  | 3 => [0, 0, 0, 0, 0, 0, 0, 2, 2, 2]
  | 4 => [1, 0, 3, 3, 2]
  | 5 => [1, 0, 0, 0, 0]
  | 6 => [3, 0, 2, 2, 2, 2, 2, 0, 0, 0, 0, 2, 2, 0]
  | 7 => [0, 2, 2, 2, 0]
  | 8 => [2, 2, 0]
  | 9 => [2, 2, 2, 2, 0, 2]
  | 10 => [0, 2, 2]
  | 11 => [0, 0, 1, 1, 2, 2, 2, 2, 0, 0, 0, 0, 0, 0, 0, 0, 0, 0, 0, 1, 2, 2, 2, 2, 0, 0, 0, 0, 0, 0, 2, 2, 2, 2, 0, 2, 2, 2, 0, 2, 2, 1, 2, 3, 3, 0, 0, 0, 0, 0, 0]
  | _ => []
/-- the types of arrays' elements -/
def m_ty (t : Nat) : FieldType := match t with
  | 0 => .int
  | 1 => .long
  | 2 => .byte
  | 3 => .boolean
  | 4 => .object "RustFamily$Tray"
  | 5 => .object "RustFamily$Family"
  | 6 => .object "RustFamily$Person"
  | _ => .object "RustFamily$Thing"
/-- the shape of a kind of cells: an object of a class, or an array of a type, so long -/
def m_shp (k : Nat) : Option (Nat ⊕ (Nat × Nat)) := match k with
  | 1 => some (.inl 0)
  | 2 => some (.inr (4, 4))
  | 3 => some (.inl 1)
  | 4 => some (.inr (1, 60))
  | 5 => some (.inl 2)
  | 6 => some (.inr (2, 900))
  | 7 => some (.inl 3)
  | 8 => some (.inr (6, 6))
  | 9 => some (.inl 4)
  | 10 => some (.inr (0, 8))
  | 11 => some (.inr (7, 8))
  | 12 => some (.inl 5)
  | 13 => some (.inl 6)
  | 14 => some (.inr (0, 30))
  | 15 => some (.inr (0, 3))
  | 16 => some (.inr (5, 3))
  | 17 => some (.inl 7)
  | 18 => some (.inr (0, 8))
  | 19 => some (.inr (0, 727))
  | 20 => some (.inl 8)
  | 21 => some (.inr (3, 19))
  | 22 => some (.inr (0, 19))
  | 23 => some (.inl 9)
  | 24 => some (.inr (0, 6))
  | 25 => some (.inr (0, 8))
  | 26 => some (.inr (0, 6))
  | 27 => some (.inr (0, 6))
  | 28 => some (.inr (0, 256))
  | 29 => some (.inl 10)
  | 30 => some (.inr (7, 10))
  | 31 => some (.inr (0, 10))
  | 32 => some (.inr (0, 5))
  | 40 => some (.inl 11)
  | 41 => some (.inr (0, 4))
  | 42 => some (.inr (0, 4))
  | 43 => some (.inr (1, 240))
  | 44 => some (.inr (2, 900))
  | 45 => some (.inr (0, 1885))
  | 46 => some (.inr (0, 105))
  | 47 => some (.inr (0, 105))
  | 48 => some (.inr (1, 70))
  | 49 => some (.inr (0, 6))
  | 50 => some (.inr (0, 19))
  | 51 => some (.inr (0, 6))
  | 52 => some (.inr (0, 6))
  | 53 => some (.inr (0, 8))
  | 54 => some (.inr (0, 6))
  | 55 => some (.inr (0, 525))
  | 56 => some (.inr (1, 800))
  | 57 => some (.inr (1, 800))
  | 58 => some (.inr (0, 5))
  | _ => none
/-- the cells in the order in which they are made -/
def m_pl0 : List mA := [(1, 0, 0), (2, 0, 0), (3, 0, 0), (4, 0, 0), (3, 0, 1), (4, 0, 1), (3, 0, 2), (4, 0, 2), (3, 0, 3), (4, 0, 3), (5, 0, 0), (6, 0, 0), (7, 0, 0), (8, 0, 0), (9, 0, 0), (10, 0, 0), (9, 0, 1), (10, 0, 1), (9, 0, 2), (10, 0, 2), (9, 0, 3), (10, 0, 3), (9, 0, 4), (10, 0, 4), (9, 0, 5), (10, 0, 5), (11, 0, 0), (12, 0, 0), (12, 0, 1), (12, 0, 2), (12, 0, 3), (12, 0, 4), (12, 0, 5), (12, 0, 6), (12, 0, 7), (13, 0, 0), (14, 0, 0), (14, 0, 1), (14, 0, 2), (14, 0, 3), (14, 0, 4), (15, 0, 0), (15, 0, 1), (7, 1, 0), (8, 1, 0), (9, 1, 0), (10, 1, 0), (9, 1, 1), (10, 1, 1), (9, 1, 2), (10, 1, 2), (9, 1, 3), (10, 1, 3), (9, 1, 4), (10, 1, 4), (9, 1, 5), (10, 1, 5), (11, 1, 0), (12, 1, 0), (12, 1, 1), (12, 1, 2), (12, 1, 3), (12, 1, 4), (12, 1, 5), (12, 1, 6), (12, 1, 7), (13, 1, 0), (14, 1, 0), (14, 1, 1), (14, 1, 2), (14, 1, 3), (14, 1, 4), (15, 1, 0), (15, 1, 1), (13, 5, 0), (14, 5, 0), (14, 5, 1), (14, 5, 2), (14, 5, 3), (14, 5, 4), (15, 5, 0), (15, 5, 1), (16, 0, 0), (17, 0, 0), (12, 5, 0), (18, 0, 0), (19, 0, 0), (20, 0, 0), (21, 0, 0), (22, 0, 0), (23, 0, 0), (24, 0, 0), (25, 0, 0), (26, 0, 0), (27, 0, 0), (28, 0, 0), (29, 0, 0), (30, 0, 0), (12, 6, 0), (12, 6, 1), (12, 6, 2), (12, 6, 3), (12, 6, 4), (12, 6, 5), (12, 6, 6), (12, 6, 7), (12, 6, 8), (12, 6, 9), (31, 0, 0), (32, 0, 0)]
def m_pl1 : List mA := [(40, 0, 0), (41, 0, 0), (42, 0, 0), (43, 0, 0), (44, 0, 0), (45, 0, 0), (46, 0, 0), (47, 0, 0), (48, 0, 0), (49, 0, 0), (50, 0, 0), (51, 0, 0), (52, 0, 0), (53, 0, 0), (54, 0, 0), (55, 0, 0), (56, 0, 0), (57, 0, 0), (58, 0, 0)]
def m_pl2 : List mA := [(7, 2, 0), (8, 2, 0), (9, 2, 0), (10, 2, 0), (9, 2, 1), (10, 2, 1), (9, 2, 2), (10, 2, 2), (9, 2, 3), (10, 2, 3), (9, 2, 4), (10, 2, 4), (9, 2, 5), (10, 2, 5), (11, 2, 0), (12, 2, 0), (12, 2, 1), (12, 2, 2), (12, 2, 3), (12, 2, 4), (12, 2, 5), (12, 2, 6), (12, 2, 7), (13, 2, 0), (14, 2, 0), (14, 2, 1), (14, 2, 2), (14, 2, 3), (14, 2, 4), (15, 2, 0), (15, 2, 1), (7, 3, 0), (8, 3, 0), (9, 3, 0), (10, 3, 0), (9, 3, 1), (10, 3, 1), (9, 3, 2), (10, 3, 2), (9, 3, 3), (10, 3, 3), (9, 3, 4), (10, 3, 4), (9, 3, 5), (10, 3, 5), (11, 3, 0), (12, 3, 0), (12, 3, 1), (12, 3, 2), (12, 3, 3), (12, 3, 4), (12, 3, 5), (12, 3, 6), (12, 3, 7), (13, 3, 0), (14, 3, 0), (14, 3, 1), (14, 3, 2), (14, 3, 3), (14, 3, 4), (15, 3, 0), (15, 3, 1), (7, 4, 0), (8, 4, 0), (9, 4, 0), (10, 4, 0), (9, 4, 1), (10, 4, 1), (9, 4, 2), (10, 4, 2), (9, 4, 3), (10, 4, 3), (9, 4, 4), (10, 4, 4), (9, 4, 5), (10, 4, 5), (11, 4, 0), (12, 4, 0), (12, 4, 1), (12, 4, 2), (12, 4, 3), (12, 4, 4), (12, 4, 5), (12, 4, 6), (12, 4, 7), (13, 4, 0), (14, 4, 0), (14, 4, 1), (14, 4, 2), (14, 4, 3), (14, 4, 4), (15, 4, 0), (15, 4, 1)]
def m_plL : List mA := m_pl0 ++ (m_pl1 ++ m_pl2)
def m_pl (k : Nat) : mA := m_plL.getD k (0, 0, 0)
def m_idx (a : mA) : Nat := m_plL.idxOf a
-- made by the class: 110, then by the reference up to 129, by marks up to 222
