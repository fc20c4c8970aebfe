def RX0 : String := "SweetWaits$Asked"
def TX0 : u_T := fun k => match k with
  | 0 => ("SweetWaits$Asked", "words", "[I", true)
  | _ => ("SweetWaits$Asked", "stack", "[I", true)
def tyX0 : Nat → FieldType := fun k => match k with
  | 0 => .array .int
  | _ => .array .int
theorem nmX0 : ∀ a, a < 2 → ∀ b, b < 2 → a ≠ b → (TX0 a).2.1 ≠ (TX0 b).2.1 := by decide +kernel
theorem tyX0_ok : ∀ k, k < 2 → parseFieldDescriptor (TX0 k).2.2.1 = some (tyX0 k) := by decide +kernel
def RX1 : String := "SweetWaits$Children"
def TX1 : u_T := fun k => match k with
  | 0 => ("SweetWaits$Children", "rows", "[I", true)
  | 1 => ("SweetWaits$Children", "rules", "[I", true)
  | 2 => ("SweetWaits$Children", "meanings", "[I", true)
  | 3 => ("SweetWaits$Children", "laws", "[LSweetWaits$Law;", true)
  | 4 => ("SweetWaits$Children", "size", "I", false)
  | _ => ("SweetWaits$Children", "lawCount", "I", false)
def tyX1 : Nat → FieldType := fun k => match k with
  | 0 => .array .int
  | 1 => .array .int
  | 2 => .array .int
  | 3 => .array (.object "SweetWaits$Law")
  | 4 => .int
  | _ => .int
theorem nmX1 : ∀ a, a < 6 → ∀ b, b < 6 → a ≠ b → (TX1 a).2.1 ≠ (TX1 b).2.1 := by decide +kernel
theorem tyX1_ok : ∀ k, k < 6 → parseFieldDescriptor (TX1 k).2.2.1 = some (tyX1 k) := by decide +kernel
def RX2 : String := "SweetWaits$Curve"
def TX2 : u_T := fun k => match k with
  | 0 => ("SweetWaits$Curve", "took", "[I", true)
  | 1 => ("SweetWaits$Curve", "cut", "[I", true)
  | 2 => ("SweetWaits$Curve", "still", "[I", true)
  | _ => ("SweetWaits$Curve", "ratio", "LSweetWaits$Ratio;", true)
def tyX2 : Nat → FieldType := fun k => match k with
  | 0 => .array .int
  | 1 => .array .int
  | 2 => .array .int
  | _ => .object "SweetWaits$Ratio"
theorem nmX2 : ∀ a, a < 4 → ∀ b, b < 4 → a ≠ b → (TX2 a).2.1 ≠ (TX2 b).2.1 := by decide +kernel
theorem tyX2_ok : ∀ k, k < 4 → parseFieldDescriptor (TX2 k).2.2.1 = some (tyX2 k) := by decide +kernel
def RX3 : String := "SweetWaits$Draws"
def TX3 : u_T := fun k => match k with
  | _ => ("SweetWaits$Draws", "s", "I", false)
def tyX3 : Nat → FieldType := fun k => match k with
  | _ => .int
theorem nmX3 : ∀ a, a < 1 → ∀ b, b < 1 → a ≠ b → (TX3 a).2.1 ≠ (TX3 b).2.1 := by decide +kernel
theorem tyX3_ok : ∀ k, k < 1 → parseFieldDescriptor (TX3 k).2.2.1 = some (tyX3 k) := by decide +kernel
def RX4 : String := "SweetWaits$Group"
def TX4 : u_T := fun k => match k with
  | 0 => ("SweetWaits$Group", "members", "[I", true)
  | _ => ("SweetWaits$Group", "size", "I", false)
def tyX4 : Nat → FieldType := fun k => match k with
  | 0 => .array .int
  | _ => .int
theorem nmX4 : ∀ a, a < 2 → ∀ b, b < 2 → a ≠ b → (TX4 a).2.1 ≠ (TX4 b).2.1 := by decide +kernel
theorem tyX4_ok : ∀ k, k < 2 → parseFieldDescriptor (TX4 k).2.2.1 = some (tyX4 k) := by decide +kernel
def RX5 : String := "SweetWaits$Law"
def TX5 : u_T := fun k => match k with
  | 0 => ("SweetWaits$Law", "steps", "[I", true)
  | _ => ("SweetWaits$Law", "clauses", "[I", true)
def tyX5 : Nat → FieldType := fun k => match k with
  | 0 => .array .int
  | _ => .array .int
theorem nmX5 : ∀ a, a < 2 → ∀ b, b < 2 → a ≠ b → (TX5 a).2.1 ≠ (TX5 b).2.1 := by decide +kernel
theorem tyX5_ok : ∀ k, k < 2 → parseFieldDescriptor (TX5 k).2.2.1 = some (tyX5 k) := by decide +kernel
def RX6 : String := "SweetWaits$Ratio"
def TX6 : u_T := fun k => match k with
  | 0 => ("SweetWaits$Ratio", "over", "[I", true)
  | 1 => ("SweetWaits$Ratio", "under", "[I", true)
  | 2 => ("SweetWaits$Ratio", "overLength", "I", false)
  | 3 => ("SweetWaits$Ratio", "underLength", "I", false)
  | 4 => ("SweetWaits$Ratio", "above", "[I", true)
  | 5 => ("SweetWaits$Ratio", "below", "[I", true)
  | 6 => ("SweetWaits$Ratio", "about", "J", false)
  | _ => ("SweetWaits$Ratio", "doubt", "J", false)
def tyX6 : Nat → FieldType := fun k => match k with
  | 0 => .array .int
  | 1 => .array .int
  | 2 => .int
  | 3 => .int
  | 4 => .array .int
  | 5 => .array .int
  | 6 => .long
  | _ => .long
theorem nmX6 : ∀ a, a < 8 → ∀ b, b < 8 → a ≠ b → (TX6 a).2.1 ≠ (TX6 b).2.1 := by decide +kernel
theorem tyX6_ok : ∀ k, k < 8 → parseFieldDescriptor (TX6 k).2.2.1 = some (tyX6 k) := by decide +kernel
def RX7 : String := "SweetWaits$Reader"
def TX7 : u_T := fun k => match k with
  | 0 => ("SweetWaits$Reader", "steps", "[I", true)
  | 1 => ("SweetWaits$Reader", "clauses", "[I", true)
  | 2 => ("SweetWaits$Reader", "stepCount", "I", false)
  | 3 => ("SweetWaits$Reader", "clauseCount", "I", false)
  | 4 => ("SweetWaits$Reader", "partCount", "I", false)
  | 5 => ("SweetWaits$Reader", "tape", "LSweetWaits$Tape;", true)
  | 6 => ("SweetWaits$Reader", "kind", "I", false)
  | 7 => ("SweetWaits$Reader", "place", "I", false)
  | 8 => ("SweetWaits$Reader", "behind", "I", false)
  | 9 => ("SweetWaits$Reader", "number", "I", false)
  | _ => ("SweetWaits$Reader", "faultPlace", "I", false)
def tyX7 : Nat → FieldType := fun k => match k with
  | 0 => .array .int
  | 1 => .array .int
  | 2 => .int
  | 3 => .int
  | 4 => .int
  | 5 => .object "SweetWaits$Tape"
  | 6 => .int
  | 7 => .int
  | 8 => .int
  | 9 => .int
  | _ => .int
theorem nmX7 : ∀ a, a < 11 → ∀ b, b < 11 → a ≠ b → (TX7 a).2.1 ≠ (TX7 b).2.1 := by decide +kernel
theorem tyX7_ok : ∀ k, k < 11 → parseFieldDescriptor (TX7 k).2.2.1 = some (tyX7 k) := by decide +kernel
def RX8 : String := "SweetWaits$Sides"
def TX8 : u_T := fun k => match k with
  | 0 => ("SweetWaits$Sides", "longs", "LSweetWaits$Group;", true)
  | 1 => ("SweetWaits$Sides", "shorts", "LSweetWaits$Group;", true)
  | 2 => ("SweetWaits$Sides", "found", "LSweetWaits$Group;", true)
  | 3 => ("SweetWaits$Sides", "things", "[I", true)
  | 4 => ("SweetWaits$Sides", "ways", "[I", true)
  | 5 => ("SweetWaits$Sides", "balances", "[I", true)
  | 6 => ("SweetWaits$Sides", "decided", "[I", true)
  | 7 => ("SweetWaits$Sides", "scores", "[I", true)
  | 8 => ("SweetWaits$Sides", "rows", "[I", false)
  | 9 => ("SweetWaits$Sides", "won", "I", false)
  | 10 => ("SweetWaits$Sides", "lost", "I", false)
  | _ => ("SweetWaits$Sides", "even", "I", false)
def tyX8 : Nat → FieldType := fun k => match k with
  | 0 => .object "SweetWaits$Group"
  | 1 => .object "SweetWaits$Group"
  | 2 => .object "SweetWaits$Group"
  | 3 => .array .int
  | 4 => .array .int
  | 5 => .array .int
  | 6 => .array .int
  | 7 => .array .int
  | 8 => .array .int
  | 9 => .int
  | 10 => .int
  | _ => .int
theorem nmX8 : ∀ a, a < 12 → ∀ b, b < 12 → a ≠ b → (TX8 a).2.1 ≠ (TX8 b).2.1 := by decide +kernel
theorem tyX8_ok : ∀ k, k < 12 → parseFieldDescriptor (TX8 k).2.2.1 = some (tyX8 k) := by decide +kernel
def RX9 : String := "SweetWaits$Tape"
def TX9 : u_T := fun k => match k with
  | 0 => ("SweetWaits$Tape", "bytes", "[B", true)
  | _ => ("SweetWaits$Tape", "length", "I", false)
def tyX9 : Nat → FieldType := fun k => match k with
  | 0 => .array .byte
  | _ => .int
theorem nmX9 : ∀ a, a < 2 → ∀ b, b < 2 → a ≠ b → (TX9 a).2.1 ≠ (TX9 b).2.1 := by decide +kernel
theorem tyX9_ok : ∀ k, k < 2 → parseFieldDescriptor (TX9 k).2.2.1 = some (tyX9 k) := by decide +kernel
def RX10 : String := "SweetWaits$World"
def TX10 : u_T := fun k => match k with
  | 0 => ("SweetWaits$World", "rows", "[I", true)
  | 1 => ("SweetWaits$World", "tells", "[I", true)
  | 2 => ("SweetWaits$World", "size", "I", false)
  | _ => ("SweetWaits$World", "stands", "Z", false)
def tyX10 : Nat → FieldType := fun k => match k with
  | 0 => .array .int
  | 1 => .array .int
  | 2 => .int
  | _ => .boolean
theorem nmX10 : ∀ a, a < 4 → ∀ b, b < 4 → a ≠ b → (TX10 a).2.1 ≠ (TX10 b).2.1 := by decide +kernel
theorem tyX10_ok : ∀ k, k < 4 → parseFieldDescriptor (TX10 k).2.2.1 = some (tyX10 k) := by decide +kernel
def RX11 : String := "SweetWaits"
def TX11 : u_T := fun k => match k with
  | 0 => ("SweetWaits", "now", "LSweetWaits$Children;", true)
  | 1 => ("SweetWaits", "images", "[LSweetWaits$Children;", true)
  | 2 => ("SweetWaits", "tape", "LSweetWaits$Tape;", true)
  | 3 => ("SweetWaits", "reader", "LSweetWaits$Reader;", true)
  | 4 => ("SweetWaits", "asked", "LSweetWaits$Asked;", true)
  | 5 => ("SweetWaits", "first", "LSweetWaits$Group;", true)
  | 6 => ("SweetWaits", "second", "LSweetWaits$Group;", true)
  | 7 => ("SweetWaits", "ratio", "LSweetWaits$Ratio;", true)
  | 8 => ("SweetWaits", "curve", "LSweetWaits$Curve;", true)
  | 9 => ("SweetWaits", "sides", "LSweetWaits$Sides;", true)
  | 10 => ("SweetWaits", "latest", "LSweetWaits$World;", true)
  | 11 => ("SweetWaits", "draws", "LSweetWaits$Draws;", true)
  | 12 => ("SweetWaits", "parted", "[I", true)
  | 13 => ("SweetWaits", "refusals", "[I", true)
  | _ => ("SweetWaits", "refusedBy", "I", false)
def tyX11 : Nat → FieldType := fun k => match k with
  | 0 => .object "SweetWaits$Children"
  | 1 => .array (.object "SweetWaits$Children")
  | 2 => .object "SweetWaits$Tape"
  | 3 => .object "SweetWaits$Reader"
  | 4 => .object "SweetWaits$Asked"
  | 5 => .object "SweetWaits$Group"
  | 6 => .object "SweetWaits$Group"
  | 7 => .object "SweetWaits$Ratio"
  | 8 => .object "SweetWaits$Curve"
  | 9 => .object "SweetWaits$Sides"
  | 10 => .object "SweetWaits$World"
  | 11 => .object "SweetWaits$Draws"
  | 12 => .array .int
  | 13 => .array .int
  | _ => .int
theorem nmX11 : ∀ a, a < 15 → ∀ b, b < 15 → a ≠ b → (TX11 a).2.1 ≠ (TX11 b).2.1 := by decide +kernel
theorem tyX11_ok : ∀ k, k < 15 → parseFieldDescriptor (TX11 k).2.2.1 = some (tyX11 k) := by decide +kernel
def RX12 : String := "SweetWaitsModel"
def TX12 : u_T := fun k => match k with
  | 0 => ("SweetWaitsModel", "status", "I", false)
  | 1 => ("SweetWaitsModel", "refused", "[I", true)
  | 2 => ("SweetWaitsModel", "kept", "[I", true)
  | 3 => ("SweetWaitsModel", "images", "[I", true)
  | 4 => ("SweetWaitsModel", "hasImage", "[Z", true)
  | 5 => ("SweetWaitsModel", "words", "[B", true)
  | 6 => ("SweetWaitsModel", "tape", "[B", true)
  | 7 => ("SweetWaitsModel", "five", "[I", true)
  | 8 => ("SweetWaitsModel", "taped", "I", false)
  | 9 => ("SweetWaitsModel", "fault", "I", false)
  | 10 => ("SweetWaitsModel", "code", "[I", true)
  | 11 => ("SweetWaitsModel", "value", "[I", true)
  | 12 => ("SweetWaitsModel", "placed", "[I", true)
  | 13 => ("SweetWaitsModel", "tokens", "I", false)
  | 14 => ("SweetWaitsModel", "token", "I", false)
  | 15 => ("SweetWaitsModel", "leaves", "I", false)
  | 16 => ("SweetWaitsModel", "bad", "I", false)
  | 17 => ("SweetWaitsModel", "go", "I", false)
  | 18 => ("SweetWaitsModel", "goEnd", "I", false)
  | 19 => ("SweetWaitsModel", "broken", "Z", false)
  | 20 => ("SweetWaitsModel", "asked", "[I", true)
  | 21 => ("SweetWaitsModel", "told", "J", false)
  | 22 => ("SweetWaitsModel", "isTold", "Z", false)
  | 23 => ("SweetWaitsModel", "members", "[I", true)
  | 24 => ("SweetWaitsModel", "memberMany", "I", false)
  | 25 => ("SweetWaitsModel", "one", "[J", true)
  | 26 => ("SweetWaitsModel", "two", "[J", true)
  | 27 => ("SweetWaitsModel", "spare", "[J", true)
  | 28 => ("SweetWaitsModel", "parted", "[I", true)
  | 29 => ("SweetWaitsModel", "won", "I", false)
  | 30 => ("SweetWaitsModel", "lost", "I", false)
  | 31 => ("SweetWaitsModel", "even", "I", false)
  | 32 => ("SweetWaitsModel", "wonBy", "[I", true)
  | 33 => ("SweetWaitsModel", "lostBy", "[I", true)
  | 34 => ("SweetWaitsModel", "things", "[I", true)
  | 35 => ("SweetWaitsModel", "latest", "I", false)
  | 36 => ("SweetWaitsModel", "found", "[I", true)
  | 37 => ("SweetWaitsModel", "first", "[Z", true)
  | 38 => ("SweetWaitsModel", "worldMany", "I", false)
  | 39 => ("SweetWaitsModel", "worldEnd", "I", false)
  | 40 => ("SweetWaitsModel", "worldMinutes", "[I", true)
  | 41 => ("SweetWaitsModel", "worldTakes", "[I", true)
  | 42 => ("SweetWaitsModel", "worldLater", "[I", true)
  | _ => ("SweetWaitsModel", "worldFacts", "[I", true)
def tyX12 : Nat → FieldType := fun k => match k with
  | 0 => .int
  | 1 => .array .int
  | 2 => .array .int
  | 3 => .array .int
  | 4 => .array .boolean
  | 5 => .array .byte
  | 6 => .array .byte
  | 7 => .array .int
  | 8 => .int
  | 9 => .int
  | 10 => .array .int
  | 11 => .array .int
  | 12 => .array .int
  | 13 => .int
  | 14 => .int
  | 15 => .int
  | 16 => .int
  | 17 => .int
  | 18 => .int
  | 19 => .boolean
  | 20 => .array .int
  | 21 => .long
  | 22 => .boolean
  | 23 => .array .int
  | 24 => .int
  | 25 => .array .long
  | 26 => .array .long
  | 27 => .array .long
  | 28 => .array .int
  | 29 => .int
  | 30 => .int
  | 31 => .int
  | 32 => .array .int
  | 33 => .array .int
  | 34 => .array .int
  | 35 => .int
  | 36 => .array .int
  | 37 => .array .boolean
  | 38 => .int
  | 39 => .int
  | 40 => .array .int
  | 41 => .array .int
  | 42 => .array .int
  | _ => .array .int
theorem nmX12 : ∀ a, a < 44 → ∀ b, b < 44 → a ≠ b → (TX12 a).2.1 ≠ (TX12 b).2.1 := by decide +kernel
theorem tyX12_ok : ∀ k, k < 44 → parseFieldDescriptor (TX12 k).2.2.1 = some (tyX12 k) := by decide +kernel
abbrev vwCl : List vw_C := [(RX0, TX0, 2), (RX1, TX1, 6), (RX2, TX2, 4), (RX3, TX3, 1), (RX4, TX4, 2), (RX5, TX5, 2), (RX6, TX6, 8), (RX7, TX7, 11), (RX8, TX8, 12), (RX9, TX9, 2), (RX10, TX10, 4), (RX11, TX11, 15), (RX12, TX12, 44)]
/-- the classes by number -/
def am_R : Nat → String := fun c => match c with
  | 0 => "SweetWaits$Asked"
  | 1 => "SweetWaits$Children"
  | 2 => "SweetWaits$Curve"
  | 3 => "SweetWaits$Draws"
  | 4 => "SweetWaits$Group"
  | 5 => "SweetWaits$Law"
  | 6 => "SweetWaits$Ratio"
  | 7 => "SweetWaits$Reader"
  | 8 => "SweetWaits$Sides"
  | 9 => "SweetWaits$Tape"
  | 10 => "SweetWaits$World"
  | 11 => "SweetWaits"
  | 12 => "SweetWaitsModel"
  | 13 => "SweetWaitsLaw"
  | 14 => "java/lang/Math"
  | 15 => "java/lang/Integer"
  | 16 => "java/util/Arrays"
  | _ => "java/lang/String"
def am_T : Nat → u_T := fun c => match c with
  | 0 => TX0
  | 1 => TX1
  | 2 => TX2
  | 3 => TX3
  | 4 => TX4
  | 5 => TX5
  | 6 => TX6
  | 7 => TX7
  | 8 => TX8
  | 9 => TX9
  | 10 => TX10
  | 11 => TX11
  | _ => TX12
def am_ty : Nat → Nat → FieldType := fun c => match c with
  | 0 => tyX0
  | 1 => tyX1
  | 2 => tyX2
  | 3 => tyX3
  | 4 => tyX4
  | 5 => tyX5
  | 6 => tyX6
  | 7 => tyX7
  | 8 => tyX8
  | 9 => tyX9
  | 10 => tyX10
  | 11 => tyX11
  | _ => tyX12
/-- how many fields -/
def am_nf : Nat → Nat := fun c => match c with
  | 0 => 2
  | 1 => 6
  | 2 => 4
  | 3 => 1
  | 4 => 2
  | 5 => 2
  | 6 => 8
  | 7 => 11
  | 8 => 12
  | 9 => 2
  | 10 => 4
  | 11 => 15
  | _ => 44
/-- a field's kind by its type: 0 int, 1 long, 2 a reference, 3 boolean -/
def am_fk (t : FieldType) : Nat := match t with
  | .int => 0
  | .long => 1
  | .boolean => 3
  | _ => 2
def am_ft (c k : Nat) : Nat := am_fk (am_ty c k)
theorem am_cl_at : ∀ c, c < 13 → vwCl[c]? = some (am_R c, am_T c, am_nf c) := by
  intro c hc
  match c, hc with
  | 0, _ => rfl
  | 1, _ => rfl
  | 2, _ => rfl
  | 3, _ => rfl
  | 4, _ => rfl
  | 5, _ => rfl
  | 6, _ => rfl
  | 7, _ => rfl
  | 8, _ => rfl
  | 9, _ => rfl
  | 10, _ => rfl
  | 11, _ => rfl
  | 12, _ => rfl
  | n + 13, h => exact absurd h (by omega)
theorem am_ty_ok : ∀ c, c < 13 → ∀ k, k < am_nf c → parseFieldDescriptor (am_T c k).2.2.1 = some (am_ty c k) := by
  intro c hc
  match c, hc with
  | 0, _ => exact tyX0_ok
  | 1, _ => exact tyX1_ok
  | 2, _ => exact tyX2_ok
  | 3, _ => exact tyX3_ok
  | 4, _ => exact tyX4_ok
  | 5, _ => exact tyX5_ok
  | 6, _ => exact tyX6_ok
  | 7, _ => exact tyX7_ok
  | 8, _ => exact tyX8_ok
  | 9, _ => exact tyX9_ok
  | 10, _ => exact tyX10_ok
  | 11, _ => exact tyX11_ok
  | 12, _ => exact tyX12_ok
  | n + 13, h => exact absurd h (by omega)
theorem am_nm_ok : ∀ c, c < 13 → ∀ a, a < am_nf c → ∀ b, b < am_nf c → a ≠ b → (am_T c a).2.1 ≠ (am_T c b).2.1 := by
  intro c hc
  match c, hc with
  | 0, _ => exact nmX0
  | 1, _ => exact nmX1
  | 2, _ => exact nmX2
  | 3, _ => exact nmX3
  | 4, _ => exact nmX4
  | 5, _ => exact nmX5
  | 6, _ => exact nmX6
  | 7, _ => exact nmX7
  | 8, _ => exact nmX8
  | 9, _ => exact nmX9
  | 10, _ => exact nmX10
  | 11, _ => exact nmX11
  | 12, _ => exact nmX12
  | n + 13, h => exact absurd h (by omega)
